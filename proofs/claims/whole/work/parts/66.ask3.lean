theorem dX11_order_0 : decode cX11_order 0 = .ok (.aload_n 0, 1) := by decide +kernel
theorem dX11_order_1 : decode cX11_order 1 = .ok (.iload_n 1, 1) := by decide +kernel
theorem dX11_order_2 : decode cX11_order 2 = .ok (.iload_n 2, 1) := by decide +kernel
theorem dX11_order_3 : decode cX11_order 3 = .ok (.invokevirtual 210, 3) := by decide +kernel
theorem dX11_order_6 : decode cX11_order 6 = .ok (.ifCond .eq 14, 3) := by decide +kernel
theorem dX11_order_9 : decode cX11_order 9 = .ok (.aload_n 0, 1) := by decide +kernel
theorem dX11_order_10 : decode cX11_order 10 = .ok (.getfield 60, 3) := by decide +kernel
theorem dX11_order_13 : decode cX11_order 13 = .ok (.iload_n 3, 1) := by decide +kernel
theorem dX11_order_14 : decode cX11_order 14 = .ok (.invokevirtual 182, 3) := by decide +kernel
theorem dX11_order_17 : decode cX11_order 17 = .ok (.ifCond .ne 6, 3) := by decide +kernel
theorem dX11_order_20 : decode cX11_order 20 = .ok (.bipush (-100), 2) := by decide +kernel
theorem dX11_order_22 : decode cX11_order 22 = .ok (.ireturn, 1) := by decide +kernel
theorem dX11_order_23 : decode cX11_order 23 = .ok (.aload_n 0, 1) := by decide +kernel
theorem dX11_order_24 : decode cX11_order 24 = .ok (.getfield 67, 3) := by decide +kernel
theorem dX11_order_27 : decode cX11_order 27 = .ok (.aload_n 0, 1) := by decide +kernel
theorem dX11_order_28 : decode cX11_order 28 = .ok (.getfield 60, 3) := by decide +kernel
theorem dX11_order_31 : decode cX11_order 31 = .ok (.iload_n 3, 1) := by decide +kernel
theorem dX11_order_32 : decode cX11_order 32 = .ok (.invokevirtual 213, 3) := by decide +kernel
theorem dX11_order_35 : decode cX11_order 35 = .ok (.ireturn, 1) := by decide +kernel
set_option maxRecDepth 20000 in
theorem b_X11_order_0 {k n : Nat} {x : Wx} {Z : Zt} {Q : Option Value → Wx → Zt → Prop} {a0 : Nat} {v1 : Int} {v2 : Int} {v3 : Int} (o_a0 : Is11 x a0)
    (h : ∃ g1 : Ab, (OI x Z a0 g1 ∧ Rg v1 ∧ Rg v2 ∧ (∀ (x'1 : Wx) (Z'1 : Zt) (r'1 : Int), (OI x'1 Z'1 a0 g1 ∧ Fx a0 x x'1 Z Z'1 ∧ r'1 = bI (mesB g1.nw v1 v2) ∧ (mesB g1.nw v1 v2 = true → Z'1 a0 14 = v1 ∧ MsA Z'1 (a0 + 56) (g1.nw.p (Int.toNat v1)) (g1.nw.F (Int.toNat v1)) (g1.nw.A (Int.toNat v1) (Int.toNat v2)) (g1.nw.B (Int.toNat v1) (Int.toNat v2)))) → (Is11 x'1 a0 ∧ (Rg r'1 ∧ (((r'1 = 0) → (V mX11_order k n 20 [none, none, none, none] [] x'1 Z'1 Q)) ∧ ((r'1 ≠ 0) → (Rg v3 ∧ Rg (Z'1 (a0 + 40) 3) ∧ (Rg (bI (decide (0 ≤ v3 ∧ v3 < Z'1 (a0 + 40) 3))) ∧ (((bI (decide (0 ≤ v3 ∧ v3 < Z'1 (a0 + 40) 3)) ≠ 0) → (∃ g2 : Int, (∃ g3 : Nat → Int, (∃ g4 : Nat → Int, (∃ g5 : Nat → Int, (IsP g2 ∧ CvA Z'1 (a0 + 40) g2 g3 ∧ PA Z'1 ((a0 + 56) + 3) g2 g4 ∧ PA Z'1 ((a0 + 56) + 5) g2 g5 ∧ (0 ≤ v3 ∧ v3 < (pall g2 g3).length) ∧ ((a0 + 40) + 16 ≤ (a0 + 56) ∨ (a0 + 56) + 12 ≤ (a0 + 40)) ∧ (∀ (Z'2 : Zt), (Oth Z'1 Z'2 (fun b => b = (a0 + 40) ∨ b = (a0 + 40) + 13 ∨ b = (a0 + 40) + 14 ∨ b = (a0 + 40) + 15 ∨ b = (a0 + 56) + 11) ∧ (∀ i : Nat, i < 14 → Z'2 (a0 + 40) i = Z'1 (a0 + 40) i)) → (Q (some (i_ (ordA g2 g3 g4 g5 v3))) x'1 Z'2)))))))) ∧ ((bI (decide (0 ≤ v3 ∧ v3 < Z'1 (a0 + 40) 3)) = 0) → (V mX11_order k n 20 [none, none, none, none] [] x'1 Z'1 Q)))))))))))) :
    V mX11_order k n 0 [some (r_ a0), some (i_ v1), some (i_ v2), some (i_ v3)] [] x Z Q :=
  V_aload_n dX11_order_0 rfl (V_iload_n dX11_order_1 rfl (V_iload_n dX11_order_2 rfl (Exists.elim h (fun g1 w1 => V_callV (k' := 0) (n' := 0) (t := 11) (q := (RX11, TX11, 17)) [i_ v1, i_ v2] [] okX11_isMeasured o_a0.1 rfl rfl lm_11_210 liX11_isMeasured lqX11_isMeasured (Nat.le_of_ble_eq_true rfl) (Nat.le_of_ble_eq_true rfl) (Nat.le_of_ble_eq_true rfl) (cat_of rfl) (Nat.le_of_ble_eq_true rfl) (Nat.zero_le _) (Nat.zero_le _) rfl dX11_order_3 (sp_X11_isMeasured o_a0 w1.1 w1.2.1 w1.2.2.1 (fun x'1 Z'1 r'1 p1 => V_if_eq (tgt := 20) dX11_order_6 rfl (w1.2.2.2 x'1 Z'1 r'1 p1).2.1 (fun c1 => V_msk [false, false, false, false] rfl ((w1.2.2.2 x'1 Z'1 r'1 p1).2.2.1 c1)) (fun c1 => V_aload_n dX11_order_9 rfl (G_11_7 (w1.2.2.2 x'1 Z'1 r'1 p1).1.1 (w1.2.2.2 x'1 Z'1 r'1 p1).1.qR7 lf_11_60 dX11_order_10 (V_iload_n dX11_order_13 rfl (V_callV (k' := 0) (n' := 0) (t := 2) (q := (RX2, TX2, 17)) [i_ v3] [] okX2_hasPoint (w1.2.2.2 x'1 Z'1 r'1 p1).1.qK7.1 rfl rfl lm_11_182 liX2_hasPoint lqX2_hasPoint (Nat.le_of_ble_eq_true rfl) (Nat.le_of_ble_eq_true rfl) (Nat.le_of_ble_eq_true rfl) (cat_of rfl) (Nat.le_of_ble_eq_true rfl) (Nat.zero_le _) (Nat.zero_le _) rfl dX11_order_14 (sp_X2_hasPoint (w1.2.2.2 x'1 Z'1 r'1 p1).1.qK7 ((w1.2.2.2 x'1 Z'1 r'1 p1).2.2.2 c1).1 ((w1.2.2.2 x'1 Z'1 r'1 p1).2.2.2 c1).2.1 (V_if_ne (tgt := 23) dX11_order_17 rfl ((w1.2.2.2 x'1 Z'1 r'1 p1).2.2.2 c1).2.2.1 (fun c2 => V_aload_n dX11_order_23 rfl (G_11_8 (w1.2.2.2 x'1 Z'1 r'1 p1).1.1 (w1.2.2.2 x'1 Z'1 r'1 p1).1.qR8 lf_11_67 dX11_order_24 (V_aload_n dX11_order_27 rfl (G_11_7 (w1.2.2.2 x'1 Z'1 r'1 p1).1.1 (w1.2.2.2 x'1 Z'1 r'1 p1).1.qR7 lf_11_60 dX11_order_28 (V_iload_n dX11_order_31 rfl (Exists.elim (((w1.2.2.2 x'1 Z'1 r'1 p1).2.2.2 c1).2.2.2.1 c2) (fun g2 w2 => Exists.elim w2 (fun g3 w3 => Exists.elim w3 (fun g4 w4 => Exists.elim w4 (fun g5 w5 => V_callV (k' := 0) (n' := 0) (t := 5) (q := (RX5, TX5, 6)) [r_ (a0 + 40), i_ v3] [] okX5_orderAt (w1.2.2.2 x'1 Z'1 r'1 p1).1.qK8.1 rfl rfl lm_11_213 liX5_orderAt lqX5_orderAt (Nat.le_of_ble_eq_true rfl) (Nat.le_of_ble_eq_true rfl) (Nat.le_of_ble_eq_true rfl) (cat_of rfl) (Nat.le_of_ble_eq_true rfl) (Nat.zero_le _) (Nat.zero_le _) rfl dX11_order_32 (sp_X5_orderAt (w1.2.2.2 x'1 Z'1 r'1 p1).1.qK8 (w1.2.2.2 x'1 Z'1 r'1 p1).1.qK7 w5.1 w5.2.1 w5.2.2.1 w5.2.2.2.1 w5.2.2.2.2.1 w5.2.2.2.2.2.1 (fun Z'2 p2 => V_iret (ty := .int) dX11_order_35 rfl rfl (w5.2.2.2.2.2.2 Z'2 p2))))))))))))) (fun c2 => V_msk [false, false, false, false] rfl (((w1.2.2.2 x'1 Z'1 r'1 p1).2.2.2 c1).2.2.2.2 c2))))))))))))))
set_option maxRecDepth 20000 in
theorem b_X11_order_20 {k n : Nat} {x : Wx} {Z : Zt} {Q : Option Value → Wx → Zt → Prop}  
    (h : Q (some (i_ (-100))) x Z) :
    V mX11_order k n 20 [none, none, none, none] [] x Z Q :=
  V_bipush dX11_order_20 rfl (V_iret (ty := .int) dX11_order_22 rfl rfl h)
theorem dX11_norm_0 : decode cX11_norm 0 = .ok (.aload_n 0, 1) := by decide +kernel
theorem dX11_norm_1 : decode cX11_norm 1 = .ok (.iload_n 1, 1) := by decide +kernel
theorem dX11_norm_2 : decode cX11_norm 2 = .ok (.iload_n 2, 1) := by decide +kernel
theorem dX11_norm_3 : decode cX11_norm 3 = .ok (.invokevirtual 210, 3) := by decide +kernel
theorem dX11_norm_6 : decode cX11_norm 6 = .ok (.ifCond .ne 5, 3) := by decide +kernel
theorem dX11_norm_9 : decode cX11_norm 9 = .ok (.iconst (-1), 1) := by decide +kernel
theorem dX11_norm_10 : decode cX11_norm 10 = .ok (.ireturn, 1) := by decide +kernel
theorem dX11_norm_11 : decode cX11_norm 11 = .ok (.iload_n 3, 1) := by decide +kernel
theorem dX11_norm_12 : decode cX11_norm 12 = .ok (.ifCond .lt 20, 3) := by decide +kernel
theorem dX11_norm_15 : decode cX11_norm 15 = .ok (.iload_n 3, 1) := by decide +kernel
theorem dX11_norm_16 : decode cX11_norm 16 = .ok (.bipush 19, 2) := by decide +kernel
theorem dX11_norm_18 : decode cX11_norm 18 = .ok (.if_icmp .gt 14, 3) := by decide +kernel
theorem dX11_norm_21 : decode cX11_norm 21 = .ok (.iload_n 3, 1) := by decide +kernel
theorem dX11_norm_22 : decode cX11_norm 22 = .ok (.iconst 2, 1) := by decide +kernel
theorem dX11_norm_23 : decode cX11_norm 23 = .ok (.if_icmp .le 11, 3) := by decide +kernel
theorem dX11_norm_26 : decode cX11_norm 26 = .ok (.iload_n 3, 1) := by decide +kernel
theorem dX11_norm_27 : decode cX11_norm 27 = .ok (.bipush 10, 2) := by decide +kernel
theorem dX11_norm_29 : decode cX11_norm 29 = .ok (.if_icmp .ge 5, 3) := by decide +kernel
theorem dX11_norm_32 : decode cX11_norm 32 = .ok (.iconst (-1), 1) := by decide +kernel
theorem dX11_norm_33 : decode cX11_norm 33 = .ok (.ireturn, 1) := by decide +kernel
theorem dX11_norm_34 : decode cX11_norm 34 = .ok (.iload_n 3, 1) := by decide +kernel
theorem dX11_norm_35 : decode cX11_norm 35 = .ok (.bipush 10, 2) := by decide +kernel
theorem dX11_norm_37 : decode cX11_norm 37 = .ok (.if_icmp .lt 18, 3) := by decide +kernel
theorem dX11_norm_40 : decode cX11_norm 40 = .ok (.aload_n 0, 1) := by decide +kernel
theorem dX11_norm_41 : decode cX11_norm 41 = .ok (.getfield 67, 3) := by decide +kernel
theorem dX11_norm_44 : decode cX11_norm 44 = .ok (.getfield 217, 3) := by decide +kernel
theorem dX11_norm_47 : decode cX11_norm 47 = .ok (.iload_n 3, 1) := by decide +kernel
theorem dX11_norm_48 : decode cX11_norm 48 = .ok (.bipush 10, 2) := by decide +kernel
theorem dX11_norm_50 : decode cX11_norm 50 = .ok (.isub, 1) := by decide +kernel
theorem dX11_norm_51 : decode cX11_norm 51 = .ok (.invokevirtual 220, 3) := by decide +kernel
theorem dX11_norm_54 : decode cX11_norm 54 = .ok (.ireturn, 1) := by decide +kernel
theorem dX11_norm_55 : decode cX11_norm 55 = .ok (.iload_n 3, 1) := by decide +kernel
theorem dX11_norm_56 : decode cX11_norm 56 = .ok (.ifCond .ne 14, 3) := by decide +kernel
theorem dX11_norm_59 : decode cX11_norm 59 = .ok (.aload_n 0, 1) := by decide +kernel
theorem dX11_norm_60 : decode cX11_norm 60 = .ok (.getfield 67, 3) := by decide +kernel
theorem dX11_norm_63 : decode cX11_norm 63 = .ok (.getfield 217, 3) := by decide +kernel
theorem dX11_norm_66 : decode cX11_norm 66 = .ok (.getfield 165, 3) := by decide +kernel
theorem dX11_norm_69 : decode cX11_norm 69 = .ok (.ireturn, 1) := by decide +kernel
theorem dX11_norm_70 : decode cX11_norm 70 = .ok (.aload_n 0, 1) := by decide +kernel
theorem dX11_norm_71 : decode cX11_norm 71 = .ok (.getfield 67, 3) := by decide +kernel
theorem dX11_norm_74 : decode cX11_norm 74 = .ok (.aload_n 0, 1) := by decide +kernel
theorem dX11_norm_75 : decode cX11_norm 75 = .ok (.getfield 60, 3) := by decide +kernel
theorem dX11_norm_78 : decode cX11_norm 78 = .ok (.invokevirtual 223, 3) := by decide +kernel
theorem dX11_norm_81 : decode cX11_norm 81 = .ok (.istore 4, 2) := by decide +kernel
theorem dX11_norm_83 : decode cX11_norm 83 = .ok (.iload_n 3, 1) := by decide +kernel
theorem dX11_norm_84 : decode cX11_norm 84 = .ok (.iconst 1, 1) := by decide +kernel
theorem dX11_norm_85 : decode cX11_norm 85 = .ok (.if_icmp .ne 6, 3) := by decide +kernel
theorem dX11_norm_88 : decode cX11_norm 88 = .ok (.iload 4, 2) := by decide +kernel
theorem dX11_norm_90 : decode cX11_norm 90 = .ok (.ireturn, 1) := by decide +kernel
theorem dX11_norm_91 : decode cX11_norm 91 = .ok (.iload 4, 2) := by decide +kernel
theorem dX11_norm_93 : decode cX11_norm 93 = .ok (.aload_n 0, 1) := by decide +kernel
theorem dX11_norm_94 : decode cX11_norm 94 = .ok (.getfield 67, 3) := by decide +kernel
theorem dX11_norm_97 : decode cX11_norm 97 = .ok (.aload_n 0, 1) := by decide +kernel
theorem dX11_norm_98 : decode cX11_norm 98 = .ok (.getfield 60, 3) := by decide +kernel
theorem dX11_norm_101 : decode cX11_norm 101 = .ok (.aload_n 0, 1) := by decide +kernel
theorem dX11_norm_102 : decode cX11_norm 102 = .ok (.getfield 60, 3) := by decide +kernel
theorem dX11_norm_105 : decode cX11_norm 105 = .ok (.getfield 171, 3) := by decide +kernel
theorem dX11_norm_108 : decode cX11_norm 108 = .ok (.iconst 1, 1) := by decide +kernel
theorem dX11_norm_109 : decode cX11_norm 109 = .ok (.isub, 1) := by decide +kernel
theorem dX11_norm_110 : decode cX11_norm 110 = .ok (.invokevirtual 213, 3) := by decide +kernel
theorem dX11_norm_113 : decode cX11_norm 113 = .ok (.iadd, 1) := by decide +kernel
theorem dX11_norm_114 : decode cX11_norm 114 = .ok (.ineg, 1) := by decide +kernel
theorem dX11_norm_115 : decode cX11_norm 115 = .ok (.ireturn, 1) := by decide +kernel
set_option maxRecDepth 20000 in
theorem b_X11_norm_0 {k n : Nat} {x : Wx} {Z : Zt} {Q : Option Value → Wx → Zt → Prop} {a0 : Nat} {v1 : Int} {v2 : Int} {v3 : Int} (o_a0 : Is11 x a0)
    (h : ∃ g1 : Ab, (OI x Z a0 g1 ∧ Rg v1 ∧ Rg v2 ∧ (∀ (x'1 : Wx) (Z'1 : Zt) (r'1 : Int), (OI x'1 Z'1 a0 g1 ∧ Fx a0 x x'1 Z Z'1 ∧ r'1 = bI (mesB g1.nw v1 v2) ∧ (mesB g1.nw v1 v2 = true → Z'1 a0 14 = v1 ∧ MsA Z'1 (a0 + 56) (g1.nw.p (Int.toNat v1)) (g1.nw.F (Int.toNat v1)) (g1.nw.A (Int.toNat v1) (Int.toNat v2)) (g1.nw.B (Int.toNat v1) (Int.toNat v2)))) → (Rg r'1 ∧ (((r'1 ≠ 0) → (Rg v3 ∧ (((v3 < 0) → (V mX11_norm k n 32 [none, none, none, none, none] [] x'1 Z'1 Q)) ∧ ((0 ≤ v3) → (((19 < v3) → (V mX11_norm k n 32 [none, none, none, none, none] [] x'1 Z'1 Q)) ∧ ((v3 ≤ 19) → (((v3 ≤ 2) → (V mX11_norm k n 34 [some (r_ a0), none, none, some (i_ v3), none] [] x'1 Z'1 Q)) ∧ ((2 < v3) → (((10 ≤ v3) → (V mX11_norm k n 34 [some (r_ a0), none, none, some (i_ v3), none] [] x'1 Z'1 Q)) ∧ ((v3 < 10) → (V mX11_norm k n 32 [none, none, none, none, none] [] x'1 Z'1 Q))))))))))) ∧ ((r'1 = 0) → (Q (some (i_ (-1))) x'1 Z'1))))))) :
    V mX11_norm k n 0 [some (r_ a0), some (i_ v1), some (i_ v2), some (i_ v3), none] [] x Z Q :=
  V_aload_n dX11_norm_0 rfl (V_iload_n dX11_norm_1 rfl (V_iload_n dX11_norm_2 rfl (Exists.elim h (fun g1 w1 => V_callV (k' := 0) (n' := 0) (t := 11) (q := (RX11, TX11, 17)) [i_ v1, i_ v2] [] okX11_isMeasured o_a0.1 rfl rfl lm_11_210 liX11_isMeasured lqX11_isMeasured (Nat.le_of_ble_eq_true rfl) (Nat.le_of_ble_eq_true rfl) (Nat.le_of_ble_eq_true rfl) (cat_of rfl) (Nat.le_of_ble_eq_true rfl) (Nat.zero_le _) (Nat.zero_le _) rfl dX11_norm_3 (sp_X11_isMeasured o_a0 w1.1 w1.2.1 w1.2.2.1 (fun x'1 Z'1 r'1 p1 => V_if_ne (tgt := 11) dX11_norm_6 rfl (w1.2.2.2 x'1 Z'1 r'1 p1).1 (fun c1 => V_iload_n dX11_norm_11 rfl (V_if_lt (tgt := 32) dX11_norm_12 rfl ((w1.2.2.2 x'1 Z'1 r'1 p1).2.1 c1).1 (fun c2 => V_msk [false, false, false, false, false] rfl (((w1.2.2.2 x'1 Z'1 r'1 p1).2.1 c1).2.1 c2)) (fun c2 => V_iload_n dX11_norm_15 rfl (V_bipush dX11_norm_16 rfl (V_icmp_gt (tgt := 32) dX11_norm_18 rfl ((w1.2.2.2 x'1 Z'1 r'1 p1).2.1 c1).1 (rg_c rfl) (fun c3 => V_msk [false, false, false, false, false] rfl ((((w1.2.2.2 x'1 Z'1 r'1 p1).2.1 c1).2.2 c2).1 c3)) (fun c3 => V_iload_n dX11_norm_21 rfl (V_iconst dX11_norm_22 (V_icmp_le (tgt := 34) dX11_norm_23 rfl ((w1.2.2.2 x'1 Z'1 r'1 p1).2.1 c1).1 (rg_c rfl) (fun c4 => V_msk [true, false, false, true, false] rfl (((((w1.2.2.2 x'1 Z'1 r'1 p1).2.1 c1).2.2 c2).2 c3).1 c4)) (fun c4 => V_iload_n dX11_norm_26 rfl (V_bipush dX11_norm_27 rfl (V_icmp_ge (tgt := 34) dX11_norm_29 rfl ((w1.2.2.2 x'1 Z'1 r'1 p1).2.1 c1).1 (rg_c rfl) (fun c5 => V_msk [true, false, false, true, false] rfl ((((((w1.2.2.2 x'1 Z'1 r'1 p1).2.1 c1).2.2 c2).2 c3).2 c4).1 c5)) (fun c5 => V_msk [false, false, false, false, false] rfl ((((((w1.2.2.2 x'1 Z'1 r'1 p1).2.1 c1).2.2 c2).2 c3).2 c4).2 c5))))))))))))) (fun c1 => V_iconst dX11_norm_9 (V_iret (ty := .int) dX11_norm_10 rfl rfl ((w1.2.2.2 x'1 Z'1 r'1 p1).2.2 c1)))))))))
set_option maxRecDepth 20000 in
theorem b_X11_norm_32 {k n : Nat} {x : Wx} {Z : Zt} {Q : Option Value → Wx → Zt → Prop}  
    (h : Q (some (i_ (-1))) x Z) :
    V mX11_norm k n 32 [none, none, none, none, none] [] x Z Q :=
  V_iconst dX11_norm_32 (V_iret (ty := .int) dX11_norm_33 rfl rfl h)
set_option maxRecDepth 20000 in
theorem b_X11_norm_34 {k n : Nat} {x : Wx} {Z : Zt} {Q : Option Value → Wx → Zt → Prop} {a0 : Nat} {v3 : Int} (o_a0 : Is11 x a0)
    (h : Rg v3 ∧ (((v3 < 10) → (((v3 ≠ 0) → (∃ g1 : Int, (∃ g2 : Nat → Int, (∃ g3 : Nat → Int, (∃ g4 : Nat → Int, (IsP g1 ∧ CvA Z (a0 + 40) g1 g2 ∧ PA Z ((a0 + 56) + 3) g1 g3 ∧ PA Z ((a0 + 56) + 5) g1 g4 ∧ ((a0 + 40) + 16 ≤ (a0 + 56) ∨ (a0 + 56) + 12 ≤ (a0 + 40)) ∧ (∀ (Z'1 : Zt), (Oth Z Z'1 (fun b => b = (a0 + 40) ∨ b = (a0 + 40) + 13 ∨ b = (a0 + 40) + 14 ∨ b = (a0 + 40) + 15 ∨ b = (a0 + 56) + 11) ∧ (∀ i : Nat, i < 14 → Z'1 (a0 + 40) i = Z (a0 + 40) i)) → (((v3 ≠ 1) → (∃ g5 : Int, (∃ g6 : Nat → Int, (∃ g7 : Nat → Int, (∃ g8 : Nat → Int, (IsP g5 ∧ CvA Z'1 (a0 + 40) g5 g6 ∧ PA Z'1 ((a0 + 56) + 3) g5 g7 ∧ PA Z'1 ((a0 + 56) + 5) g5 g8 ∧ (0 ≤ ((Z'1 (a0 + 40) 3) - 1) ∧ ((Z'1 (a0 + 40) 3) - 1) < (pall g5 g6).length) ∧ ((a0 + 40) + 16 ≤ (a0 + 56) ∨ (a0 + 56) + 12 ≤ (a0 + 40)) ∧ (∀ (Z'2 : Zt), (Oth Z'1 Z'2 (fun b => b = (a0 + 40) ∨ b = (a0 + 40) + 13 ∨ b = (a0 + 40) + 14 ∨ b = (a0 + 40) + 15 ∨ b = (a0 + 56) + 11) ∧ (∀ i : Nat, i < 14 → Z'2 (a0 + 40) i = Z'1 (a0 + 40) i)) → (Q (some (i_ (-((ratS g1 g2 g3 g4 ((pall g1 g2).length - 1)) + (ordA g5 g6 g7 g8 ((Z'1 (a0 + 40) 3) - 1)))))) x Z'2)))))))) ∧ ((v3 = 1) → (Q (some (i_ (ratS g1 g2 g3 g4 ((pall g1 g2).length - 1)))) x Z'1)))))))))) ∧ ((v3 = 0) → (Q (some (i_ (Z (a0 + 57) 0))) x Z)))) ∧ ((10 ≤ v3) → (0 ≤ (v3 - 10) ∧ (v3 - 10) < 10 ∧ (Q (some (i_ (Z ((a0 + 57) + 1) (Int.toNat (v3 - 10))))) x Z))))) :
    V mX11_norm k n 34 [some (r_ a0), none, none, some (i_ v3), none] [] x Z Q :=
  V_iload_n dX11_norm_34 rfl (V_bipush dX11_norm_35 rfl (V_icmp_lt (tgt := 55) dX11_norm_37 rfl h.1 (rg_c rfl) (fun c1 => V_iload_n dX11_norm_55 rfl (V_if_ne (tgt := 70) dX11_norm_56 rfl h.1 (fun c2 => V_aload_n dX11_norm_70 rfl (G_11_8 o_a0.1 o_a0.qR8 lf_11_67 dX11_norm_71 (V_aload_n dX11_norm_74 rfl (G_11_7 o_a0.1 o_a0.qR7 lf_11_60 dX11_norm_75 (Exists.elim ((h.2.1 c1).1 c2) (fun g1 w1 => Exists.elim w1 (fun g2 w2 => Exists.elim w2 (fun g3 w3 => Exists.elim w3 (fun g4 w4 => V_callV (k' := 0) (n' := 0) (t := 5) (q := (RX5, TX5, 6)) [r_ (a0 + 40)] [] okX5_rational o_a0.qK8.1 rfl rfl lm_11_223 liX5_rational lqX5_rational (Nat.le_of_ble_eq_true rfl) (Nat.le_of_ble_eq_true rfl) (Nat.le_of_ble_eq_true rfl) (cat_of rfl) (Nat.le_of_ble_eq_true rfl) (Nat.zero_le _) (Nat.zero_le _) rfl dX11_norm_78 (sp_X5_rational o_a0.qK8 o_a0.qK7 w4.1 w4.2.1 w4.2.2.1 w4.2.2.2.1 w4.2.2.2.2.1 (fun Z'1 p1 => V_istore (lv' := [some (r_ a0), none, none, some (i_ v3), some (i_ (ratS g1 g2 g3 g4 ((pall g1 g2).length - 1)))]) dX11_norm_81 (Nat.le_of_ble_eq_true rfl) rfl (V_iload_n dX11_norm_83 rfl (V_iconst dX11_norm_84 (V_icmp_ne (tgt := 91) dX11_norm_85 rfl h.1 (rg_c rfl) (fun c3 => V_iload dX11_norm_91 rfl (V_aload_n dX11_norm_93 rfl (G_11_8 o_a0.1 o_a0.qR8 lf_11_67 dX11_norm_94 (V_aload_n dX11_norm_97 rfl (G_11_7 o_a0.1 o_a0.qR7 lf_11_60 dX11_norm_98 (V_aload_n dX11_norm_101 rfl (G_11_7 o_a0.1 o_a0.qR7 lf_11_60 dX11_norm_102 (G_2_3 o_a0.qK7.1 lf_11_171 dX11_norm_105 (V_iconst dX11_norm_108 (V_isub dX11_norm_109 (Exists.elim ((w4.2.2.2.2.2 Z'1 p1).1 c3) (fun g5 w5 => Exists.elim w5 (fun g6 w6 => Exists.elim w6 (fun g7 w7 => Exists.elim w7 (fun g8 w8 => V_callV (k' := 0) (n' := 0) (t := 5) (q := (RX5, TX5, 6)) [r_ (a0 + 40), i_ ((Z'1 (a0 + 40) 3) - 1)] [i_ (ratS g1 g2 g3 g4 ((pall g1 g2).length - 1))] okX5_orderAt o_a0.qK8.1 rfl rfl lm_11_213 liX5_orderAt lqX5_orderAt (Nat.le_of_ble_eq_true rfl) (Nat.le_of_ble_eq_true rfl) (Nat.le_of_ble_eq_true rfl) (cat_of rfl) (Nat.le_of_ble_eq_true rfl) (Nat.zero_le _) (Nat.zero_le _) rfl dX11_norm_110 (sp_X5_orderAt o_a0.qK8 o_a0.qK7 w8.1 w8.2.1 w8.2.2.1 w8.2.2.2.1 w8.2.2.2.2.1 w8.2.2.2.2.2.1 (fun Z'2 p2 => V_iadd dX11_norm_113 (V_ineg dX11_norm_114 (V_iret (ty := .int) dX11_norm_115 rfl rfl (w8.2.2.2.2.2.2 Z'2 p2)))))))))))))))))))) (fun c3 => V_iload dX11_norm_88 rfl (V_iret (ty := .int) dX11_norm_90 rfl rfl ((w4.2.2.2.2.2 Z'1 p1).2 c3))))))))))))))))) (fun c2 => V_aload_n dX11_norm_59 rfl (G_11_8 o_a0.1 o_a0.qR8 lf_11_67 dX11_norm_60 (G_5_0 o_a0.qK8.1 o_a0.qK8.2.1 lf_11_217 dX11_norm_63 (G_7_0 o_a0.qK8.2.2.1.1 lf_11_165 dX11_norm_66 (V_iret (ty := .int) dX11_norm_69 rfl rfl ((h.2.1 c1).2 c2)))))))) (fun c1 => V_aload_n dX11_norm_40 rfl (G_11_8 o_a0.1 o_a0.qR8 lf_11_67 dX11_norm_41 (G_5_0 o_a0.qK8.1 o_a0.qK8.2.1 lf_11_217 dX11_norm_44 (V_iload_n dX11_norm_47 rfl (V_bipush dX11_norm_48 rfl (V_isub dX11_norm_50 (V_callV (k' := 0) (n' := 0) (t := 7) (q := (RX7, TX7, 2)) [i_ (v3 - 10)] [] okX7_at o_a0.qK8.2.2.1.1 rfl rfl lm_11_220 liX7_at lqX7_at (Nat.le_of_ble_eq_true rfl) (Nat.le_of_ble_eq_true rfl) (Nat.le_of_ble_eq_true rfl) (cat_of rfl) (Nat.le_of_ble_eq_true rfl) (Nat.zero_le _) (Nat.zero_le _) rfl dX11_norm_51 (sp_X7_at o_a0.qK8.2.2.1 (h.2.2 c1).1 (h.2.2 c1).2.1 (V_iret (ty := .int) dX11_norm_54 rfl rfl (h.2.2 c1).2.2)))))))))))
theorem dX11_base_0 : decode cX11_base 0 = .ok (.iload 5, 2) := by decide +kernel
theorem dX11_base_2 : decode cX11_base 2 = .ok (.ifCond .lt 19, 3) := by decide +kernel
theorem dX11_base_5 : decode cX11_base 5 = .ok (.iload 5, 2) := by decide +kernel
theorem dX11_base_7 : decode cX11_base 7 = .ok (.bipush 90, 2) := by decide +kernel
theorem dX11_base_9 : decode cX11_base 9 = .ok (.if_icmp .gt 12, 3) := by decide +kernel
theorem dX11_base_12 : decode cX11_base 12 = .ok (.aload_n 0, 1) := by decide +kernel
theorem dX11_base_13 : decode cX11_base 13 = .ok (.iload_n 1, 1) := by decide +kernel
theorem dX11_base_14 : decode cX11_base 14 = .ok (.iload_n 2, 1) := by decide +kernel
theorem dX11_base_15 : decode cX11_base 15 = .ok (.invokevirtual 227, 3) := by decide +kernel
theorem dX11_base_18 : decode cX11_base 18 = .ok (.ifCond .ne 5, 3) := by decide +kernel
theorem dX11_base_21 : decode cX11_base 21 = .ok (.iconst (-1), 1) := by decide +kernel
theorem dX11_base_22 : decode cX11_base 22 = .ok (.ireturn, 1) := by decide +kernel
theorem dX11_base_23 : decode cX11_base 23 = .ok (.iload 4, 2) := by decide +kernel
theorem dX11_base_25 : decode cX11_base 25 = .ok (.ifCond .eq 22, 3) := by decide +kernel
theorem dX11_base_28 : decode cX11_base 28 = .ok (.iconst 2, 1) := by decide +kernel
theorem dX11_base_29 : decode cX11_base 29 = .ok (.iload 5, 2) := by decide +kernel
theorem dX11_base_31 : decode cX11_base 31 = .ok (.imul, 1) := by decide +kernel
theorem dX11_base_32 : decode cX11_base 32 = .ok (.iconst 2, 1) := by decide +kernel
theorem dX11_base_33 : decode cX11_base 33 = .ok (.aload_n 0, 1) := by decide +kernel
theorem dX11_base_34 : decode cX11_base 34 = .ok (.getfield 60, 3) := by decide +kernel
theorem dX11_base_37 : decode cX11_base 37 = .ok (.getfield 168, 3) := by decide +kernel
theorem dX11_base_40 : decode cX11_base 40 = .ok (.imul, 1) := by decide +kernel
theorem dX11_base_41 : decode cX11_base 41 = .ok (.iadd, 1) := by decide +kernel
theorem dX11_base_42 : decode cX11_base 42 = .ok (.iconst 1, 1) := by decide +kernel
theorem dX11_base_43 : decode cX11_base 43 = .ok (.iadd, 1) := by decide +kernel
theorem dX11_base_44 : decode cX11_base 44 = .ok (.goto 7, 3) := by decide +kernel
theorem dX11_base_47 : decode cX11_base 47 = .ok (.iconst 2, 1) := by decide +kernel
theorem dX11_base_48 : decode cX11_base 48 = .ok (.iload 5, 2) := by decide +kernel
theorem dX11_base_50 : decode cX11_base 50 = .ok (.imul, 1) := by decide +kernel
theorem dX11_base_51 : decode cX11_base 51 = .ok (.istore 6, 2) := by decide +kernel
theorem dX11_base_53 : decode cX11_base 53 = .ok (.iload_n 3, 1) := by decide +kernel
theorem dX11_base_54 : decode cX11_base 54 = .ok (.ifCond .lt 26, 3) := by decide +kernel
theorem dX11_base_57 : decode cX11_base 57 = .ok (.iload_n 3, 1) := by decide +kernel
theorem dX11_base_58 : decode cX11_base 58 = .ok (.aload_n 0, 1) := by decide +kernel
theorem dX11_base_59 : decode cX11_base 59 = .ok (.getfield 74, 3) := by decide +kernel
theorem dX11_base_62 : decode cX11_base 62 = .ok (.getfield 231, 3) := by decide +kernel
theorem dX11_base_65 : decode cX11_base 65 = .ok (.if_icmp .ge 15, 3) := by decide +kernel
theorem dX11_base_68 : decode cX11_base 68 = .ok (.iload 6, 2) := by decide +kernel
theorem dX11_base_70 : decode cX11_base 70 = .ok (.aload_n 0, 1) := by decide +kernel
theorem dX11_base_71 : decode cX11_base 71 = .ok (.getfield 74, 3) := by decide +kernel
theorem dX11_base_74 : decode cX11_base 74 = .ok (.getfield 237, 3) := by decide +kernel
theorem dX11_base_77 : decode cX11_base 77 = .ok (.if_icmp .le 5, 3) := by decide +kernel
theorem dX11_base_80 : decode cX11_base 80 = .ok (.iconst (-1), 1) := by decide +kernel
theorem dX11_base_81 : decode cX11_base 81 = .ok (.ireturn, 1) := by decide +kernel
theorem dX11_base_82 : decode cX11_base 82 = .ok (.aload_n 0, 1) := by decide +kernel
theorem dX11_base_83 : decode cX11_base 83 = .ok (.getfield 74, 3) := by decide +kernel
theorem dX11_base_86 : decode cX11_base 86 = .ok (.aload_n 0, 1) := by decide +kernel
theorem dX11_base_87 : decode cX11_base 87 = .ok (.getfield 60, 3) := by decide +kernel
theorem dX11_base_90 : decode cX11_base 90 = .ok (.getfield 156, 3) := by decide +kernel
theorem dX11_base_93 : decode cX11_base 93 = .ok (.iload_n 3, 1) := by decide +kernel
theorem dX11_base_94 : decode cX11_base 94 = .ok (.iload 6, 2) := by decide +kernel
theorem dX11_base_96 : decode cX11_base 96 = .ok (.invokevirtual 240, 3) := by decide +kernel
theorem dX11_base_99 : decode cX11_base 99 = .ok (.ireturn, 1) := by decide +kernel
set_option maxRecDepth 20000 in
theorem b_X11_base_0 {k n : Nat} {x : Wx} {Z : Zt} {Q : Option Value → Wx → Zt → Prop} {a0 : Nat} {v1 : Int} {v2 : Int} {v3 : Int} {v4 : Int} {v5 : Int} (o_a0 : Is11 x a0)
    (h : Rg v5 ∧ (((v5 < 0) → (V mX11_base k n 21 [none, none, none, none, none, none, none] [] x Z Q)) ∧ ((0 ≤ v5) → (((90 < v5) → (V mX11_base k n 21 [none, none, none, none, none, none, none] [] x Z Q)) ∧ ((v5 ≤ 90) → (∃ g1 : Ab, (OI x Z a0 g1 ∧ Rg v1 ∧ Rg v2 ∧ (∀ (x'1 : Wx) (Z'1 : Zt) (r'1 : Int), (OI x'1 Z'1 a0 g1 ∧ Fx a0 x x'1 Z Z'1 ∧ r'1 = bI (fitB g1.nw v1 v2) ∧ (fitB g1.nw v1 v2 = true → Z'1 a0 14 = v1 ∧ Z'1 a0 15 = v2)) → (Is11 x'1 a0 ∧ (Rg r'1 ∧ (((r'1 ≠ 0) → (Rg v4 ∧ (((v4 = 0) → (V mX11_base k n 51 [some (r_ a0), none, none, some (i_ v3), none, none, none] [i_ (2 * v5)] x'1 Z'1 Q)) ∧ ((v4 ≠ 0) → (V mX11_base k n 51 [some (r_ a0), none, none, some (i_ v3), none, none, none] [i_ (((2 * v5) + (2 * (Z'1 (a0 + 40) 2))) + 1)] x'1 Z'1 Q))))) ∧ ((r'1 = 0) → (V mX11_base k n 21 [none, none, none, none, none, none, none] [] x'1 Z'1 Q))))))))))))) :
    V mX11_base k n 0 [some (r_ a0), some (i_ v1), some (i_ v2), some (i_ v3), some (i_ v4), some (i_ v5), none] [] x Z Q :=
  V_iload dX11_base_0 rfl (V_if_lt (tgt := 21) dX11_base_2 rfl h.1 (fun c1 => V_msk [false, false, false, false, false, false, false] rfl (h.2.1 c1)) (fun c1 => V_iload dX11_base_5 rfl (V_bipush dX11_base_7 rfl (V_icmp_gt (tgt := 21) dX11_base_9 rfl h.1 (rg_c rfl) (fun c2 => V_msk [false, false, false, false, false, false, false] rfl ((h.2.2 c1).1 c2)) (fun c2 => V_aload_n dX11_base_12 rfl (V_iload_n dX11_base_13 rfl (V_iload_n dX11_base_14 rfl (Exists.elim ((h.2.2 c1).2 c2) (fun g1 w1 => V_callV (k' := 0) (n' := 0) (t := 11) (q := (RX11, TX11, 17)) [i_ v1, i_ v2] [] okX11_isRoomReady o_a0.1 rfl rfl lm_11_227 liX11_isRoomReady lqX11_isRoomReady (Nat.le_of_ble_eq_true rfl) (Nat.le_of_ble_eq_true rfl) (Nat.le_of_ble_eq_true rfl) (cat_of rfl) (Nat.le_of_ble_eq_true rfl) (Nat.zero_le _) (Nat.zero_le _) rfl dX11_base_15 (sp_X11_isRoomReady o_a0 w1.1 w1.2.1 w1.2.2.1 (fun x'1 Z'1 r'1 p1 => V_if_ne (tgt := 23) dX11_base_18 rfl (w1.2.2.2 x'1 Z'1 r'1 p1).2.1 (fun c3 => V_iload dX11_base_23 rfl (V_if_eq (tgt := 47) dX11_base_25 rfl ((w1.2.2.2 x'1 Z'1 r'1 p1).2.2.1 c3).1 (fun c4 => V_iconst dX11_base_47 (V_iload dX11_base_48 rfl (V_imul dX11_base_50 (V_msk [true, false, false, true, false, false, false] rfl (((w1.2.2.2 x'1 Z'1 r'1 p1).2.2.1 c3).2.1 c4))))) (fun c4 => V_iconst dX11_base_28 (V_iload dX11_base_29 rfl (V_imul dX11_base_31 (V_iconst dX11_base_32 (V_aload_n dX11_base_33 rfl (G_11_7 (w1.2.2.2 x'1 Z'1 r'1 p1).1.1 (w1.2.2.2 x'1 Z'1 r'1 p1).1.qR7 lf_11_60 dX11_base_34 (G_2_2 (w1.2.2.2 x'1 Z'1 r'1 p1).1.qK7.1 lf_11_168 dX11_base_37 (V_imul dX11_base_40 (V_iadd dX11_base_41 (V_iconst dX11_base_42 (V_iadd dX11_base_43 (V_goto (tgt := 51) dX11_base_44 rfl (V_msk [true, false, false, true, false, false, false] rfl (((w1.2.2.2 x'1 Z'1 r'1 p1).2.2.1 c3).2.2 c4)))))))))))))))) (fun c3 => V_msk [false, false, false, false, false, false, false] rfl ((w1.2.2.2 x'1 Z'1 r'1 p1).2.2.2 c3)))))))))))))
set_option maxRecDepth 20000 in
theorem b_X11_base_21 {k n : Nat} {x : Wx} {Z : Zt} {Q : Option Value → Wx → Zt → Prop}  
    (h : Q (some (i_ (-1))) x Z) :
    V mX11_base k n 21 [none, none, none, none, none, none, none] [] x Z Q :=
  V_iconst dX11_base_21 (V_iret (ty := .int) dX11_base_22 rfl rfl h)
set_option maxRecDepth 20000 in
theorem b_X11_base_51 {k n : Nat} {x : Wx} {Z : Zt} {Q : Option Value → Wx → Zt → Prop} {a0 : Nat} {v3 : Int} {t0 : Int} (o_a0 : Is11 x a0)
    (h : Rg v3 ∧ (((v3 < 0) → (V mX11_base k n 80 [none, none, none, none, none, none, none] [] x Z Q)) ∧ ((0 ≤ v3) → (Rg (Z (a0 + 68) 1) ∧ (((Z (a0 + 68) 1 ≤ v3) → (V mX11_base k n 80 [none, none, none, none, none, none, none] [] x Z Q)) ∧ ((v3 < Z (a0 + 68) 1) → (Rg t0 ∧ Rg (Z (a0 + 68) 2) ∧ (((t0 ≤ Z (a0 + 68) 2) → (∃ g1 : Int, (∃ g2 : Nat → Nat, (IsP g1 ∧ Z (a0 + 41) 0 = g1 ∧ LnA x (a0 + 68) g2 ∧ Rg v3 ∧ Rg t0 ∧ (0 ≤ Z (a0 + 68) 1 ∧ Z (a0 + 68) 1 ≤ 90) ∧ (-100 ≤ Z (a0 + 68) 2 ∧ Z (a0 + 68) 2 < 90) ∧ (∀ i : Nat, (i : Int) < Z (a0 + 68) 1 → 0 ≤ Z ((a0 + 68) + 47) i ∧ Z ((a0 + 68) + 47) i < 90) ∧ (∀ i : Nat, (i : Int) ≤ Z (a0 + 68) 2 → -2 ≤ Z ((a0 + 68) + 46) i ∧ Z ((a0 + 68) + 46) i < 40 ∧ (0 ≤ Z ((a0 + 68) + 46) i → ∀ j : Nat, j < 90 → 0 ≤ Z ((a0 + 68) + 6 + g2 (Z ((a0 + 68) + 46) i).toNat) j ∧ Z ((a0 + 68) + 6 + g2 (Z ((a0 + 68) + 46) i).toNat) j < g1)) ∧ (Q (some (i_ (cof g1 (fun i j => Z ((a0 + 68) + 6 + g2 i) j) (Z (a0 + 68) 1) (Z (a0 + 68) 2) (Z ((a0 + 68) + 46)) (Z ((a0 + 68) + 47)) v3 t0))) x Z))))) ∧ ((Z (a0 + 68) 2 < t0) → (V mX11_base k n 80 [none, none, none, none, none, none, none] [] x Z Q)))))))))) :
    V mX11_base k n 51 [some (r_ a0), none, none, some (i_ v3), none, none, none] [i_ t0] x Z Q :=
  V_istore (lv' := [some (r_ a0), none, none, some (i_ v3), none, none, some (i_ t0)]) dX11_base_51 (Nat.le_of_ble_eq_true rfl) rfl (V_iload_n dX11_base_53 rfl (V_if_lt (tgt := 80) dX11_base_54 rfl h.1 (fun c1 => V_msk [false, false, false, false, false, false, false] rfl (h.2.1 c1)) (fun c1 => V_iload_n dX11_base_57 rfl (V_aload_n dX11_base_58 rfl (G_11_9 o_a0.1 o_a0.qR9 lf_11_74 dX11_base_59 (G_9_1 o_a0.qK9.1 lf_11_231 dX11_base_62 (V_icmp_ge (tgt := 80) dX11_base_65 rfl h.1 (h.2.2 c1).1 (fun c2 => V_msk [false, false, false, false, false, false, false] rfl ((h.2.2 c1).2.1 c2)) (fun c2 => V_iload dX11_base_68 rfl (V_aload_n dX11_base_70 rfl (G_11_9 o_a0.1 o_a0.qR9 lf_11_74 dX11_base_71 (G_9_2 o_a0.qK9.1 lf_11_237 dX11_base_74 (V_icmp_le (tgt := 82) dX11_base_77 rfl ((h.2.2 c1).2.2 c2).1 ((h.2.2 c1).2.2 c2).2.1 (fun c3 => V_aload_n dX11_base_82 rfl (G_11_9 o_a0.1 o_a0.qR9 lf_11_74 dX11_base_83 (V_aload_n dX11_base_86 rfl (G_11_7 o_a0.1 o_a0.qR7 lf_11_60 dX11_base_87 (G_2_0 o_a0.qK7.1 o_a0.qK7.2.1 lf_11_156 dX11_base_90 (V_iload_n dX11_base_93 rfl (V_iload dX11_base_94 rfl (Exists.elim (((h.2.2 c1).2.2 c2).2.2.1 c3) (fun g1 w1 => Exists.elim w1 (fun g2 w2 => V_callV (k' := 0) (n' := 0) (t := 9) (q := (RX9, TX9, 12)) [r_ (a0 + 41), i_ v3, i_ t0] [] okX9_coefficient o_a0.qK9.1 rfl rfl lm_11_240 liX9_coefficient lqX9_coefficient (Nat.le_of_ble_eq_true rfl) (Nat.le_of_ble_eq_true rfl) (Nat.le_of_ble_eq_true rfl) (cat_of rfl) (Nat.le_of_ble_eq_true rfl) (Nat.zero_le _) (Nat.zero_le _) rfl dX11_base_96 (sp_X9_coefficient o_a0.qK9 o_a0.qK7.2.2.1 w2.1 w2.2.1 w2.2.2.1 w2.2.2.2.1 w2.2.2.2.2.1 w2.2.2.2.2.2.1 w2.2.2.2.2.2.2.1 w2.2.2.2.2.2.2.2.1 w2.2.2.2.2.2.2.2.2.1 (V_iret (ty := .int) dX11_base_99 rfl rfl w2.2.2.2.2.2.2.2.2.2)))))))))))) (fun c3 => V_msk [false, false, false, false, false, false, false] rfl (((h.2.2 c1).2.2 c2).2.2.2 c3))))))))))))))
set_option maxRecDepth 20000 in
theorem b_X11_base_80 {k n : Nat} {x : Wx} {Z : Zt} {Q : Option Value → Wx → Zt → Prop}  
    (h : Q (some (i_ (-1))) x Z) :
    V mX11_base k n 80 [none, none, none, none, none, none, none] [] x Z Q :=
  V_iconst dX11_base_80 (V_iret (ty := .int) dX11_base_81 rfl rfl h)
theorem dX11_sum_0 : decode cX11_sum 0 = .ok (.aload_n 0, 1) := by decide +kernel
theorem dX11_sum_1 : decode cX11_sum 1 = .ok (.getfield 10, 3) := by decide +kernel
theorem dX11_sum_4 : decode cX11_sum 4 = .ok (.iconst 1, 1) := by decide +kernel
theorem dX11_sum_5 : decode cX11_sum 5 = .ok (.iload_n 1, 1) := by decide +kernel
theorem dX11_sum_6 : decode cX11_sum 6 = .ok (.invokevirtual 129, 3) := by decide +kernel
theorem dX11_sum_9 : decode cX11_sum 9 = .ok (.astore_n 3, 1) := by decide +kernel
theorem dX11_sum_10 : decode cX11_sum 10 = .ok (.aload_n 3, 1) := by decide +kernel
theorem dX11_sum_11 : decode cX11_sum 11 = .ok (.ifnull 7, 3) := by decide +kernel
theorem dX11_sum_14 : decode cX11_sum 14 = .ok (.iload_n 2, 1) := by decide +kernel
theorem dX11_sum_15 : decode cX11_sum 15 = .ok (.ifCond .ge 6, 3) := by decide +kernel
theorem dX11_sum_18 : decode cX11_sum 18 = .ok (.bipush (-100), 2) := by decide +kernel
theorem dX11_sum_20 : decode cX11_sum 20 = .ok (.ireturn, 1) := by decide +kernel
theorem dX11_sum_21 : decode cX11_sum 21 = .ok (.iload_n 2, 1) := by decide +kernel
theorem dX11_sum_22 : decode cX11_sum 22 = .ok (.ifCond .eq 8, 3) := by decide +kernel
theorem dX11_sum_25 : decode cX11_sum 25 = .ok (.iload_n 2, 1) := by decide +kernel
theorem dX11_sum_26 : decode cX11_sum 26 = .ok (.iconst 1, 1) := by decide +kernel
theorem dX11_sum_27 : decode cX11_sum 27 = .ok (.if_icmp .ne 7, 3) := by decide +kernel
theorem dX11_sum_30 : decode cX11_sum 30 = .ok (.aload_n 3, 1) := by decide +kernel
theorem dX11_sum_31 : decode cX11_sum 31 = .ok (.iload_n 2, 1) := by decide +kernel
theorem dX11_sum_32 : decode cX11_sum 32 = .ok (.iaload, 1) := by decide +kernel
theorem dX11_sum_33 : decode cX11_sum 33 = .ok (.ireturn, 1) := by decide +kernel
theorem dX11_sum_34 : decode cX11_sum 34 = .ok (.iload_n 2, 1) := by decide +kernel
theorem dX11_sum_35 : decode cX11_sum 35 = .ok (.bipush 10, 2) := by decide +kernel
theorem dX11_sum_37 : decode cX11_sum 37 = .ok (.idiv, 1) := by decide +kernel
theorem dX11_sum_38 : decode cX11_sum 38 = .ok (.iconst 1, 1) := by decide +kernel
theorem dX11_sum_39 : decode cX11_sum 39 = .ok (.isub, 1) := by decide +kernel
theorem dX11_sum_40 : decode cX11_sum 40 = .ok (.istore 4, 2) := by decide +kernel
theorem dX11_sum_42 : decode cX11_sum 42 = .ok (.iload_n 2, 1) := by decide +kernel
theorem dX11_sum_43 : decode cX11_sum 43 = .ok (.bipush 10, 2) := by decide +kernel
theorem dX11_sum_45 : decode cX11_sum 45 = .ok (.irem, 1) := by decide +kernel
theorem dX11_sum_46 : decode cX11_sum 46 = .ok (.istore 5, 2) := by decide +kernel
theorem dX11_sum_48 : decode cX11_sum 48 = .ok (.iload 4, 2) := by decide +kernel
theorem dX11_sum_50 : decode cX11_sum 50 = .ok (.ifCond .lt 24, 3) := by decide +kernel
theorem dX11_sum_53 : decode cX11_sum 53 = .ok (.iload 4, 2) := by decide +kernel
theorem dX11_sum_55 : decode cX11_sum 55 = .ok (.iconst 3, 1) := by decide +kernel
theorem dX11_sum_56 : decode cX11_sum 56 = .ok (.if_icmp .ge 18, 3) := by decide +kernel
theorem dX11_sum_59 : decode cX11_sum 59 = .ok (.iload 5, 2) := by decide +kernel
theorem dX11_sum_61 : decode cX11_sum 61 = .ok (.aload_n 3, 1) := by decide +kernel
theorem dX11_sum_62 : decode cX11_sum 62 = .ok (.iconst 0, 1) := by decide +kernel
theorem dX11_sum_63 : decode cX11_sum 63 = .ok (.iaload, 1) := by decide +kernel
theorem dX11_sum_64 : decode cX11_sum 64 = .ok (.if_icmp .ge 10, 3) := by decide +kernel
theorem dX11_sum_67 : decode cX11_sum 67 = .ok (.iload 5, 2) := by decide +kernel
theorem dX11_sum_69 : decode cX11_sum 69 = .ok (.bipush 8, 2) := by decide +kernel
theorem dX11_sum_71 : decode cX11_sum 71 = .ok (.if_icmp .lt 6, 3) := by decide +kernel
theorem dX11_sum_74 : decode cX11_sum 74 = .ok (.bipush (-100), 2) := by decide +kernel
theorem dX11_sum_76 : decode cX11_sum 76 = .ok (.ireturn, 1) := by decide +kernel
theorem dX11_sum_77 : decode cX11_sum 77 = .ok (.aload_n 3, 1) := by decide +kernel
theorem dX11_sum_78 : decode cX11_sum 78 = .ok (.iconst 2, 1) := by decide +kernel
theorem dX11_sum_79 : decode cX11_sum 79 = .ok (.iconst 3, 1) := by decide +kernel
theorem dX11_sum_80 : decode cX11_sum 80 = .ok (.iload 5, 2) := by decide +kernel
theorem dX11_sum_82 : decode cX11_sum 82 = .ok (.imul, 1) := by decide +kernel
theorem dX11_sum_83 : decode cX11_sum 83 = .ok (.iadd, 1) := by decide +kernel
theorem dX11_sum_84 : decode cX11_sum 84 = .ok (.iload 4, 2) := by decide +kernel
theorem dX11_sum_86 : decode cX11_sum 86 = .ok (.iadd, 1) := by decide +kernel
theorem dX11_sum_87 : decode cX11_sum 87 = .ok (.iaload, 1) := by decide +kernel
theorem dX11_sum_88 : decode cX11_sum 88 = .ok (.ireturn, 1) := by decide +kernel
set_option maxRecDepth 20000 in
theorem b_X11_sum_0 {k n : Nat} {x : Wx} {Z : Zt} {Q : Option Value → Wx → Zt → Prop} {a0 : Nat} {v1 : Int} {v2 : Int} (o_a0 : Is11 x a0)
    (h : KS x ∧ KW x Z ∧ (0 ≤ (1 : Int) ∧ (1 : Int) < 3) ∧ Rg v1 ∧ (0 ≤ Z ((a0 + 1) + 2) (Int.toNat (1 : Int)) ∧ Z ((a0 + 1) + 2) (Int.toNat (1 : Int)) ≤ mstr (1 : Int)) ∧ (((rowQ (a0 + 1) (1 : Int) v1 (Z ((a0 + 1) + 2) (Int.toNat (1 : Int))) = none → (V mX11_sum k n 18 [none, none, none, none, none, none] [] x Z Q)) ∧ (∀ b1, rowQ (a0 + 1) (1 : Int) v1 (Z ((a0 + 1) + 2) (Int.toNat (1 : Int))) = some b1 → (x.1 b1 = some (100, 26) ∧ (Rg v2 ∧ (((0 ≤ v2) → (((v2 = 0) → (V mX11_sum k n 30 [none, none, some (i_ v2), some (r_ b1), none, none] [] x Z Q)) ∧ ((v2 ≠ 0) → (((v2 ≠ 1) → (Rg ((Int.tdiv v2 10) - 1) ∧ ((((Int.tdiv v2 10) - 1 < 0) → (V mX11_sum k n 74 [none, none, none, none, none, none] [] x Z Q)) ∧ ((0 ≤ (Int.tdiv v2 10) - 1) → (((3 ≤ (Int.tdiv v2 10) - 1) → (V mX11_sum k n 74 [none, none, none, none, none, none] [] x Z Q)) ∧ (((Int.tdiv v2 10) - 1 < 3) → (Rg (Int.tmod v2 10) ∧ Rg (Z b1 0) ∧ (((Z b1 0 ≤ Int.tmod v2 10) → (V mX11_sum k n 74 [none, none, none, none, none, none] [] x Z Q)) ∧ ((Int.tmod v2 10 < Z b1 0) → (((Int.tmod v2 10 < 8) → (0 ≤ (2 + (3 * (Int.tmod v2 10))) + ((Int.tdiv v2 10) - 1) ∧ (2 + (3 * (Int.tmod v2 10))) + ((Int.tdiv v2 10) - 1) < 26 ∧ (Q (some (i_ (Z b1 ((2 + (3 * (Int.tmod v2 10))) + ((Int.tdiv v2 10) - 1)).toNat))) x Z))) ∧ ((8 ≤ Int.tmod v2 10) → (V mX11_sum k n 74 [none, none, none, none, none, none] [] x Z Q)))))))))))) ∧ ((v2 = 1) → (V mX11_sum k n 30 [none, none, some (i_ v2), some (r_ b1), none, none] [] x Z Q)))))) ∧ ((v2 < 0) → (V mX11_sum k n 18 [none, none, none, none, none, none] [] x Z Q))))))))) :
    V mX11_sum k n 0 [some (r_ a0), some (i_ v1), some (i_ v2), none, none, none] [] x Z Q :=
  V_aload_n dX11_sum_0 rfl (G_11_0 o_a0.1 o_a0.qR0 lf_11_10 dX11_sum_1 (V_iconst dX11_sum_4 (V_iload_n dX11_sum_5 rfl (V_callV (k' := 0) (n' := 0) (t := 10) (q := (RX10, TX10, 6)) [i_ 1, i_ v1] [] okX10_row o_a0.qK0.1 rfl rfl lm_11_129 liX10_row lqX10_row (Nat.le_of_ble_eq_true rfl) (Nat.le_of_ble_eq_true rfl) (Nat.le_of_ble_eq_true rfl) (cat_of rfl) (Nat.le_of_ble_eq_true rfl) (Nat.zero_le _) (Nat.zero_le _) rfl dX11_sum_6 (sp_X10_row2 o_a0.qK0 h.1 h.2.1 h.2.2.1 h.2.2.2.1 h.2.2.2.2.1 (V_q (fun c1 => V_astoreq_n (r := none) (lv' := [some (r_ a0), some (i_ v1), some (i_ v2), some (Value.null), none, none]) dX11_sum_9 (Nat.le_of_ble_eq_true rfl) rfl (V_aloadq_n (r := none) dX11_sum_10 rfl (V_ifnull_n (tgt := 18) dX11_sum_11 rfl (V_msk [false, false, false, false, false, false] rfl (h.2.2.2.2.2.1 c1))))) (fun b1 c2 => have s1 := (h.2.2.2.2.2.2 b1 c2).1; V_astore_n (lv' := [some (r_ a0), some (i_ v1), some (i_ v2), some (r_ b1), none, none]) dX11_sum_9 (Nat.le_of_ble_eq_true rfl) rfl (V_aload_n dX11_sum_10 rfl (V_ifnull_r dX11_sum_11 (V_iload_n dX11_sum_14 rfl (V_if_ge (tgt := 21) dX11_sum_15 rfl (h.2.2.2.2.2.2 b1 c2).2.1 (fun c3 => V_iload_n dX11_sum_21 rfl (V_if_eq (tgt := 30) dX11_sum_22 rfl (h.2.2.2.2.2.2 b1 c2).2.1 (fun c4 => V_msk [false, false, true, true, false, false] rfl (((h.2.2.2.2.2.2 b1 c2).2.2.1 c3).1 c4)) (fun c4 => V_iload_n dX11_sum_25 rfl (V_iconst dX11_sum_26 (V_icmp_ne (tgt := 34) dX11_sum_27 rfl (h.2.2.2.2.2.2 b1 c2).2.1 (rg_c rfl) (fun c5 => V_iload_n dX11_sum_34 rfl (V_bipush dX11_sum_35 rfl (V_idiv dX11_sum_37 (h.2.2.2.2.2.2 b1 c2).2.1 (rg_c rfl) (by decide) (V_iconst dX11_sum_38 (V_isub dX11_sum_39 (V_istore (lv' := [some (r_ a0), some (i_ v1), some (i_ v2), some (r_ b1), some (i_ ((Int.tdiv v2 10) - 1)), none]) dX11_sum_40 (Nat.le_of_ble_eq_true rfl) rfl (V_iload_n dX11_sum_42 rfl (V_bipush dX11_sum_43 rfl (V_irem dX11_sum_45 (h.2.2.2.2.2.2 b1 c2).2.1 (rg_c rfl) (by decide) (V_istore (lv' := [some (r_ a0), some (i_ v1), some (i_ v2), some (r_ b1), some (i_ ((Int.tdiv v2 10) - 1)), some (i_ (Int.tmod v2 10))]) dX11_sum_46 (Nat.le_of_ble_eq_true rfl) rfl (V_iload dX11_sum_48 rfl (V_if_lt (tgt := 74) dX11_sum_50 rfl ((((h.2.2.2.2.2.2 b1 c2).2.2.1 c3).2 c4).1 c5).1 (fun c6 => V_msk [false, false, false, false, false, false] rfl (((((h.2.2.2.2.2.2 b1 c2).2.2.1 c3).2 c4).1 c5).2.1 c6)) (fun c6 => V_iload dX11_sum_53 rfl (V_iconst dX11_sum_55 (V_icmp_ge (tgt := 74) dX11_sum_56 rfl ((((h.2.2.2.2.2.2 b1 c2).2.2.1 c3).2 c4).1 c5).1 (rg_c rfl) (fun c7 => V_msk [false, false, false, false, false, false] rfl ((((((h.2.2.2.2.2.2 b1 c2).2.2.1 c3).2 c4).1 c5).2.2 c6).1 c7)) (fun c7 => V_iload dX11_sum_59 rfl (V_aload_n dX11_sum_61 rfl (V_iconst dX11_sum_62 (V_iald (t := 100) s1 (by decide) rfl (by decide) (by decide) (Nat.le_of_ble_eq_true rfl) dX11_sum_63 (V_icmp_ge (tgt := 74) dX11_sum_64 rfl ((((((h.2.2.2.2.2.2 b1 c2).2.2.1 c3).2 c4).1 c5).2.2 c6).2 c7).1 ((((((h.2.2.2.2.2.2 b1 c2).2.2.1 c3).2 c4).1 c5).2.2 c6).2 c7).2.1 (fun c8 => V_msk [false, false, false, false, false, false] rfl (((((((h.2.2.2.2.2.2 b1 c2).2.2.1 c3).2 c4).1 c5).2.2 c6).2 c7).2.2.1 c8)) (fun c8 => V_iload dX11_sum_67 rfl (V_bipush dX11_sum_69 rfl (V_icmp_lt (tgt := 77) dX11_sum_71 rfl ((((((h.2.2.2.2.2.2 b1 c2).2.2.1 c3).2 c4).1 c5).2.2 c6).2 c7).1 (rg_c rfl) (fun c9 => V_aload_n dX11_sum_77 rfl (V_iconst dX11_sum_78 (V_iconst dX11_sum_79 (V_iload dX11_sum_80 rfl (V_imul dX11_sum_82 (V_iadd dX11_sum_83 (V_iload dX11_sum_84 rfl (V_iadd dX11_sum_86 (V_iald (t := 100) s1 (by decide) rfl ((((((((h.2.2.2.2.2.2 b1 c2).2.2.1 c3).2 c4).1 c5).2.2 c6).2 c7).2.2.2 c8).1 c9).1 ((((((((h.2.2.2.2.2.2 b1 c2).2.2.1 c3).2 c4).1 c5).2.2 c6).2 c7).2.2.2 c8).1 c9).2.1 (Nat.le_of_ble_eq_true rfl) dX11_sum_87 (V_iret (ty := .int) dX11_sum_88 rfl rfl ((((((((h.2.2.2.2.2.2 b1 c2).2.2.1 c3).2 c4).1 c5).2.2 c6).2 c7).2.2.2 c8).1 c9).2.2)))))))))) (fun c9 => V_msk [false, false, false, false, false, false] rfl ((((((((h.2.2.2.2.2.2 b1 c2).2.2.1 c3).2 c4).1 c5).2.2 c6).2 c7).2.2.2 c8).2 c9))))))))))))))))))))))))) (fun c5 => V_msk [false, false, true, true, false, false] rfl ((((h.2.2.2.2.2.2 b1 c2).2.2.1 c3).2 c4).2 c5))))))) (fun c3 => V_msk [false, false, false, false, false, false] rfl ((h.2.2.2.2.2.2 b1 c2).2.2.2 c3)))))))))))))
set_option maxRecDepth 20000 in
theorem b_X11_sum_18 {k n : Nat} {x : Wx} {Z : Zt} {Q : Option Value → Wx → Zt → Prop}  
    (h : Q (some (i_ (-100))) x Z) :
    V mX11_sum k n 18 [none, none, none, none, none, none] [] x Z Q :=
  V_bipush dX11_sum_18 rfl (V_iret (ty := .int) dX11_sum_20 rfl rfl h)
set_option maxRecDepth 20000 in
theorem b_X11_sum_30 {k n : Nat} {x : Wx} {Z : Zt} {Q : Option Value → Wx → Zt → Prop} {v2 : Int} {a3 : Nat} (s_a3 : x.1 a3 = some (100, 26))
    (h : 0 ≤ v2 ∧ v2 < 26 ∧ (Q (some (i_ (Z a3 v2.toNat))) x Z)) :
    V mX11_sum k n 30 [none, none, some (i_ v2), some (r_ a3), none, none] [] x Z Q :=
  V_aload_n dX11_sum_30 rfl (V_iload_n dX11_sum_31 rfl (V_iald (t := 100) s_a3 (by decide) rfl h.1 h.2.1 (Nat.le_of_ble_eq_true rfl) dX11_sum_32 (V_iret (ty := .int) dX11_sum_33 rfl rfl h.2.2)))
set_option maxRecDepth 20000 in
theorem b_X11_sum_74 {k n : Nat} {x : Wx} {Z : Zt} {Q : Option Value → Wx → Zt → Prop}  
    (h : Q (some (i_ (-100))) x Z) :
    V mX11_sum k n 74 [none, none, none, none, none, none] [] x Z Q :=
  V_bipush dX11_sum_74 rfl (V_iret (ty := .int) dX11_sum_76 rfl rfl h)
theorem dX11_function_0 : decode cX11_function 0 = .ok (.aload_n 0, 1) := by decide +kernel
theorem dX11_function_1 : decode cX11_function 1 = .ok (.getfield 10, 3) := by decide +kernel
theorem dX11_function_4 : decode cX11_function 4 = .ok (.iconst 2, 1) := by decide +kernel
theorem dX11_function_5 : decode cX11_function 5 = .ok (.iload_n 1, 1) := by decide +kernel
theorem dX11_function_6 : decode cX11_function 6 = .ok (.invokevirtual 129, 3) := by decide +kernel
theorem dX11_function_9 : decode cX11_function 9 = .ok (.astore 4, 2) := by decide +kernel
theorem dX11_function_11 : decode cX11_function 11 = .ok (.aload 4, 2) := by decide +kernel
theorem dX11_function_13 : decode cX11_function 13 = .ok (.ifnull 20, 3) := by decide +kernel
theorem dX11_function_16 : decode cX11_function 16 = .ok (.iload_n 3, 1) := by decide +kernel
theorem dX11_function_17 : decode cX11_function 17 = .ok (.ifCond .lt 16, 3) := by decide +kernel
theorem dX11_function_20 : decode cX11_function 20 = .ok (.iload_n 3, 1) := by decide +kernel
theorem dX11_function_21 : decode cX11_function 21 = .ok (.iload_n 2, 1) := by decide +kernel
theorem dX11_function_22 : decode cX11_function 22 = .ok (.ifCond .eq 7, 3) := by decide +kernel
theorem dX11_function_25 : decode cX11_function 25 = .ok (.iconst 2, 1) := by decide +kernel
theorem dX11_function_26 : decode cX11_function 26 = .ok (.goto 4, 3) := by decide +kernel
theorem dX11_function_29 : decode cX11_function 29 = .ok (.iconst 4, 1) := by decide +kernel
theorem dX11_function_30 : decode cX11_function 30 = .ok (.if_icmp .le 5, 3) := by decide +kernel
theorem dX11_function_33 : decode cX11_function 33 = .ok (.iconst (-1), 1) := by decide +kernel
theorem dX11_function_34 : decode cX11_function 34 = .ok (.ireturn, 1) := by decide +kernel
theorem dX11_function_35 : decode cX11_function 35 = .ok (.aload 4, 2) := by decide +kernel
theorem dX11_function_37 : decode cX11_function 37 = .ok (.iload_n 2, 1) := by decide +kernel
theorem dX11_function_38 : decode cX11_function 38 = .ok (.ifCond .eq 9, 3) := by decide +kernel
theorem dX11_function_41 : decode cX11_function 41 = .ok (.iconst 5, 1) := by decide +kernel
theorem dX11_function_42 : decode cX11_function 42 = .ok (.iload_n 3, 1) := by decide +kernel
theorem dX11_function_43 : decode cX11_function 43 = .ok (.iadd, 1) := by decide +kernel
theorem dX11_function_44 : decode cX11_function 44 = .ok (.goto 4, 3) := by decide +kernel
theorem dX11_function_47 : decode cX11_function 47 = .ok (.iload_n 3, 1) := by decide +kernel
theorem dX11_function_48 : decode cX11_function 48 = .ok (.iaload, 1) := by decide +kernel
theorem dX11_function_49 : decode cX11_function 49 = .ok (.ireturn, 1) := by decide +kernel
set_option maxRecDepth 20000 in
theorem b_X11_function_0 {k n : Nat} {x : Wx} {Z : Zt} {Q : Option Value → Wx → Zt → Prop} {a0 : Nat} {v1 : Int} {v2 : Int} {v3 : Int} (o_a0 : Is11 x a0)
    (h : KS x ∧ KW x Z ∧ (0 ≤ (2 : Int) ∧ (2 : Int) < 3) ∧ Rg v1 ∧ (0 ≤ Z ((a0 + 1) + 2) (Int.toNat (2 : Int)) ∧ Z ((a0 + 1) + 2) (Int.toNat (2 : Int)) ≤ mstr (2 : Int)) ∧ (((rowQ (a0 + 1) (2 : Int) v1 (Z ((a0 + 1) + 2) (Int.toNat (2 : Int))) = none → (V mX11_function k n 33 [none, none, none, none, none] [] x Z Q)) ∧ (∀ b1, rowQ (a0 + 1) (2 : Int) v1 (Z ((a0 + 1) + 2) (Int.toNat (2 : Int))) = some b1 → (x.1 b1 = some (100, 26) ∧ (Rg v3 ∧ (((v3 < 0) → (V mX11_function k n 33 [none, none, none, none, none] [] x Z Q)) ∧ ((0 ≤ v3) → (Rg v2 ∧ (((v2 = 0) → (V mX11_function k n 30 [none, none, some (i_ v2), some (i_ v3), some (r_ b1)] [i_ 4, i_ v3] x Z Q)) ∧ ((v2 ≠ 0) → (V mX11_function k n 30 [none, none, some (i_ v2), some (i_ v3), some (r_ b1)] [i_ 2, i_ v3] x Z Q)))))))))))) :
    V mX11_function k n 0 [some (r_ a0), some (i_ v1), some (i_ v2), some (i_ v3), none] [] x Z Q :=
  V_aload_n dX11_function_0 rfl (G_11_0 o_a0.1 o_a0.qR0 lf_11_10 dX11_function_1 (V_iconst dX11_function_4 (V_iload_n dX11_function_5 rfl (V_callV (k' := 0) (n' := 0) (t := 10) (q := (RX10, TX10, 6)) [i_ 2, i_ v1] [] okX10_row o_a0.qK0.1 rfl rfl lm_11_129 liX10_row lqX10_row (Nat.le_of_ble_eq_true rfl) (Nat.le_of_ble_eq_true rfl) (Nat.le_of_ble_eq_true rfl) (cat_of rfl) (Nat.le_of_ble_eq_true rfl) (Nat.zero_le _) (Nat.zero_le _) rfl dX11_function_6 (sp_X10_row2 o_a0.qK0 h.1 h.2.1 h.2.2.1 h.2.2.2.1 h.2.2.2.2.1 (V_q (fun c1 => V_astoreq (r := none) (lv' := [some (r_ a0), some (i_ v1), some (i_ v2), some (i_ v3), some (Value.null)]) dX11_function_9 (Nat.le_of_ble_eq_true rfl) rfl (V_aloadq (r := none) dX11_function_11 rfl (V_ifnull_n (tgt := 33) dX11_function_13 rfl (V_msk [false, false, false, false, false] rfl (h.2.2.2.2.2.1 c1))))) (fun b1 c2 => have s1 := (h.2.2.2.2.2.2 b1 c2).1; V_astore (lv' := [some (r_ a0), some (i_ v1), some (i_ v2), some (i_ v3), some (r_ b1)]) dX11_function_9 (Nat.le_of_ble_eq_true rfl) rfl (V_aload dX11_function_11 rfl (V_ifnull_r dX11_function_13 (V_iload_n dX11_function_16 rfl (V_if_lt (tgt := 33) dX11_function_17 rfl (h.2.2.2.2.2.2 b1 c2).2.1 (fun c3 => V_msk [false, false, false, false, false] rfl ((h.2.2.2.2.2.2 b1 c2).2.2.1 c3)) (fun c3 => V_iload_n dX11_function_20 rfl (V_iload_n dX11_function_21 rfl (V_if_eq (tgt := 29) dX11_function_22 rfl ((h.2.2.2.2.2.2 b1 c2).2.2.2 c3).1 (fun c4 => V_iconst dX11_function_29 (V_msk [false, false, true, true, true] rfl (((h.2.2.2.2.2.2 b1 c2).2.2.2 c3).2.1 c4))) (fun c4 => V_iconst dX11_function_25 (V_goto (tgt := 30) dX11_function_26 rfl (V_msk [false, false, true, true, true] rfl (((h.2.2.2.2.2.2 b1 c2).2.2.2 c3).2.2 c4))))))))))))))))))
set_option maxRecDepth 20000 in
theorem b_X11_function_30 {k n : Nat} {x : Wx} {Z : Zt} {Q : Option Value → Wx → Zt → Prop} {v2 : Int} {v3 : Int} {a4 : Nat} {t0 : Int} {t1 : Int} 
    (h : Rg t0 ∧ Rg t1 ∧ (((t0 ≤ t1) → (Rg v2 ∧ (((v2 = 0) → (V mX11_function k n 48 [none, none, none, none, none] [i_ v3, r_ a4] x Z Q)) ∧ ((v2 ≠ 0) → (V mX11_function k n 48 [none, none, none, none, none] [i_ (5 + v3), r_ a4] x Z Q))))) ∧ ((t1 < t0) → (V mX11_function k n 33 [none, none, none, none, none] [] x Z Q)))) :
    V mX11_function k n 30 [none, none, some (i_ v2), some (i_ v3), some (r_ a4)] [i_ t1, i_ t0] x Z Q :=
  V_icmp_le (tgt := 35) dX11_function_30 rfl h.1 h.2.1 (fun c1 => V_aload dX11_function_35 rfl (V_iload_n dX11_function_37 rfl (V_if_eq (tgt := 47) dX11_function_38 rfl (h.2.2.1 c1).1 (fun c2 => V_iload_n dX11_function_47 rfl (V_msk [false, false, false, false, false] rfl ((h.2.2.1 c1).2.1 c2))) (fun c2 => V_iconst dX11_function_41 (V_iload_n dX11_function_42 rfl (V_iadd dX11_function_43 (V_goto (tgt := 48) dX11_function_44 rfl (V_msk [false, false, false, false, false] rfl ((h.2.2.1 c1).2.2 c2))))))))) (fun c1 => V_msk [false, false, false, false, false] rfl (h.2.2.2 c1))
set_option maxRecDepth 20000 in
theorem b_X11_function_33 {k n : Nat} {x : Wx} {Z : Zt} {Q : Option Value → Wx → Zt → Prop}  
    (h : Q (some (i_ (-1))) x Z) :
    V mX11_function k n 33 [none, none, none, none, none] [] x Z Q :=
  V_iconst dX11_function_33 (V_iret (ty := .int) dX11_function_34 rfl rfl h)
set_option maxRecDepth 20000 in
theorem b_X11_function_48 {k n : Nat} {x : Wx} {Z : Zt} {Q : Option Value → Wx → Zt → Prop} {b0_ : Nat} {t1 : Int} (s_b0 : x.1 b0_ = some (100, 26))
    (h : 0 ≤ t1 ∧ t1 < 26 ∧ (Q (some (i_ (Z b0_ t1.toNat))) x Z)) :
    V mX11_function k n 48 [none, none, none, none, none] [i_ t1, r_ b0_] x Z Q :=
  V_iald (t := 100) s_b0 (by decide) rfl h.1 h.2.1 (Nat.le_of_ble_eq_true rfl) dX11_function_48 (V_iret (ty := .int) dX11_function_49 rfl rfl h.2.2)
theorem dX11_code_0 : decode cX11_code 0 = .ok (.iload_n 3, 1) := by decide +kernel
theorem dX11_code_1 : decode cX11_code 1 = .ok (.ifCond .lt 23, 3) := by decide +kernel
theorem dX11_code_4 : decode cX11_code 4 = .ok (.iload_n 3, 1) := by decide +kernel
theorem dX11_code_5 : decode cX11_code 5 = .ok (.iconst 2, 1) := by decide +kernel
theorem dX11_code_6 : decode cX11_code 6 = .ok (.if_icmp .le 9, 3) := by decide +kernel
theorem dX11_code_9 : decode cX11_code 9 = .ok (.iload_n 3, 1) := by decide +kernel
theorem dX11_code_10 : decode cX11_code 10 = .ok (.bipush 100, 2) := by decide +kernel
theorem dX11_code_12 : decode cX11_code 12 = .ok (.if_icmp .lt 12, 3) := by decide +kernel
theorem dX11_code_15 : decode cX11_code 15 = .ok (.aload_n 0, 1) := by decide +kernel
theorem dX11_code_16 : decode cX11_code 16 = .ok (.iload_n 1, 1) := by decide +kernel
theorem dX11_code_17 : decode cX11_code 17 = .ok (.iload_n 2, 1) := by decide +kernel
theorem dX11_code_18 : decode cX11_code 18 = .ok (.invokevirtual 227, 3) := by decide +kernel
theorem dX11_code_21 : decode cX11_code 21 = .ok (.ifCond .ne 5, 3) := by decide +kernel
theorem dX11_code_24 : decode cX11_code 24 = .ok (.iconst (-1), 1) := by decide +kernel
theorem dX11_code_25 : decode cX11_code 25 = .ok (.ireturn, 1) := by decide +kernel
theorem dX11_code_26 : decode cX11_code 26 = .ok (.aload_n 0, 1) := by decide +kernel
theorem dX11_code_27 : decode cX11_code 27 = .ok (.invokevirtual 313, 3) := by decide +kernel
theorem dX11_code_30 : decode cX11_code 30 = .ok (.iload_n 3, 1) := by decide +kernel
theorem dX11_code_31 : decode cX11_code 31 = .ok (.ifCond .ne 11, 3) := by decide +kernel
theorem dX11_code_34 : decode cX11_code 34 = .ok (.aload_n 0, 1) := by decide +kernel
theorem dX11_code_35 : decode cX11_code 35 = .ok (.getfield 81, 3) := by decide +kernel
theorem dX11_code_38 : decode cX11_code 38 = .ok (.getfield 316, 3) := by decide +kernel
theorem dX11_code_41 : decode cX11_code 41 = .ok (.ireturn, 1) := by decide +kernel
theorem dX11_code_42 : decode cX11_code 42 = .ok (.iload_n 3, 1) := by decide +kernel
theorem dX11_code_43 : decode cX11_code 43 = .ok (.iconst 1, 1) := by decide +kernel
theorem dX11_code_44 : decode cX11_code 44 = .ok (.if_icmp .ne 11, 3) := by decide +kernel
theorem dX11_code_47 : decode cX11_code 47 = .ok (.aload_n 0, 1) := by decide +kernel
theorem dX11_code_48 : decode cX11_code 48 = .ok (.getfield 81, 3) := by decide +kernel
theorem dX11_code_51 : decode cX11_code 51 = .ok (.getfield 317, 3) := by decide +kernel
theorem dX11_code_54 : decode cX11_code 54 = .ok (.ireturn, 1) := by decide +kernel
theorem dX11_code_55 : decode cX11_code 55 = .ok (.aload_n 0, 1) := by decide +kernel
theorem dX11_code_56 : decode cX11_code 56 = .ok (.getfield 81, 3) := by decide +kernel
theorem dX11_code_59 : decode cX11_code 59 = .ok (.getfield 320, 3) := by decide +kernel
theorem dX11_code_62 : decode cX11_code 62 = .ok (.iconst (-1), 1) := by decide +kernel
theorem dX11_code_63 : decode cX11_code 63 = .ok (.if_icmp .eq 17, 3) := by decide +kernel
theorem dX11_code_66 : decode cX11_code 66 = .ok (.iload_n 3, 1) := by decide +kernel
theorem dX11_code_67 : decode cX11_code 67 = .ok (.bipush 100, 2) := by decide +kernel
theorem dX11_code_69 : decode cX11_code 69 = .ok (.isub, 1) := by decide +kernel
theorem dX11_code_70 : decode cX11_code 70 = .ok (.aload_n 0, 1) := by decide +kernel
theorem dX11_code_71 : decode cX11_code 71 = .ok (.getfield 81, 3) := by decide +kernel
theorem dX11_code_74 : decode cX11_code 74 = .ok (.getfield 316, 3) := by decide +kernel
theorem dX11_code_77 : decode cX11_code 77 = .ok (.if_icmp .le 5, 3) := by decide +kernel
theorem dX11_code_80 : decode cX11_code 80 = .ok (.iconst (-1), 1) := by decide +kernel
theorem dX11_code_81 : decode cX11_code 81 = .ok (.ireturn, 1) := by decide +kernel
theorem dX11_code_82 : decode cX11_code 82 = .ok (.aload_n 0, 1) := by decide +kernel
theorem dX11_code_83 : decode cX11_code 83 = .ok (.getfield 81, 3) := by decide +kernel
theorem dX11_code_86 : decode cX11_code 86 = .ok (.aload_n 0, 1) := by decide +kernel
theorem dX11_code_87 : decode cX11_code 87 = .ok (.getfield 60, 3) := by decide +kernel
theorem dX11_code_90 : decode cX11_code 90 = .ok (.getfield 156, 3) := by decide +kernel
theorem dX11_code_93 : decode cX11_code 93 = .ok (.invokevirtual 323, 3) := by decide +kernel
theorem dX11_code_96 : decode cX11_code 96 = .ok (.iload_n 3, 1) := by decide +kernel
theorem dX11_code_97 : decode cX11_code 97 = .ok (.iconst 2, 1) := by decide +kernel
theorem dX11_code_98 : decode cX11_code 98 = .ok (.if_icmp .ne 13, 3) := by decide +kernel
theorem dX11_code_101 : decode cX11_code 101 = .ok (.aload_n 0, 1) := by decide +kernel
theorem dX11_code_102 : decode cX11_code 102 = .ok (.getfield 81, 3) := by decide +kernel
theorem dX11_code_105 : decode cX11_code 105 = .ok (.invokevirtual 327, 3) := by decide +kernel
theorem dX11_code_108 : decode cX11_code 108 = .ok (.goto 15, 3) := by decide +kernel
theorem dX11_code_111 : decode cX11_code 111 = .ok (.aload_n 0, 1) := by decide +kernel
theorem dX11_code_112 : decode cX11_code 112 = .ok (.getfield 81, 3) := by decide +kernel
theorem dX11_code_115 : decode cX11_code 115 = .ok (.getfield 330, 3) := by decide +kernel
theorem dX11_code_118 : decode cX11_code 118 = .ok (.iload_n 3, 1) := by decide +kernel
theorem dX11_code_119 : decode cX11_code 119 = .ok (.bipush 100, 2) := by decide +kernel
theorem dX11_code_121 : decode cX11_code 121 = .ok (.isub, 1) := by decide +kernel
theorem dX11_code_122 : decode cX11_code 122 = .ok (.iaload, 1) := by decide +kernel
theorem dX11_code_123 : decode cX11_code 123 = .ok (.ireturn, 1) := by decide +kernel
set_option maxRecDepth 20000 in
theorem b_X11_code_0 {k n : Nat} {x : Wx} {Z : Zt} {Q : Option Value → Wx → Zt → Prop} {a0 : Nat} {v1 : Int} {v2 : Int} {v3 : Int} 
    (h : Rg v3 ∧ (((v3 < 0) → (V mX11_code k n 24 [none, none, none, none] [] x Z Q)) ∧ ((0 ≤ v3) → (((v3 ≤ 2) → (V mX11_code k n 15 [some (r_ a0), some (i_ v1), some (i_ v2), some (i_ v3)] [] x Z Q)) ∧ ((2 < v3) → (((v3 < 100) → (V mX11_code k n 24 [none, none, none, none] [] x Z Q)) ∧ ((100 ≤ v3) → (V mX11_code k n 15 [some (r_ a0), some (i_ v1), some (i_ v2), some (i_ v3)] [] x Z Q)))))))) :
    V mX11_code k n 0 [some (r_ a0), some (i_ v1), some (i_ v2), some (i_ v3)] [] x Z Q :=
  V_iload_n dX11_code_0 rfl (V_if_lt (tgt := 24) dX11_code_1 rfl h.1 (fun c1 => V_msk [false, false, false, false] rfl (h.2.1 c1)) (fun c1 => V_iload_n dX11_code_4 rfl (V_iconst dX11_code_5 (V_icmp_le (tgt := 15) dX11_code_6 rfl h.1 (rg_c rfl) (fun c2 => V_msk [true, true, true, true] rfl ((h.2.2 c1).1 c2)) (fun c2 => V_iload_n dX11_code_9 rfl (V_bipush dX11_code_10 rfl (V_icmp_lt (tgt := 24) dX11_code_12 rfl h.1 (rg_c rfl) (fun c3 => V_msk [false, false, false, false] rfl (((h.2.2 c1).2 c2).1 c3)) (fun c3 => V_msk [true, true, true, true] rfl (((h.2.2 c1).2 c2).2 c3)))))))))
set_option maxRecDepth 20000 in
theorem b_X11_code_15 {k n : Nat} {x : Wx} {Z : Zt} {Q : Option Value → Wx → Zt → Prop} {a0 : Nat} {v1 : Int} {v2 : Int} {v3 : Int} (o_a0 : Is11 x a0)
    (h : ∃ g1 : Ab, (OI x Z a0 g1 ∧ Rg v1 ∧ Rg v2 ∧ (∀ (x'1 : Wx) (Z'1 : Zt) (r'1 : Int), (OI x'1 Z'1 a0 g1 ∧ Fx a0 x x'1 Z Z'1 ∧ r'1 = bI (fitB g1.nw v1 v2) ∧ (fitB g1.nw v1 v2 = true → Z'1 a0 14 = v1 ∧ Z'1 a0 15 = v2)) → (Is11 x'1 a0 ∧ (Rg r'1 ∧ (((r'1 ≠ 0) → (∃ g2 : Ab, (∃ g3 : Nat, (∃ g4 : Nat, (OI x'1 Z'1 a0 g2 ∧ Z'1 a0 14 = (g3 : Int) ∧ Z'1 a0 15 = (g4 : Int) ∧ (∀ (Z'2 : Zt), (OI x'1 Z'2 a0 g2 ∧ Fx a0 x'1 x'1 Z'1 Z'2 ∧ (Z'2 a0 14 = (g3 : Int) ∧ Z'2 a0 15 = (g4 : Int) ∧ Z'2 a0 16 = 1)) → (Rg v3 ∧ (((v3 ≠ 0) → (((v3 ≠ 1) → (Rg (Z'2 (a0 + 116) 2) ∧ (((Z'2 (a0 + 116) 2 = (-1)) → (V mX11_code k n 80 [none, none, none, none] [] x'1 Z'2 Q)) ∧ ((Z'2 (a0 + 116) 2 ≠ (-1)) → (Rg (v3 - 100) ∧ Rg (Z'2 (a0 + 116) 0) ∧ (((v3 - 100 ≤ Z'2 (a0 + 116) 0) → (∃ g5 : Int, (∃ g6 : Nat → Int, (∃ g7 : Nat → Int, (IsP g5 ∧ Z'2 (a0 + 41) 0 = g5 ∧ CdA Z'2 (a0 + 116) g5 g6 g7 ∧ (Z'2 (a0 + 116) 7 = 0 ∨ (Z'2 (a0 + 116) 7 = 1 ∧ ∀ q : Nat, q < 27 → Z'2 ((a0 + 116) + 1) q = wgF g5 g6 g7 q)) ∧ ((a0 + 41) < (a0 + 116) ∨ (a0 + 116) + 113 ≤ (a0 + 41)) ∧ (∀ (Z'3 : Zt), ((Z'3 (a0 + 116) = fun i => if i = 7 then 1 else Z'2 (a0 + 116) i) ∧ (∀ q : Nat, q < 27 → Z'3 ((a0 + 116) + 1) q = wgF g5 g6 g7 q) ∧ Oth Z'2 Z'3 (fun b => b = (a0 + 116) ∨ b = (a0 + 116) + 1 ∨ b = (a0 + 116) + 111 ∨ b = (a0 + 116) + 112)) → (((v3 ≠ 2) → (0 ≤ v3 - 100 ∧ v3 - 100 < 27 ∧ (Q (some (i_ (Z'3 (a0 + 117) (v3 - 100).toNat))) x'1 Z'3))) ∧ ((v3 = 2) → (∃ g8 : Nat, ((Z'3 (a0 + 116) 0 = (g8 : Int) ∧ g8 ≤ 26) ∧ (∀ i : Nat, i < 27 → Rg (Z'3 ((a0 + 116) + 1) i)) ∧ (Q (some (i_ (lsN (Z'3 ((a0 + 116) + 1)) g8 1))) x'1 Z'3))))))))))) ∧ ((Z'2 (a0 + 116) 0 < v3 - 100) → (V mX11_code k n 80 [none, none, none, none] [] x'1 Z'2 Q)))))))) ∧ ((v3 = 1) → (Q (some (i_ (Z'2 (a0 + 116) 1))) x'1 Z'2)))) ∧ ((v3 = 0) → (Q (some (i_ (Z'2 (a0 + 116) 0))) x'1 Z'2)))))))))) ∧ ((r'1 = 0) → (V mX11_code k n 24 [none, none, none, none] [] x'1 Z'1 Q)))))))) :
    V mX11_code k n 15 [some (r_ a0), some (i_ v1), some (i_ v2), some (i_ v3)] [] x Z Q :=
  V_aload_n dX11_code_15 rfl (V_iload_n dX11_code_16 rfl (V_iload_n dX11_code_17 rfl (Exists.elim h (fun g1 w1 => V_callV (k' := 0) (n' := 0) (t := 11) (q := (RX11, TX11, 17)) [i_ v1, i_ v2] [] okX11_isRoomReady o_a0.1 rfl rfl lm_11_227 liX11_isRoomReady lqX11_isRoomReady (Nat.le_of_ble_eq_true rfl) (Nat.le_of_ble_eq_true rfl) (Nat.le_of_ble_eq_true rfl) (cat_of rfl) (Nat.le_of_ble_eq_true rfl) (Nat.zero_le _) (Nat.zero_le _) rfl dX11_code_18 (sp_X11_isRoomReady o_a0 w1.1 w1.2.1 w1.2.2.1 (fun x'1 Z'1 r'1 p1 => V_if_ne (tgt := 26) dX11_code_21 rfl (w1.2.2.2 x'1 Z'1 r'1 p1).2.1 (fun c1 => V_aload_n dX11_code_26 rfl (Exists.elim ((w1.2.2.2 x'1 Z'1 r'1 p1).2.2.1 c1) (fun g2 w2 => Exists.elim w2 (fun g3 w3 => Exists.elim w3 (fun g4 w4 => V_callV (k' := 0) (n' := 0) (t := 11) (q := (RX11, TX11, 17)) [] [] okX11_readyCode (w1.2.2.2 x'1 Z'1 r'1 p1).1.1 rfl rfl lm_11_313 liX11_readyCode lqX11_readyCode (Nat.le_of_ble_eq_true rfl) (Nat.le_of_ble_eq_true rfl) (Nat.le_of_ble_eq_true rfl) (cat_of rfl) (Nat.le_of_ble_eq_true rfl) (Nat.zero_le _) (Nat.zero_le _) rfl dX11_code_27 (sp_X11_readyCode (w1.2.2.2 x'1 Z'1 r'1 p1).1 w4.1 w4.2.1 w4.2.2.1 (fun Z'2 p2 => V_iload_n dX11_code_30 rfl (V_if_ne (tgt := 42) dX11_code_31 rfl (w4.2.2.2 Z'2 p2).1 (fun c2 => V_iload_n dX11_code_42 rfl (V_iconst dX11_code_43 (V_icmp_ne (tgt := 55) dX11_code_44 rfl (w4.2.2.2 Z'2 p2).1 (rg_c rfl) (fun c3 => V_aload_n dX11_code_55 rfl (G_11_10 (w1.2.2.2 x'1 Z'1 r'1 p1).1.1 (w1.2.2.2 x'1 Z'1 r'1 p1).1.qR10 lf_11_81 dX11_code_56 (G_1_2 (w1.2.2.2 x'1 Z'1 r'1 p1).1.qK10.1 lf_11_320 dX11_code_59 (V_iconst dX11_code_62 (V_icmp_eq (tgt := 80) dX11_code_63 rfl (((w4.2.2.2 Z'2 p2).2.1 c2).1 c3).1 (rg_c rfl) (fun c4 => V_msk [false, false, false, false] rfl ((((w4.2.2.2 Z'2 p2).2.1 c2).1 c3).2.1 c4)) (fun c4 => V_iload_n dX11_code_66 rfl (V_bipush dX11_code_67 rfl (V_isub dX11_code_69 (V_aload_n dX11_code_70 rfl (G_11_10 (w1.2.2.2 x'1 Z'1 r'1 p1).1.1 (w1.2.2.2 x'1 Z'1 r'1 p1).1.qR10 lf_11_81 dX11_code_71 (G_1_0 (w1.2.2.2 x'1 Z'1 r'1 p1).1.qK10.1 lf_11_316 dX11_code_74 (V_icmp_le (tgt := 82) dX11_code_77 rfl ((((w4.2.2.2 Z'2 p2).2.1 c2).1 c3).2.2 c4).1 ((((w4.2.2.2 Z'2 p2).2.1 c2).1 c3).2.2 c4).2.1 (fun c5 => V_aload_n dX11_code_82 rfl (G_11_10 (w1.2.2.2 x'1 Z'1 r'1 p1).1.1 (w1.2.2.2 x'1 Z'1 r'1 p1).1.qR10 lf_11_81 dX11_code_83 (V_aload_n dX11_code_86 rfl (G_11_7 (w1.2.2.2 x'1 Z'1 r'1 p1).1.1 (w1.2.2.2 x'1 Z'1 r'1 p1).1.qR7 lf_11_60 dX11_code_87 (G_2_0 (w1.2.2.2 x'1 Z'1 r'1 p1).1.qK7.1 (w1.2.2.2 x'1 Z'1 r'1 p1).1.qK7.2.1 lf_11_156 dX11_code_90 (Exists.elim (((((w4.2.2.2 Z'2 p2).2.1 c2).1 c3).2.2 c4).2.2.1 c5) (fun g5 w5 => Exists.elim w5 (fun g6 w6 => Exists.elim w6 (fun g7 w7 => V_callV (k' := 0) (n' := 0) (t := 1) (q := (RX1, TX1, 17)) [r_ (a0 + 41)] [] okX1_weighAll (w1.2.2.2 x'1 Z'1 r'1 p1).1.qK10.1 rfl rfl lm_11_323 liX1_weighAll lqX1_weighAll (Nat.le_of_ble_eq_true rfl) (Nat.le_of_ble_eq_true rfl) (Nat.le_of_ble_eq_true rfl) (cat_of rfl) (Nat.le_of_ble_eq_true rfl) (Nat.zero_le _) (Nat.zero_le _) rfl dX11_code_93 (sp_X1_weighAll (w1.2.2.2 x'1 Z'1 r'1 p1).1.qK10 (w1.2.2.2 x'1 Z'1 r'1 p1).1.qK7.2.2.1 w7.1 w7.2.1 w7.2.2.1 w7.2.2.2.1 w7.2.2.2.2.1 (fun Z'3 p3 => V_iload_n dX11_code_96 rfl (V_iconst dX11_code_97 (V_icmp_ne (tgt := 111) dX11_code_98 rfl (w4.2.2.2 Z'2 p2).1 (rg_c rfl) (fun c6 => V_aload_n dX11_code_111 rfl (G_11_10 (w1.2.2.2 x'1 Z'1 r'1 p1).1.1 (w1.2.2.2 x'1 Z'1 r'1 p1).1.qR10 lf_11_81 dX11_code_112 (G_1_5 (w1.2.2.2 x'1 Z'1 r'1 p1).1.qK10.1 (w1.2.2.2 x'1 Z'1 r'1 p1).1.qK10.2.1 lf_11_330 dX11_code_115 (V_iload_n dX11_code_118 rfl (V_bipush dX11_code_119 rfl (V_isub dX11_code_121 (V_iald (t := 100) (w1.2.2.2 x'1 Z'1 r'1 p1).1.qK10.2.2.1 (by decide) rfl ((w7.2.2.2.2.2 Z'3 p3).1 c6).1 ((w7.2.2.2.2.2 Z'3 p3).1 c6).2.1 (Nat.le_of_ble_eq_true rfl) dX11_code_122 (V_iret (ty := .int) dX11_code_123 rfl rfl ((w7.2.2.2.2.2 Z'3 p3).1 c6).2.2)))))))) (fun c6 => V_aload_n dX11_code_101 rfl (G_11_10 (w1.2.2.2 x'1 Z'1 r'1 p1).1.1 (w1.2.2.2 x'1 Z'1 r'1 p1).1.qR10 lf_11_81 dX11_code_102 (Exists.elim ((w7.2.2.2.2.2 Z'3 p3).2 c6) (fun g8 w8 => V_callV (k' := 0) (n' := 0) (t := 1) (q := (RX1, TX1, 17)) [] [] okX1_least (w1.2.2.2 x'1 Z'1 r'1 p1).1.qK10.1 rfl rfl lm_11_327 liX1_least lqX1_least (Nat.le_of_ble_eq_true rfl) (Nat.le_of_ble_eq_true rfl) (Nat.le_of_ble_eq_true rfl) (cat_of rfl) (Nat.le_of_ble_eq_true rfl) (Nat.zero_le _) (Nat.zero_le _) rfl dX11_code_105 (sp_X1_least (w1.2.2.2 x'1 Z'1 r'1 p1).1.qK10 w8.1 w8.2.1 (V_goto (tgt := 123) dX11_code_108 rfl (V_iret (ty := .int) dX11_code_123 rfl rfl w8.2.2)))))))))))))))))))) (fun c5 => V_msk [false, false, false, false] rfl (((((w4.2.2.2 Z'2 p2).2.1 c2).1 c3).2.2 c4).2.2.2 c5)))))))))))))) (fun c3 => V_aload_n dX11_code_47 rfl (G_11_10 (w1.2.2.2 x'1 Z'1 r'1 p1).1.1 (w1.2.2.2 x'1 Z'1 r'1 p1).1.qR10 lf_11_81 dX11_code_48 (G_1_1 (w1.2.2.2 x'1 Z'1 r'1 p1).1.qK10.1 lf_11_317 dX11_code_51 (V_iret (ty := .int) dX11_code_54 rfl rfl (((w4.2.2.2 Z'2 p2).2.1 c2).2 c3)))))))) (fun c2 => V_aload_n dX11_code_34 rfl (G_11_10 (w1.2.2.2 x'1 Z'1 r'1 p1).1.1 (w1.2.2.2 x'1 Z'1 r'1 p1).1.qR10 lf_11_81 dX11_code_35 (G_1_0 (w1.2.2.2 x'1 Z'1 r'1 p1).1.qK10.1 lf_11_316 dX11_code_38 (V_iret (ty := .int) dX11_code_41 rfl rfl ((w4.2.2.2 Z'2 p2).2.2 c2))))))))))))) (fun c1 => V_msk [false, false, false, false] rfl ((w1.2.2.2 x'1 Z'1 r'1 p1).2.2.2 c1))))))))
set_option maxRecDepth 20000 in
theorem b_X11_code_24 {k n : Nat} {x : Wx} {Z : Zt} {Q : Option Value → Wx → Zt → Prop}  
    (h : Q (some (i_ (-1))) x Z) :
    V mX11_code k n 24 [none, none, none, none] [] x Z Q :=
  V_iconst dX11_code_24 (V_iret (ty := .int) dX11_code_25 rfl rfl h)
set_option maxRecDepth 20000 in
theorem b_X11_code_80 {k n : Nat} {x : Wx} {Z : Zt} {Q : Option Value → Wx → Zt → Prop}  
    (h : Q (some (i_ (-1))) x Z) :
    V mX11_code k n 80 [none, none, none, none] [] x Z Q :=
  V_iconst dX11_code_80 (V_iret (ty := .int) dX11_code_81 rfl rfl h)
theorem dX11_sent_0 : decode cX11_sent 0 = .ok (.iload_n 3, 1) := by decide +kernel
theorem dX11_sent_1 : decode cX11_sent 1 = .ok (.ifCond .lt 17, 3) := by decide +kernel
theorem dX11_sent_4 : decode cX11_sent 4 = .ok (.iload 4, 2) := by decide +kernel
theorem dX11_sent_6 : decode cX11_sent 6 = .ok (.ifCond .lt 12, 3) := by decide +kernel
theorem dX11_sent_9 : decode cX11_sent 9 = .ok (.aload_n 0, 1) := by decide +kernel
theorem dX11_sent_10 : decode cX11_sent 10 = .ok (.iload_n 1, 1) := by decide +kernel
theorem dX11_sent_11 : decode cX11_sent 11 = .ok (.iload_n 2, 1) := by decide +kernel
theorem dX11_sent_12 : decode cX11_sent 12 = .ok (.invokevirtual 227, 3) := by decide +kernel
theorem dX11_sent_15 : decode cX11_sent 15 = .ok (.ifCond .ne 5, 3) := by decide +kernel
theorem dX11_sent_18 : decode cX11_sent 18 = .ok (.iconst (-1), 1) := by decide +kernel
theorem dX11_sent_19 : decode cX11_sent 19 = .ok (.ireturn, 1) := by decide +kernel
theorem dX11_sent_20 : decode cX11_sent 20 = .ok (.aload_n 0, 1) := by decide +kernel
theorem dX11_sent_21 : decode cX11_sent 21 = .ok (.invokevirtual 313, 3) := by decide +kernel
theorem dX11_sent_24 : decode cX11_sent 24 = .ok (.iload 4, 2) := by decide +kernel
theorem dX11_sent_26 : decode cX11_sent 26 = .ok (.aload_n 0, 1) := by decide +kernel
theorem dX11_sent_27 : decode cX11_sent 27 = .ok (.getfield 81, 3) := by decide +kernel
theorem dX11_sent_30 : decode cX11_sent 30 = .ok (.getfield 316, 3) := by decide +kernel
theorem dX11_sent_33 : decode cX11_sent 33 = .ok (.if_icmp .lt 5, 3) := by decide +kernel
theorem dX11_sent_36 : decode cX11_sent 36 = .ok (.iconst (-1), 1) := by decide +kernel
theorem dX11_sent_37 : decode cX11_sent 37 = .ok (.ireturn, 1) := by decide +kernel
theorem dX11_sent_38 : decode cX11_sent 38 = .ok (.aload_n 0, 1) := by decide +kernel
theorem dX11_sent_39 : decode cX11_sent 39 = .ok (.getfield 81, 3) := by decide +kernel
theorem dX11_sent_42 : decode cX11_sent 42 = .ok (.aload_n 0, 1) := by decide +kernel
theorem dX11_sent_43 : decode cX11_sent 43 = .ok (.getfield 60, 3) := by decide +kernel
theorem dX11_sent_46 : decode cX11_sent 46 = .ok (.getfield 156, 3) := by decide +kernel
theorem dX11_sent_49 : decode cX11_sent 49 = .ok (.iload_n 3, 1) := by decide +kernel
theorem dX11_sent_50 : decode cX11_sent 50 = .ok (.invokevirtual 333, 3) := by decide +kernel
theorem dX11_sent_53 : decode cX11_sent 53 = .ok (.aload_n 0, 1) := by decide +kernel
theorem dX11_sent_54 : decode cX11_sent 54 = .ok (.getfield 81, 3) := by decide +kernel
theorem dX11_sent_57 : decode cX11_sent 57 = .ok (.getfield 337, 3) := by decide +kernel
theorem dX11_sent_60 : decode cX11_sent 60 = .ok (.iload 4, 2) := by decide +kernel
theorem dX11_sent_62 : decode cX11_sent 62 = .ok (.iaload, 1) := by decide +kernel
theorem dX11_sent_63 : decode cX11_sent 63 = .ok (.ireturn, 1) := by decide +kernel
set_option maxRecDepth 20000 in
theorem b_X11_sent_0 {k n : Nat} {x : Wx} {Z : Zt} {Q : Option Value → Wx → Zt → Prop} {a0 : Nat} {v1 : Int} {v2 : Int} {v3 : Int} {v4 : Int} (o_a0 : Is11 x a0)
    (h : Rg v3 ∧ (((v3 < 0) → (V mX11_sent k n 18 [none, none, none, none, none] [] x Z Q)) ∧ ((0 ≤ v3) → (Rg v4 ∧ (((v4 < 0) → (V mX11_sent k n 18 [none, none, none, none, none] [] x Z Q)) ∧ ((0 ≤ v4) → (∃ g1 : Ab, (OI x Z a0 g1 ∧ Rg v1 ∧ Rg v2 ∧ (∀ (x'1 : Wx) (Z'1 : Zt) (r'1 : Int), (OI x'1 Z'1 a0 g1 ∧ Fx a0 x x'1 Z Z'1 ∧ r'1 = bI (fitB g1.nw v1 v2) ∧ (fitB g1.nw v1 v2 = true → Z'1 a0 14 = v1 ∧ Z'1 a0 15 = v2)) → (Is11 x'1 a0 ∧ (Rg r'1 ∧ (((r'1 ≠ 0) → (∃ g2 : Ab, (∃ g3 : Nat, (∃ g4 : Nat, (OI x'1 Z'1 a0 g2 ∧ Z'1 a0 14 = (g3 : Int) ∧ Z'1 a0 15 = (g4 : Int) ∧ (∀ (Z'2 : Zt), (OI x'1 Z'2 a0 g2 ∧ Fx a0 x'1 x'1 Z'1 Z'2 ∧ (Z'2 a0 14 = (g3 : Int) ∧ Z'2 a0 15 = (g4 : Int) ∧ Z'2 a0 16 = 1)) → (Rg (Z'2 (a0 + 116) 0) ∧ (((v4 < Z'2 (a0 + 116) 0) → (∃ g5 : Int, (∃ g6 : Nat → Int, (∃ g7 : Nat → Int, (IsP g5 ∧ Z'2 (a0 + 41) 0 = g5 ∧ CdA Z'2 (a0 + 116) g5 g6 g7 ∧ (Rg v3 ∧ 0 ≤ v3) ∧ ((a0 + 41) < (a0 + 116) ∨ (a0 + 116) + 113 ≤ (a0 + 41)) ∧ (∀ (Z'3 : Zt), ((∀ i : Nat, i < 26 → Z'3 ((a0 + 116) + 2) i = sntF g5 g6 g7 v3 i) ∧ Oth Z'2 Z'3 (fun b => b = (a0 + 116) + 2)) → (v4 < 26 ∧ (Q (some (i_ (Z'3 (a0 + 118) v4.toNat))) x'1 Z'3)))))))) ∧ ((Z'2 (a0 + 116) 0 ≤ v4) → (Q (some (i_ (-1))) x'1 Z'2)))))))))) ∧ ((r'1 = 0) → (V mX11_sent k n 18 [none, none, none, none, none] [] x'1 Z'1 Q)))))))))))))) :
    V mX11_sent k n 0 [some (r_ a0), some (i_ v1), some (i_ v2), some (i_ v3), some (i_ v4)] [] x Z Q :=
  V_iload_n dX11_sent_0 rfl (V_if_lt (tgt := 18) dX11_sent_1 rfl h.1 (fun c1 => V_msk [false, false, false, false, false] rfl (h.2.1 c1)) (fun c1 => V_iload dX11_sent_4 rfl (V_if_lt (tgt := 18) dX11_sent_6 rfl (h.2.2 c1).1 (fun c2 => V_msk [false, false, false, false, false] rfl ((h.2.2 c1).2.1 c2)) (fun c2 => V_aload_n dX11_sent_9 rfl (V_iload_n dX11_sent_10 rfl (V_iload_n dX11_sent_11 rfl (Exists.elim ((h.2.2 c1).2.2 c2) (fun g1 w1 => V_callV (k' := 0) (n' := 0) (t := 11) (q := (RX11, TX11, 17)) [i_ v1, i_ v2] [] okX11_isRoomReady o_a0.1 rfl rfl lm_11_227 liX11_isRoomReady lqX11_isRoomReady (Nat.le_of_ble_eq_true rfl) (Nat.le_of_ble_eq_true rfl) (Nat.le_of_ble_eq_true rfl) (cat_of rfl) (Nat.le_of_ble_eq_true rfl) (Nat.zero_le _) (Nat.zero_le _) rfl dX11_sent_12 (sp_X11_isRoomReady o_a0 w1.1 w1.2.1 w1.2.2.1 (fun x'1 Z'1 r'1 p1 => V_if_ne (tgt := 20) dX11_sent_15 rfl (w1.2.2.2 x'1 Z'1 r'1 p1).2.1 (fun c3 => V_aload_n dX11_sent_20 rfl (Exists.elim ((w1.2.2.2 x'1 Z'1 r'1 p1).2.2.1 c3) (fun g2 w2 => Exists.elim w2 (fun g3 w3 => Exists.elim w3 (fun g4 w4 => V_callV (k' := 0) (n' := 0) (t := 11) (q := (RX11, TX11, 17)) [] [] okX11_readyCode (w1.2.2.2 x'1 Z'1 r'1 p1).1.1 rfl rfl lm_11_313 liX11_readyCode lqX11_readyCode (Nat.le_of_ble_eq_true rfl) (Nat.le_of_ble_eq_true rfl) (Nat.le_of_ble_eq_true rfl) (cat_of rfl) (Nat.le_of_ble_eq_true rfl) (Nat.zero_le _) (Nat.zero_le _) rfl dX11_sent_21 (sp_X11_readyCode (w1.2.2.2 x'1 Z'1 r'1 p1).1 w4.1 w4.2.1 w4.2.2.1 (fun Z'2 p2 => V_iload dX11_sent_24 rfl (V_aload_n dX11_sent_26 rfl (G_11_10 (w1.2.2.2 x'1 Z'1 r'1 p1).1.1 (w1.2.2.2 x'1 Z'1 r'1 p1).1.qR10 lf_11_81 dX11_sent_27 (G_1_0 (w1.2.2.2 x'1 Z'1 r'1 p1).1.qK10.1 lf_11_316 dX11_sent_30 (V_icmp_lt (tgt := 38) dX11_sent_33 rfl (h.2.2 c1).1 (w4.2.2.2 Z'2 p2).1 (fun c4 => V_aload_n dX11_sent_38 rfl (G_11_10 (w1.2.2.2 x'1 Z'1 r'1 p1).1.1 (w1.2.2.2 x'1 Z'1 r'1 p1).1.qR10 lf_11_81 dX11_sent_39 (V_aload_n dX11_sent_42 rfl (G_11_7 (w1.2.2.2 x'1 Z'1 r'1 p1).1.1 (w1.2.2.2 x'1 Z'1 r'1 p1).1.qR7 lf_11_60 dX11_sent_43 (G_2_0 (w1.2.2.2 x'1 Z'1 r'1 p1).1.qK7.1 (w1.2.2.2 x'1 Z'1 r'1 p1).1.qK7.2.1 lf_11_156 dX11_sent_46 (V_iload_n dX11_sent_49 rfl (Exists.elim ((w4.2.2.2 Z'2 p2).2.1 c4) (fun g5 w5 => Exists.elim w5 (fun g6 w6 => Exists.elim w6 (fun g7 w7 => V_callV (k' := 0) (n' := 0) (t := 1) (q := (RX1, TX1, 17)) [r_ (a0 + 41), i_ v3] [] okX1_send (w1.2.2.2 x'1 Z'1 r'1 p1).1.qK10.1 rfl rfl lm_11_333 liX1_send lqX1_send (Nat.le_of_ble_eq_true rfl) (Nat.le_of_ble_eq_true rfl) (Nat.le_of_ble_eq_true rfl) (cat_of rfl) (Nat.le_of_ble_eq_true rfl) (Nat.zero_le _) (Nat.zero_le _) rfl dX11_sent_50 (sp_X1_send (w1.2.2.2 x'1 Z'1 r'1 p1).1.qK10 (w1.2.2.2 x'1 Z'1 r'1 p1).1.qK7.2.2.1 w7.1 w7.2.1 w7.2.2.1 w7.2.2.2.1 w7.2.2.2.2.1 (fun Z'3 p3 => V_aload_n dX11_sent_53 rfl (G_11_10 (w1.2.2.2 x'1 Z'1 r'1 p1).1.1 (w1.2.2.2 x'1 Z'1 r'1 p1).1.qR10 lf_11_81 dX11_sent_54 (G_1_6 (w1.2.2.2 x'1 Z'1 r'1 p1).1.qK10.1 (w1.2.2.2 x'1 Z'1 r'1 p1).1.qK10.2.2.2.1 lf_11_337 dX11_sent_57 (V_iload dX11_sent_60 rfl (V_iald (t := 100) (w1.2.2.2 x'1 Z'1 r'1 p1).1.qK10.2.2.2.2.1 (by decide) rfl c2 (w7.2.2.2.2.2 Z'3 p3).1 (Nat.le_of_ble_eq_true rfl) dX11_sent_62 (V_iret (ty := .int) dX11_sent_63 rfl rfl (w7.2.2.2.2.2 Z'3 p3).2))))))))))))))))) (fun c4 => V_iconst dX11_sent_36 (V_iret (ty := .int) dX11_sent_37 rfl rfl ((w4.2.2.2 Z'2 p2).2.2 c4)))))))))))))) (fun c3 => V_msk [false, false, false, false, false] rfl ((w1.2.2.2 x'1 Z'1 r'1 p1).2.2.2 c3))))))))))))
set_option maxRecDepth 20000 in
theorem b_X11_sent_18 {k n : Nat} {x : Wx} {Z : Zt} {Q : Option Value → Wx → Zt → Prop}  
    (h : Q (some (i_ (-1))) x Z) :
    V mX11_sent k n 18 [none, none, none, none, none] [] x Z Q :=
  V_iconst dX11_sent_18 (V_iret (ty := .int) dX11_sent_19 rfl rfl h)
theorem dX11_mended_0 : decode cX11_mended 0 = .ok (.iload_n 3, 1) := by decide +kernel
theorem dX11_mended_1 : decode cX11_mended 1 = .ok (.ifCond .lt 35, 3) := by decide +kernel
theorem dX11_mended_4 : decode cX11_mended 4 = .ok (.iload 4, 2) := by decide +kernel
theorem dX11_mended_6 : decode cX11_mended 6 = .ok (.ifCond .lt 30, 3) := by decide +kernel
theorem dX11_mended_9 : decode cX11_mended 9 = .ok (.iload 4, 2) := by decide +kernel
theorem dX11_mended_11 : decode cX11_mended 11 = .ok (.bipush 9, 2) := by decide +kernel
theorem dX11_mended_13 : decode cX11_mended 13 = .ok (.if_icmp .gt 23, 3) := by decide +kernel
theorem dX11_mended_16 : decode cX11_mended 16 = .ok (.iload 6, 2) := by decide +kernel
theorem dX11_mended_18 : decode cX11_mended 18 = .ok (.ifCond .lt 18, 3) := by decide +kernel
theorem dX11_mended_21 : decode cX11_mended 21 = .ok (.iload 6, 2) := by decide +kernel
theorem dX11_mended_23 : decode cX11_mended 23 = .ok (.iconst 2, 1) := by decide +kernel
theorem dX11_mended_24 : decode cX11_mended 24 = .ok (.if_icmp .gt 12, 3) := by decide +kernel
theorem dX11_mended_27 : decode cX11_mended 27 = .ok (.aload_n 0, 1) := by decide +kernel
theorem dX11_mended_28 : decode cX11_mended 28 = .ok (.iload_n 1, 1) := by decide +kernel
theorem dX11_mended_29 : decode cX11_mended 29 = .ok (.iload_n 2, 1) := by decide +kernel
theorem dX11_mended_30 : decode cX11_mended 30 = .ok (.invokevirtual 227, 3) := by decide +kernel
theorem dX11_mended_33 : decode cX11_mended 33 = .ok (.ifCond .ne 5, 3) := by decide +kernel
theorem dX11_mended_36 : decode cX11_mended 36 = .ok (.iconst (-1), 1) := by decide +kernel
theorem dX11_mended_37 : decode cX11_mended 37 = .ok (.ireturn, 1) := by decide +kernel
theorem dX11_mended_38 : decode cX11_mended 38 = .ok (.aload_n 0, 1) := by decide +kernel
theorem dX11_mended_39 : decode cX11_mended 39 = .ok (.invokevirtual 313, 3) := by decide +kernel
theorem dX11_mended_42 : decode cX11_mended 42 = .ok (.aload_n 0, 1) := by decide +kernel
theorem dX11_mended_43 : decode cX11_mended 43 = .ok (.getfield 81, 3) := by decide +kernel
theorem dX11_mended_46 : decode cX11_mended 46 = .ok (.getfield 320, 3) := by decide +kernel
theorem dX11_mended_49 : decode cX11_mended 49 = .ok (.iconst (-1), 1) := by decide +kernel
theorem dX11_mended_50 : decode cX11_mended 50 = .ok (.if_icmp .eq 13, 3) := by decide +kernel
theorem dX11_mended_53 : decode cX11_mended 53 = .ok (.aload_n 0, 1) := by decide +kernel
theorem dX11_mended_54 : decode cX11_mended 54 = .ok (.getfield 81, 3) := by decide +kernel
theorem dX11_mended_57 : decode cX11_mended 57 = .ok (.getfield 316, 3) := by decide +kernel
theorem dX11_mended_60 : decode cX11_mended 60 = .ok (.ifCond .ne 5, 3) := by decide +kernel
theorem dX11_mended_63 : decode cX11_mended 63 = .ok (.iconst (-1), 1) := by decide +kernel
theorem dX11_mended_64 : decode cX11_mended 64 = .ok (.ireturn, 1) := by decide +kernel
theorem dX11_mended_65 : decode cX11_mended 65 = .ok (.aload_n 0, 1) := by decide +kernel
theorem dX11_mended_66 : decode cX11_mended 66 = .ok (.getfield 81, 3) := by decide +kernel
theorem dX11_mended_69 : decode cX11_mended 69 = .ok (.aload_n 0, 1) := by decide +kernel
theorem dX11_mended_70 : decode cX11_mended 70 = .ok (.getfield 60, 3) := by decide +kernel
theorem dX11_mended_73 : decode cX11_mended 73 = .ok (.getfield 156, 3) := by decide +kernel
theorem dX11_mended_76 : decode cX11_mended 76 = .ok (.iload_n 3, 1) := by decide +kernel
theorem dX11_mended_77 : decode cX11_mended 77 = .ok (.invokevirtual 333, 3) := by decide +kernel
theorem dX11_mended_80 : decode cX11_mended 80 = .ok (.aload_n 0, 1) := by decide +kernel
theorem dX11_mended_81 : decode cX11_mended 81 = .ok (.getfield 81, 3) := by decide +kernel
theorem dX11_mended_84 : decode cX11_mended 84 = .ok (.aload_n 0, 1) := by decide +kernel
theorem dX11_mended_85 : decode cX11_mended 85 = .ok (.getfield 60, 3) := by decide +kernel
theorem dX11_mended_88 : decode cX11_mended 88 = .ok (.getfield 156, 3) := by decide +kernel
theorem dX11_mended_91 : decode cX11_mended 91 = .ok (.iload 4, 2) := by decide +kernel
theorem dX11_mended_93 : decode cX11_mended 93 = .ok (.iload 5, 2) := by decide +kernel
theorem dX11_mended_95 : decode cX11_mended 95 = .ok (.invokevirtual 340, 3) := by decide +kernel
theorem dX11_mended_98 : decode cX11_mended 98 = .ok (.aload_n 0, 1) := by decide +kernel
theorem dX11_mended_99 : decode cX11_mended 99 = .ok (.getfield 81, 3) := by decide +kernel
theorem dX11_mended_102 : decode cX11_mended 102 = .ok (.aload_n 0, 1) := by decide +kernel
theorem dX11_mended_103 : decode cX11_mended 103 = .ok (.getfield 60, 3) := by decide +kernel
theorem dX11_mended_106 : decode cX11_mended 106 = .ok (.getfield 156, 3) := by decide +kernel
theorem dX11_mended_109 : decode cX11_mended 109 = .ok (.invokevirtual 344, 3) := by decide +kernel
theorem dX11_mended_112 : decode cX11_mended 112 = .ok (.iload 6, 2) := by decide +kernel
theorem dX11_mended_114 : decode cX11_mended 114 = .ok (.ifCond .ne 11, 3) := by decide +kernel
theorem dX11_mended_117 : decode cX11_mended 117 = .ok (.aload_n 0, 1) := by decide +kernel
theorem dX11_mended_118 : decode cX11_mended 118 = .ok (.getfield 81, 3) := by decide +kernel
theorem dX11_mended_121 : decode cX11_mended 121 = .ok (.getfield 347, 3) := by decide +kernel
theorem dX11_mended_124 : decode cX11_mended 124 = .ok (.ireturn, 1) := by decide +kernel
theorem dX11_mended_125 : decode cX11_mended 125 = .ok (.iload 6, 2) := by decide +kernel
theorem dX11_mended_127 : decode cX11_mended 127 = .ok (.iconst 1, 1) := by decide +kernel
theorem dX11_mended_128 : decode cX11_mended 128 = .ok (.if_icmp .ne 11, 3) := by decide +kernel
theorem dX11_mended_131 : decode cX11_mended 131 = .ok (.aload_n 0, 1) := by decide +kernel
theorem dX11_mended_132 : decode cX11_mended 132 = .ok (.getfield 81, 3) := by decide +kernel
theorem dX11_mended_135 : decode cX11_mended 135 = .ok (.getfield 350, 3) := by decide +kernel
theorem dX11_mended_138 : decode cX11_mended 138 = .ok (.ireturn, 1) := by decide +kernel
theorem dX11_mended_139 : decode cX11_mended 139 = .ok (.aload_n 0, 1) := by decide +kernel
theorem dX11_mended_140 : decode cX11_mended 140 = .ok (.getfield 81, 3) := by decide +kernel
theorem dX11_mended_143 : decode cX11_mended 143 = .ok (.invokevirtual 353, 3) := by decide +kernel
theorem dX11_mended_146 : decode cX11_mended 146 = .ok (.ifCond .eq 7, 3) := by decide +kernel
theorem dX11_mended_149 : decode cX11_mended 149 = .ok (.iconst 1, 1) := by decide +kernel
theorem dX11_mended_150 : decode cX11_mended 150 = .ok (.goto 4, 3) := by decide +kernel
theorem dX11_mended_153 : decode cX11_mended 153 = .ok (.iconst 0, 1) := by decide +kernel
theorem dX11_mended_154 : decode cX11_mended 154 = .ok (.ireturn, 1) := by decide +kernel
set_option maxRecDepth 20000 in
theorem b_X11_mended_0 {k n : Nat} {x : Wx} {Z : Zt} {Q : Option Value → Wx → Zt → Prop} {a0 : Nat} {v1 : Int} {v2 : Int} {v3 : Int} {v4 : Int} {v5 : Int} {v6 : Int} (o_a0 : Is11 x a0)
    (h : Rg v3 ∧ (((v3 < 0) → (V mX11_mended k n 36 [none, none, none, none, none, none, none] [] x Z Q)) ∧ ((0 ≤ v3) → (Rg v4 ∧ (((v4 < 0) → (V mX11_mended k n 36 [none, none, none, none, none, none, none] [] x Z Q)) ∧ ((0 ≤ v4) → (((9 < v4) → (V mX11_mended k n 36 [none, none, none, none, none, none, none] [] x Z Q)) ∧ ((v4 ≤ 9) → (Rg v6 ∧ (((v6 < 0) → (V mX11_mended k n 36 [none, none, none, none, none, none, none] [] x Z Q)) ∧ ((0 ≤ v6) → (((2 < v6) → (V mX11_mended k n 36 [none, none, none, none, none, none, none] [] x Z Q)) ∧ ((v6 ≤ 2) → (∃ g1 : Ab, (OI x Z a0 g1 ∧ Rg v1 ∧ Rg v2 ∧ (∀ (x'1 : Wx) (Z'1 : Zt) (r'1 : Int), (OI x'1 Z'1 a0 g1 ∧ Fx a0 x x'1 Z Z'1 ∧ r'1 = bI (fitB g1.nw v1 v2) ∧ (fitB g1.nw v1 v2 = true → Z'1 a0 14 = v1 ∧ Z'1 a0 15 = v2)) → (Is11 x'1 a0 ∧ (Rg r'1 ∧ (((r'1 ≠ 0) → (∃ g2 : Ab, (∃ g3 : Nat, (∃ g4 : Nat, (OI x'1 Z'1 a0 g2 ∧ Z'1 a0 14 = (g3 : Int) ∧ Z'1 a0 15 = (g4 : Int) ∧ (∀ (Z'2 : Zt), (OI x'1 Z'2 a0 g2 ∧ Fx a0 x'1 x'1 Z'1 Z'2 ∧ (Z'2 a0 14 = (g3 : Int) ∧ Z'2 a0 15 = (g4 : Int) ∧ Z'2 a0 16 = 1)) → (Rg (Z'2 (a0 + 116) 2) ∧ (((Z'2 (a0 + 116) 2 = (-1)) → (V mX11_mended k n 63 [none, none, none, none, none, none, none] [] x'1 Z'2 Q)) ∧ ((Z'2 (a0 + 116) 2 ≠ (-1)) → (Rg (Z'2 (a0 + 116) 0) ∧ (((Z'2 (a0 + 116) 0 ≠ 0) → (∃ g5 : Int, (∃ g6 : Nat → Int, (∃ g7 : Nat → Int, (IsP g5 ∧ Z'2 (a0 + 41) 0 = g5 ∧ CdA Z'2 (a0 + 116) g5 g6 g7 ∧ (Rg v3 ∧ 0 ≤ v3) ∧ ((a0 + 41) < (a0 + 116) ∨ (a0 + 116) + 113 ≤ (a0 + 41)) ∧ (∀ (Z'3 : Zt), ((∀ i : Nat, i < 26 → Z'3 ((a0 + 116) + 2) i = sntF g5 g6 g7 v3 i) ∧ Oth Z'2 Z'3 (fun b => b = (a0 + 116) + 2)) → (∃ g8 : Int, (∃ g9 : Nat, (∃ g10 : Nat → Int, (IsP g8 ∧ Z'3 (a0 + 41) 0 = g8 ∧ (Z'3 (a0 + 116) 0 = (g9 : Int) ∧ 0 < g9 ∧ g9 ≤ 26) ∧ (∀ i : Nat, i < 26 → Z'3 ((a0 + 116) + 2) i = g10 i ∧ 0 ≤ g10 i ∧ g10 i < g8) ∧ (0 ≤ v4 ∧ v4 ≤ 9) ∧ ((a0 + 41) < (a0 + 116) ∨ (a0 + 116) + 113 ≤ (a0 + 41)) ∧ (∀ (Z'4 : Zt), ((∀ i : Nat, i < 26 → Z'4 ((a0 + 116) + 110) i = dst g8 g9 (Int.toNat v4) v5 g10 i ∧ 0 ≤ Z'4 ((a0 + 116) + 110) i ∧ Z'4 ((a0 + 116) + 110) i < g8) ∧ Oth Z'3 Z'4 (fun b => b = (a0 + 116) + 110)) → (∃ g11 : Int, (∃ g12 : Nat → Int, (∃ g13 : Nat → Int, (IsP g11 ∧ Z'4 (a0 + 41) 0 = g11 ∧ CdA Z'4 (a0 + 116) g11 g12 g13 ∧ (∀ i : Nat, i < 26 → 0 ≤ Z'4 ((a0 + 116) + 110) i ∧ Z'4 ((a0 + 116) + 110) i < g11) ∧ ((a0 + 41) < (a0 + 116) ∨ (a0 + 116) + 113 ≤ (a0 + 41)) ∧ (∀ (Z'5 : Zt), ((Z'5 (a0 + 116) = fun i => if i = 3 then (mdN g11 g12 g13 (Z'4 ((a0 + 116) + 110)) (szF g11 (cdB g11 g12 g13).2.2).toNat).1 else if i = 4 then (mdN g11 g12 g13 (Z'4 ((a0 + 116) + 110)) (szF g11 (cdB g11 g12 g13).2.2).toNat).2 else Z'4 (a0 + 116) i) ∧ Oth Z'4 Z'5 (fun b => b = (a0 + 116) ∨ b = (a0 + 116) + 111 ∨ b = (a0 + 116) + 112)) → (((v6 ≠ 0) → (((v6 ≠ 1) → (∃ g14 : Nat, ((Z'5 (a0 + 116) 0 = (g14 : Int) ∧ g14 ≤ 26) ∧ (∀ i : Nat, i < g14 → Rg (Z'5 ((a0 + 116) + 2) i) ∧ Rg (Z'5 ((a0 + 116) + 110) i)) ∧ Rg (Z'5 (a0 + 116) 3) ∧ (Rg (bI (decide (unl (Z'5 ((a0 + 116) + 2)) (Z'5 ((a0 + 116) + 110)) g14 = Z'5 (a0 + 116) 3))) ∧ (((bI (decide (unl (Z'5 ((a0 + 116) + 2)) (Z'5 ((a0 + 116) + 110)) g14 = Z'5 (a0 + 116) 3)) = 0) → (Q (some (i_ 0)) x'1 Z'5)) ∧ ((bI (decide (unl (Z'5 ((a0 + 116) + 2)) (Z'5 ((a0 + 116) + 110)) g14 = Z'5 (a0 + 116) 3)) ≠ 0) → (Q (some (i_ 1)) x'1 Z'5))))))) ∧ ((v6 = 1) → (Q (some (i_ (Z'5 (a0 + 116) 4))) x'1 Z'5)))) ∧ ((v6 = 0) → (Q (some (i_ (Z'5 (a0 + 116) 3))) x'1 Z'5))))))))))))))))))) ∧ ((Z'2 (a0 + 116) 0 = 0) → (V mX11_mended k n 63 [none, none, none, none, none, none, none] [] x'1 Z'2 Q))))))))))))) ∧ ((r'1 = 0) → (V mX11_mended k n 36 [none, none, none, none, none, none, none] [] x'1 Z'1 Q))))))))))))))))))))) :
    V mX11_mended k n 0 [some (r_ a0), some (i_ v1), some (i_ v2), some (i_ v3), some (i_ v4), some (i_ v5), some (i_ v6)] [] x Z Q :=
  V_iload_n dX11_mended_0 rfl (V_if_lt (tgt := 36) dX11_mended_1 rfl h.1 (fun c1 => V_msk [false, false, false, false, false, false, false] rfl (h.2.1 c1)) (fun c1 => V_iload dX11_mended_4 rfl (V_if_lt (tgt := 36) dX11_mended_6 rfl (h.2.2 c1).1 (fun c2 => V_msk [false, false, false, false, false, false, false] rfl ((h.2.2 c1).2.1 c2)) (fun c2 => V_iload dX11_mended_9 rfl (V_bipush dX11_mended_11 rfl (V_icmp_gt (tgt := 36) dX11_mended_13 rfl (h.2.2 c1).1 (rg_c rfl) (fun c3 => V_msk [false, false, false, false, false, false, false] rfl (((h.2.2 c1).2.2 c2).1 c3)) (fun c3 => V_iload dX11_mended_16 rfl (V_if_lt (tgt := 36) dX11_mended_18 rfl (((h.2.2 c1).2.2 c2).2 c3).1 (fun c4 => V_msk [false, false, false, false, false, false, false] rfl ((((h.2.2 c1).2.2 c2).2 c3).2.1 c4)) (fun c4 => V_iload dX11_mended_21 rfl (V_iconst dX11_mended_23 (V_icmp_gt (tgt := 36) dX11_mended_24 rfl (((h.2.2 c1).2.2 c2).2 c3).1 (rg_c rfl) (fun c5 => V_msk [false, false, false, false, false, false, false] rfl (((((h.2.2 c1).2.2 c2).2 c3).2.2 c4).1 c5)) (fun c5 => V_aload_n dX11_mended_27 rfl (V_iload_n dX11_mended_28 rfl (V_iload_n dX11_mended_29 rfl (Exists.elim (((((h.2.2 c1).2.2 c2).2 c3).2.2 c4).2 c5) (fun g1 w1 => V_callV (k' := 0) (n' := 0) (t := 11) (q := (RX11, TX11, 17)) [i_ v1, i_ v2] [] okX11_isRoomReady o_a0.1 rfl rfl lm_11_227 liX11_isRoomReady lqX11_isRoomReady (Nat.le_of_ble_eq_true rfl) (Nat.le_of_ble_eq_true rfl) (Nat.le_of_ble_eq_true rfl) (cat_of rfl) (Nat.le_of_ble_eq_true rfl) (Nat.zero_le _) (Nat.zero_le _) rfl dX11_mended_30 (sp_X11_isRoomReady o_a0 w1.1 w1.2.1 w1.2.2.1 (fun x'1 Z'1 r'1 p1 => V_if_ne (tgt := 38) dX11_mended_33 rfl (w1.2.2.2 x'1 Z'1 r'1 p1).2.1 (fun c6 => V_aload_n dX11_mended_38 rfl (Exists.elim ((w1.2.2.2 x'1 Z'1 r'1 p1).2.2.1 c6) (fun g2 w2 => Exists.elim w2 (fun g3 w3 => Exists.elim w3 (fun g4 w4 => V_callV (k' := 0) (n' := 0) (t := 11) (q := (RX11, TX11, 17)) [] [] okX11_readyCode (w1.2.2.2 x'1 Z'1 r'1 p1).1.1 rfl rfl lm_11_313 liX11_readyCode lqX11_readyCode (Nat.le_of_ble_eq_true rfl) (Nat.le_of_ble_eq_true rfl) (Nat.le_of_ble_eq_true rfl) (cat_of rfl) (Nat.le_of_ble_eq_true rfl) (Nat.zero_le _) (Nat.zero_le _) rfl dX11_mended_39 (sp_X11_readyCode (w1.2.2.2 x'1 Z'1 r'1 p1).1 w4.1 w4.2.1 w4.2.2.1 (fun Z'2 p2 => V_aload_n dX11_mended_42 rfl (G_11_10 (w1.2.2.2 x'1 Z'1 r'1 p1).1.1 (w1.2.2.2 x'1 Z'1 r'1 p1).1.qR10 lf_11_81 dX11_mended_43 (G_1_2 (w1.2.2.2 x'1 Z'1 r'1 p1).1.qK10.1 lf_11_320 dX11_mended_46 (V_iconst dX11_mended_49 (V_icmp_eq (tgt := 63) dX11_mended_50 rfl (w4.2.2.2 Z'2 p2).1 (rg_c rfl) (fun c7 => V_msk [false, false, false, false, false, false, false] rfl ((w4.2.2.2 Z'2 p2).2.1 c7)) (fun c7 => V_aload_n dX11_mended_53 rfl (G_11_10 (w1.2.2.2 x'1 Z'1 r'1 p1).1.1 (w1.2.2.2 x'1 Z'1 r'1 p1).1.qR10 lf_11_81 dX11_mended_54 (G_1_0 (w1.2.2.2 x'1 Z'1 r'1 p1).1.qK10.1 lf_11_316 dX11_mended_57 (V_if_ne (tgt := 65) dX11_mended_60 rfl ((w4.2.2.2 Z'2 p2).2.2 c7).1 (fun c8 => V_aload_n dX11_mended_65 rfl (G_11_10 (w1.2.2.2 x'1 Z'1 r'1 p1).1.1 (w1.2.2.2 x'1 Z'1 r'1 p1).1.qR10 lf_11_81 dX11_mended_66 (V_aload_n dX11_mended_69 rfl (G_11_7 (w1.2.2.2 x'1 Z'1 r'1 p1).1.1 (w1.2.2.2 x'1 Z'1 r'1 p1).1.qR7 lf_11_60 dX11_mended_70 (G_2_0 (w1.2.2.2 x'1 Z'1 r'1 p1).1.qK7.1 (w1.2.2.2 x'1 Z'1 r'1 p1).1.qK7.2.1 lf_11_156 dX11_mended_73 (V_iload_n dX11_mended_76 rfl (Exists.elim (((w4.2.2.2 Z'2 p2).2.2 c7).2.1 c8) (fun g5 w5 => Exists.elim w5 (fun g6 w6 => Exists.elim w6 (fun g7 w7 => V_callV (k' := 0) (n' := 0) (t := 1) (q := (RX1, TX1, 17)) [r_ (a0 + 41), i_ v3] [] okX1_send (w1.2.2.2 x'1 Z'1 r'1 p1).1.qK10.1 rfl rfl lm_11_333 liX1_send lqX1_send (Nat.le_of_ble_eq_true rfl) (Nat.le_of_ble_eq_true rfl) (Nat.le_of_ble_eq_true rfl) (cat_of rfl) (Nat.le_of_ble_eq_true rfl) (Nat.zero_le _) (Nat.zero_le _) rfl dX11_mended_77 (sp_X1_send (w1.2.2.2 x'1 Z'1 r'1 p1).1.qK10 (w1.2.2.2 x'1 Z'1 r'1 p1).1.qK7.2.2.1 w7.1 w7.2.1 w7.2.2.1 w7.2.2.2.1 w7.2.2.2.2.1 (fun Z'3 p3 => V_aload_n dX11_mended_80 rfl (G_11_10 (w1.2.2.2 x'1 Z'1 r'1 p1).1.1 (w1.2.2.2 x'1 Z'1 r'1 p1).1.qR10 lf_11_81 dX11_mended_81 (V_aload_n dX11_mended_84 rfl (G_11_7 (w1.2.2.2 x'1 Z'1 r'1 p1).1.1 (w1.2.2.2 x'1 Z'1 r'1 p1).1.qR7 lf_11_60 dX11_mended_85 (G_2_0 (w1.2.2.2 x'1 Z'1 r'1 p1).1.qK7.1 (w1.2.2.2 x'1 Z'1 r'1 p1).1.qK7.2.1 lf_11_156 dX11_mended_88 (V_iload dX11_mended_91 rfl (V_iload dX11_mended_93 rfl (Exists.elim (w7.2.2.2.2.2 Z'3 p3) (fun g8 w8 => Exists.elim w8 (fun g9 w9 => Exists.elim w9 (fun g10 w10 => V_callV (k' := 0) (n' := 0) (t := 1) (q := (RX1, TX1, 17)) [r_ (a0 + 41), i_ v4, i_ v5] [] okX1_disturb (w1.2.2.2 x'1 Z'1 r'1 p1).1.qK10.1 rfl rfl lm_11_340 liX1_disturb lqX1_disturb (Nat.le_of_ble_eq_true rfl) (Nat.le_of_ble_eq_true rfl) (Nat.le_of_ble_eq_true rfl) (cat_of rfl) (Nat.le_of_ble_eq_true rfl) (Nat.zero_le _) (Nat.zero_le _) rfl dX11_mended_95 (sp_X1_disturb (w1.2.2.2 x'1 Z'1 r'1 p1).1.qK10 (w1.2.2.2 x'1 Z'1 r'1 p1).1.qK7.2.2.1 w10.1 w10.2.1 w10.2.2.1 w10.2.2.2.1 w10.2.2.2.2.1 w10.2.2.2.2.2.1 (fun Z'4 p4 => V_aload_n dX11_mended_98 rfl (G_11_10 (w1.2.2.2 x'1 Z'1 r'1 p1).1.1 (w1.2.2.2 x'1 Z'1 r'1 p1).1.qR10 lf_11_81 dX11_mended_99 (V_aload_n dX11_mended_102 rfl (G_11_7 (w1.2.2.2 x'1 Z'1 r'1 p1).1.1 (w1.2.2.2 x'1 Z'1 r'1 p1).1.qR7 lf_11_60 dX11_mended_103 (G_2_0 (w1.2.2.2 x'1 Z'1 r'1 p1).1.qK7.1 (w1.2.2.2 x'1 Z'1 r'1 p1).1.qK7.2.1 lf_11_156 dX11_mended_106 (Exists.elim (w10.2.2.2.2.2.2 Z'4 p4) (fun g11 w11 => Exists.elim w11 (fun g12 w12 => Exists.elim w12 (fun g13 w13 => V_callV (k' := 0) (n' := 0) (t := 1) (q := (RX1, TX1, 17)) [r_ (a0 + 41)] [] okX1_mend (w1.2.2.2 x'1 Z'1 r'1 p1).1.qK10.1 rfl rfl lm_11_344 liX1_mend lqX1_mend (Nat.le_of_ble_eq_true rfl) (Nat.le_of_ble_eq_true rfl) (Nat.le_of_ble_eq_true rfl) (cat_of rfl) (Nat.le_of_ble_eq_true rfl) (Nat.zero_le _) (Nat.zero_le _) rfl dX11_mended_109 (sp_X1_mend (w1.2.2.2 x'1 Z'1 r'1 p1).1.qK10 (w1.2.2.2 x'1 Z'1 r'1 p1).1.qK7.2.2.1 w13.1 w13.2.1 w13.2.2.1 w13.2.2.2.1 w13.2.2.2.2.1 (fun Z'5 p5 => V_iload dX11_mended_112 rfl (V_if_ne (tgt := 125) dX11_mended_114 rfl (((h.2.2 c1).2.2 c2).2 c3).1 (fun c9 => V_iload dX11_mended_125 rfl (V_iconst dX11_mended_127 (V_icmp_ne (tgt := 139) dX11_mended_128 rfl (((h.2.2 c1).2.2 c2).2 c3).1 (rg_c rfl) (fun c10 => V_aload_n dX11_mended_139 rfl (G_11_10 (w1.2.2.2 x'1 Z'1 r'1 p1).1.1 (w1.2.2.2 x'1 Z'1 r'1 p1).1.qR10 lf_11_81 dX11_mended_140 (Exists.elim (((w13.2.2.2.2.2 Z'5 p5).1 c9).1 c10) (fun g14 w14 => V_callV (k' := 0) (n' := 0) (t := 1) (q := (RX1, TX1, 17)) [] [] okX1_isSentNearest (w1.2.2.2 x'1 Z'1 r'1 p1).1.qK10.1 rfl rfl lm_11_353 liX1_isSentNearest lqX1_isSentNearest (Nat.le_of_ble_eq_true rfl) (Nat.le_of_ble_eq_true rfl) (Nat.le_of_ble_eq_true rfl) (cat_of rfl) (Nat.le_of_ble_eq_true rfl) (Nat.zero_le _) (Nat.zero_le _) rfl dX11_mended_143 (sp_X1_isSentNearest (w1.2.2.2 x'1 Z'1 r'1 p1).1.qK10 w14.1 w14.2.1 w14.2.2.1 (V_if_eq (tgt := 153) dX11_mended_146 rfl w14.2.2.2.1 (fun c11 => V_iconst dX11_mended_153 (V_iret (ty := .int) dX11_mended_154 rfl rfl (w14.2.2.2.2.1 c11))) (fun c11 => V_iconst dX11_mended_149 (V_goto (tgt := 154) dX11_mended_150 rfl (V_iret (ty := .int) dX11_mended_154 rfl rfl (w14.2.2.2.2.2 c11)))))))))) (fun c10 => V_aload_n dX11_mended_131 rfl (G_11_10 (w1.2.2.2 x'1 Z'1 r'1 p1).1.1 (w1.2.2.2 x'1 Z'1 r'1 p1).1.qR10 lf_11_81 dX11_mended_132 (G_1_4 (w1.2.2.2 x'1 Z'1 r'1 p1).1.qK10.1 lf_11_350 dX11_mended_135 (V_iret (ty := .int) dX11_mended_138 rfl rfl (((w13.2.2.2.2.2 Z'5 p5).1 c9).2 c10)))))))) (fun c9 => V_aload_n dX11_mended_117 rfl (G_11_10 (w1.2.2.2 x'1 Z'1 r'1 p1).1.1 (w1.2.2.2 x'1 Z'1 r'1 p1).1.qR10 lf_11_81 dX11_mended_118 (G_1_3 (w1.2.2.2 x'1 Z'1 r'1 p1).1.qK10.1 lf_11_347 dX11_mended_121 (V_iret (ty := .int) dX11_mended_124 rfl rfl ((w13.2.2.2.2.2 Z'5 p5).2 c9)))))))))))))))))))))))))))))))))))))))) (fun c8 => V_msk [false, false, false, false, false, false, false] rfl (((w4.2.2.2 Z'2 p2).2.2 c7).2.2 c8))))))))))))))))) (fun c6 => V_msk [false, false, false, false, false, false, false] rfl ((w1.2.2.2 x'1 Z'1 r'1 p1).2.2.2 c6))))))))))))))))))))
set_option maxRecDepth 20000 in
theorem b_X11_mended_36 {k n : Nat} {x : Wx} {Z : Zt} {Q : Option Value → Wx → Zt → Prop}  
    (h : Q (some (i_ (-1))) x Z) :
    V mX11_mended k n 36 [none, none, none, none, none, none, none] [] x Z Q :=
  V_iconst dX11_mended_36 (V_iret (ty := .int) dX11_mended_37 rfl rfl h)
set_option maxRecDepth 20000 in
theorem b_X11_mended_63 {k n : Nat} {x : Wx} {Z : Zt} {Q : Option Value → Wx → Zt → Prop}  
    (h : Q (some (i_ (-1))) x Z) :
    V mX11_mended k n 63 [none, none, none, none, none, none, none] [] x Z Q :=
  V_iconst dX11_mended_63 (V_iret (ty := .int) dX11_mended_64 rfl rfl h)
theorem scr_crv {a : Nat} {x : Wx} {Z Z' : Zt} {S : Ab} (h : OI x Z a S) (ho : Oth Z Z' (fun b => b = (a + 40) ∨ b = (a + 40) + 13 ∨ b = (a + 40) + 14 ∨ b = (a + 40) + 15 ∨ b = (a + 56) + 11)) (h2 : ∀ i : Nat, i < 14 → Z' (a + 40) i = Z (a + 40) i) : OI x Z' a S ∧ Fx a x x Z Z' := h.scr (fun b hb h1 h2 => ho b (fun e => hb (by unfold Scr; omega))) h2 (fun i _ _ => by rw [ho _ (by omega)])
def aOrder (T : Td) (c f k : Int) : Int := if mesB T c f = true ∧ 0 ≤ k ∧ k < (T.L c.toNat).length then ordA (T.p c.toNat) (T.F c.toNat) (T.A c.toNat f.toNat) (T.B c.toNat f.toNat) k else -100
theorem sp_X11_order {k n : Nat} {x : Wx} {Z : Zt} {Q : Option Value → Wx → Zt → Prop} {a : Nat} {v f i : Int} (o : Is11 x a) {S : Ab} (hI : OI x Z a S) (hv : Rg v) (hf : Rg f) (hi : Rg i) (h : RAn a S x Z Q (aOrder S.nw v f i)) : V mX11_order k n 0 [some (r_ a), some (i_ v), some (i_ f), some (i_ i)] [] x Z Q := by
  unfold aOrder at h
  have no : ∀ (x' : Wx) (Z' : Zt), OI x' Z' a S → Fx a x x' Z Z' → ¬ (mesB S.nw v f = true ∧ 0 ≤ i ∧ i < (S.nw.L v.toNat).length) → V mX11_order k n 20 [none, none, none, none] [] x' Z' Q := fun x' Z' h1 h2 h3 => b_X11_order_20 (by rw [if_neg h3] at h; exact h x' Z' h1 h2)
  refine b_X11_order_0 o ⟨S, hI, hv, hf, fun x1 Z1 r1 hq => ?_⟩
  obtain ⟨q1, q2, q3, q4⟩ := hq
  subst q3
  refine ⟨q1.1, bI_rg _, fun c1 => no x1 Z1 q1 q2 (fun e => by rw [bI_0 c1] at e; cases e.1), fun c1 => ?_⟩
  have hb := bI_1 c1
  have hb2 := of_decide_eq_true hb
  obtain ⟨m1, m2⟩ := q4 hb
  obtain ⟨g1, g2, g3, g4, g5, g6⟩ := q1.cv (c := v.toNat) (by rw [m1]; omega)
  have hPr : PtR (S.nw.L v.toNat) := pall_rg g3 _
  have hP : PtA Z1 (a + 40) (S.nw.L v.toNat) := g4.2.2.1
  have hl := hPr.1
  rw [hP.1]
  refine ⟨hi, ⟨by omega, by omega⟩, bI_rg _, fun c2 => ?_, fun c2 => no x1 Z1 q1 q2 (fun e => of_decide_eq_false (bI_0 c2) e.2)⟩
  have hk := of_decide_eq_true (bI_1 c2)
  refine ⟨S.nw.p v.toNat, S.nw.F v.toNat, _, _, g3, g4, m2.1, m2.2.1, hk, Or.inl (by omega), fun Z2 hz2 => ?_⟩
  rw [if_pos ⟨hb, hk⟩] at h
  have := scr_crv q1 hz2.1 hz2.2
  exact h x1 Z2 this.1 (q2.tr this.2)
def aNorm (T : Td) (c f w : Int) : Int := if mesB T c f = true ∧ (0 ≤ w ∧ w ≤ 19) ∧ (w ≤ 2 ∨ 10 ≤ w) then (if 10 ≤ w then T.N c.toNat f.toNat (w - 10).toNat else if w = 0 then pd (T.N c.toNat f.toNat) else if w = 1 then ratS (T.p c.toNat) (T.F c.toNat) (T.A c.toNat f.toNat) (T.B c.toNat f.toNat) ((T.L c.toNat).length - 1) else -(ratS (T.p c.toNat) (T.F c.toNat) (T.A c.toNat f.toNat) (T.B c.toNat f.toNat) ((T.L c.toNat).length - 1) + ordA (T.p c.toNat) (T.F c.toNat) (T.A c.toNat f.toNat) (T.B c.toNat f.toNat) ((T.L c.toNat).length - 1))) else -1
theorem sp_X11_norm {k n : Nat} {x : Wx} {Z : Zt} {Q : Option Value → Wx → Zt → Prop} {a : Nat} {v f i : Int} (o : Is11 x a) {S : Ab} (hI : OI x Z a S) (hv : Rg v) (hf : Rg f) (hi : Rg i) (h : RAn a S x Z Q (aNorm S.nw v f i)) : V mX11_norm k n 0 [some (r_ a), some (i_ v), some (i_ f), some (i_ i), none] [] x Z Q := by
  unfold aNorm at h
  have no : ∀ (x' : Wx) (Z' : Zt), OI x' Z' a S → Fx a x x' Z Z' → ¬ (mesB S.nw v f = true ∧ (0 ≤ i ∧ i ≤ 19) ∧ (i ≤ 2 ∨ 10 ≤ i)) → Q (some (i_ (-1))) x' Z' := fun x' Z' h1 h2 h3 => by rw [if_neg h3] at h; exact h x' Z' h1 h2
  refine b_X11_norm_0 o ⟨S, hI, hv, hf, fun x1 Z1 r1 hq => ?_⟩
  obtain ⟨q1, q2, q3, q4⟩ := hq
  subst q3
  have go : mesB S.nw v f = true → (0 ≤ i ∧ i ≤ 19) ∧ (i ≤ 2 ∨ 10 ≤ i) → V mX11_norm k n 34 [some (r_ a), none, none, some (i_ i), none] [] x1 Z1 Q := fun hb hr => by
    have hb2 := of_decide_eq_true hb
    obtain ⟨m1, m2⟩ := q4 hb
    obtain ⟨g1, g2, g3, g4, g5, g6⟩ := q1.cv (c := v.toNat) (by rw [m1]; omega)
    have hPr : PtR (S.nw.L v.toNat) := pall_rg g3 _
    have hP : PtA Z1 (a + 40) (S.nw.L v.toNat) := g4.2.2.1
    have hl := hPr.1
    have hl1 := hPr.2.1
    rw [if_pos ⟨hb, hr⟩] at h
    refine b_X11_norm_34 q1.1 ⟨hi, fun c => ⟨fun c2 => ⟨S.nw.p v.toNat, S.nw.F v.toNat, _, _, g3, g4, m2.1, m2.2.1, Or.inl (by omega), fun Z2 hz2 => ?_⟩, fun c2 => ?_⟩, fun c => ⟨by omega, by omega, ?_⟩⟩
    · have hs := scr_crv q1 hz2.1 hz2.2
      refine ⟨fun c3 => ?_, fun c3 => ?_⟩
      · have h142 : Z2 a 14 = ((v.toNat : Nat) : Int) := by rw [hz2.1 a (by omega), m1]; omega
        obtain ⟨_, _, _, g42, _, _⟩ := hs.1.cv h142
        have e3 : Z2 (a + 40) 3 = ((S.nw.L v.toNat).length : Int) := by rw [hz2.2 3 (by decide)]; exact hP.1
        rw [e3]
        refine ⟨S.nw.p v.toNat, S.nw.F v.toNat, _, _, g3, g42, m2.1.kept hz2.1 (by omega) (by omega), m2.2.1.kept hz2.1 (by omega) (by omega), ⟨by omega, by show ((S.nw.L v.toNat).length : Int) - 1 < ((S.nw.L v.toNat).length : Int); omega⟩, Or.inl (by omega), fun Z3 hz3 => ?_⟩
        have hs3 := scr_crv hs.1 hz3.1 hz3.2
        rw [if_neg (by omega), if_neg c2, if_neg c3] at h
        exact h x1 Z3 hs3.1 (q2.tr (hs.2.tr hs3.2))
      · rw [if_neg (by omega), if_neg c2, if_pos c3] at h
        exact h x1 Z2 hs.1 (q2.tr hs.2)
    · rw [if_neg (by omega), if_pos c2] at h
      rw [show Z1 (a + 57) 0 = pd (S.nw.N v.toNat f.toNat) from m2.2.2.deg]; exact h x1 Z1 q1 q2
    · rw [if_pos c] at h
      rw [show Z1 (a + 57 + 1) (Int.toNat (i - 10)) = _ from m2.2.2.1 (i - 10).toNat (by omega)]; exact h x1 Z1 q1 q2
  refine ⟨bI_rg _, fun c1 => ⟨hi, fun c2 => b_X11_norm_32 (no x1 Z1 q1 q2 (by omega)), fun c2 => ⟨fun c3 => b_X11_norm_32 (no x1 Z1 q1 q2 (by omega)), fun c3 => ⟨fun c4 => go (bI_1 c1) (by omega), fun c4 => ⟨fun c5 => go (bI_1 c1) (by omega), fun c5 => b_X11_norm_32 (no x1 Z1 q1 q2 (by omega))⟩⟩⟩⟩, fun c1 => no x1 Z1 q1 q2 (fun e => by rw [bI_0 c1] at e; cases e.1)⟩
def aBase (T : Td) (c s k y i : Int) : Int := if (fitB T c s = true ∧ 0 ≤ i ∧ i ≤ 90) ∧ (0 ≤ k ∧ k < ((rmS (T.p c.toNat) (T.F c.toNat) (T.rw (2 + s.toNat))).2.2.2.2 : Nat)) ∧ (if y = 0 then 2 * i else 2 * i + 2 * gen (T.F c.toNat) + 1) ≤ rmP (T.p c.toNat) (T.F c.toNat) (T.rw (2 + s.toNat)) then cofR (T.p c.toNat) (T.F c.toNat) (T.rw (2 + s.toNat)) k (if y = 0 then 2 * i else 2 * i + 2 * gen (T.F c.toNat) + 1) else -1
theorem sp_X11_base {k n : Nat} {x : Wx} {Z : Zt} {Q : Option Value → Wx → Zt → Prop} {a : Nat} {v s i y j : Int} (o : Is11 x a) {S : Ab} (hI : OI x Z a S) (hv : Rg v) (hs : Rg s) (hi : Rg i) (hy : Rg y) (hj : Rg j) (h : RAn a S x Z Q (aBase S.nw v s i y j)) : V mX11_base k n 0 [some (r_ a), some (i_ v), some (i_ s), some (i_ i), some (i_ y), some (i_ j), none] [] x Z Q := by
  unfold aBase at h
  have no : ∀ (x' : Wx) (Z' : Zt), OI x' Z' a S → Fx a x x' Z Z' → ¬ ((fitB S.nw v s = true ∧ 0 ≤ j ∧ j ≤ 90) ∧ (0 ≤ i ∧ i < ((rmS (S.nw.p v.toNat) (S.nw.F v.toNat) (S.nw.rw (2 + s.toNat))).2.2.2.2 : Nat)) ∧ (if y = 0 then 2 * j else 2 * j + 2 * gen (S.nw.F v.toNat) + 1) ≤ rmP (S.nw.p v.toNat) (S.nw.F v.toNat) (S.nw.rw (2 + s.toNat))) → Q (some (i_ (-1))) x' Z' := fun x' Z' h1 h2 h3 => by rw [if_neg h3] at h; exact h x' Z' h1 h2
  refine b_X11_base_0 o ⟨hj, fun c => b_X11_base_21 (no x Z hI Fx.rf (fun e => by omega)), fun c => ⟨fun c0 => b_X11_base_21 (no x Z hI Fx.rf (fun e => by omega)), fun c0 => ⟨S, hI, hv, hs, fun x1 Z1 r1 hq => ?_⟩⟩⟩
  obtain ⟨q1, q2, q3, q4⟩ := hq
  subst q3
  refine ⟨q1.1, bI_rg _, fun c1 => ⟨hy, ?_⟩, fun c1 => b_X11_base_21 (no x1 Z1 q1 q2 (fun e => by rw [bI_0 c1] at e; cases e.1.1))⟩
  have hf := bI_1 c1
  have hft := fitB_t hf
  obtain ⟨d, hd⟩ : ∃ d : Nat, v = (d : Int) := ⟨v.toNat, by omega⟩
  obtain ⟨t, ht⟩ : ∃ t : Nat, s = (t : Int) := ⟨s.toNat, by omega⟩
  obtain ⟨g1, g2, g3, g4, g5, g6⟩ := q1.cv (c := d) (by rw [(q4 hf).1, hd])
  obtain ⟨w1, w2, w3, σ, w4, w5⟩ := q1.rm (c := d) (s := t) (by rw [(q4 hf).1, hd]) (by rw [(q4 hf).2, ht])
  have hg := gen_rg (S.nw.F d)
  have hok := w4.ok g3 w2
  have hcf := fun k c => w4.cofE g3 k c
  rw [hd, ht, Int.toNat_natCast, Int.toNat_natCast] at h no
  rw [hd, ht] at hf
  have go : ∀ u : Int, u = (if y = 0 then 2 * j else 2 * j + 2 * gen (S.nw.F d) + 1) → -1000 ≤ u → u ≤ 1000 → V mX11_base k n 51 [some (r_ a), none, none, some (i_ i), none, none, none] [i_ u] x1 Z1 Q := fun u hu hu1 hu2 => by
    rw [← hu] at h no
    refine b_X11_base_51 q1.1 ?_
    rw [w4.2.1.2.1, w4.2.1.2.2.1]
    have h1 := hok.1
    have h2 := hok.2.1
    rw [w4.2.1.2.1] at h1
    rw [w4.2.1.2.2.1] at h2
    refine ⟨hi, fun c2 => b_X11_base_80 (no x1 Z1 q1 q2 (by omega)), fun c2 => ⟨⟨by omega, by omega⟩, fun c3 => b_X11_base_80 (no x1 Z1 q1 q2 (by omega)), fun c3 => ⟨⟨by omega, by omega⟩, ⟨by omega, by omega⟩, fun c4 => ⟨S.nw.p d, σ, g3, g4.1.1, w4.1, hi, ⟨by omega, by omega⟩, ?_⟩, fun c4 => b_X11_base_80 (no x1 Z1 q1 q2 (by omega))⟩⟩⟩
    rw [← w4.2.1.2.1, ← w4.2.1.2.2.1]
    refine ⟨hok.1, hok.2.1, hok.2.2.1, hok.2.2.2, ?_⟩
    rw [hcf]
    rw [if_pos ⟨⟨hf, c, c0⟩, ⟨c2, c3⟩, c4⟩] at h
    exact h x1 Z1 q1 q2
  rw [g4.2.2.2.1]
  refine ⟨fun c2 => go _ (by rw [if_pos c2]) (by omega) (by omega), fun c2 => go _ (by rw [if_neg c2]) (by omega) (by omega)⟩
def aSum (T : Td) (s w : Int) : Int := if (0 ≤ s ∧ s < T.ct 1) ∧ 0 ≤ w then (if w = 0 ∨ w = 1 then T.rw (2 + s.toNat) w.toNat else if (1 ≤ w / 10 ∧ w / 10 ≤ 3) ∧ w % 10 < T.rw (2 + s.toNat) 0 ∧ w % 10 < 8 then T.rw (2 + s.toNat) (2 + 3 * (w % 10) + (w / 10 - 1)).toNat else -100) else -100
theorem sp_X11_sum {k n : Nat} {x : Wx} {Z : Zt} {Q : Option Value → Wx → Zt → Prop} {a : Nat} {s w : Int} (o : Is11 x a) {S : Ab} (hI : OI x Z a S) (hs : Rg s) (hw : Rg w) (h : RAn a S x Z Q (aSum S.nw s w)) : V mX11_sum k n 0 [some (r_ a), some (i_ s), some (i_ w), none, none, none] [] x Z Q := by
  unfold aSum at h
  obtain ⟨_, hk, _, _, _, hV, _⟩ := id hI
  have hct := hI.ct
  have hcr := hV.1.2.2.2.2.2.1
  refine b_X11_sum_0 o ?_
  rw [show Z (a + 1 + 2) (Int.toNat (1 : Int)) = S.nw.ct 1 from hct.2.1]
  refine ⟨hk.1, hk.2.1, by decide, hs, ⟨by omega, by show S.nw.ct 1 ≤ 3; omega⟩, fun hn => b_X11_sum_18 ?_, fun b hb => ?_⟩
  · rw [if_neg (fun e => rqn hn e.1)] at h; exact h x Z hI Fx.rf
  · obtain ⟨hc, hb1⟩ := rqs hb
    obtain ⟨t, ht⟩ : ∃ t : Nat, s = (t : Int) := ⟨s.toNat, by omega⟩
    have hbe : b = a + 1 + 4 + (2 + t) := by rw [hb1, ht]; show a + 1 + 4 + (2 + (t : Int)).toNat = _; omega
    have hrow := hI.row (r := 2 + t) (by omega)
    have hsr := hV.1.2.2.2.2.2.2.2.2.1 t (by omega)
    rw [hbe]
    refine ⟨hrow.1, hw, ?_⟩
    rw [hrow.2]
    by_cases cw : 0 ≤ w
    · rw [if_pos ⟨hc, cw⟩, ht, Int.toNat_natCast] at h
      rw [Int.tdiv_eq_ediv_of_nonneg cw, Int.tmod_eq_emod_of_nonneg cw]
      have h0 := hsr.1.1
      have go30 : w = 0 ∨ w = 1 → V mX11_sum k n 30 [none, none, some (i_ w), some (r_ (a + 1 + 4 + (2 + t))), none, none] [] x Z Q := fun e => b_X11_sum_30 hrow.1 ⟨by omega, by omega, by rw [hrow.2]; rw [if_pos e] at h; exact h x Z hI Fx.rf⟩
      have no : ¬ (w = 0 ∨ w = 1) → ¬ ((1 ≤ w / 10 ∧ w / 10 ≤ 3) ∧ w % 10 < S.nw.rw (2 + t) 0 ∧ w % 10 < 8) → V mX11_sum k n 74 [none, none, none, none, none, none] [] x Z Q := fun e1 e2 => b_X11_sum_74 (by rw [if_neg e1, if_neg e2] at h; exact h x Z hI Fx.rf)
      refine ⟨fun _ => ⟨fun c2 => go30 (Or.inl c2), fun c2 => ⟨fun c3 => ⟨⟨by have := hw.1; omega, by have := hw.2; omega⟩, fun c4 => no (by omega) (by omega), fun c4 => ⟨fun c5 => no (by omega) (by omega), fun c5 => ⟨⟨by omega, by omega⟩, ⟨by omega, by omega⟩, fun c6 => no (by omega) (by omega), fun c6 => ⟨fun c7 => ⟨by omega, by omega, ?_⟩, fun c7 => no (by omega) (by omega)⟩⟩⟩⟩, fun c3 => go30 (Or.inr c3)⟩⟩, fun c1 => by omega⟩
      rw [if_neg (by omega), if_pos ⟨by omega, c6, c7⟩] at h
      exact h x Z hI Fx.rf
    · rw [if_neg (fun e => cw e.2)] at h
      exact ⟨fun c1 => absurd c1 cw, fun _ => b_X11_sum_18 (h x Z hI Fx.rf)⟩
def aFunction (T : Td) (f y w : Int) : Int := if (0 ≤ f ∧ f < T.ct 2) ∧ 0 ≤ w ∧ w ≤ (if y = 0 then 4 else 2) then T.rw (5 + f.toNat) (if y = 0 then w else 5 + w).toNat else -1
theorem sp_X11_function {k n : Nat} {x : Wx} {Z : Zt} {Q : Option Value → Wx → Zt → Prop} {a : Nat} {s y w : Int} (o : Is11 x a) {S : Ab} (hI : OI x Z a S) (hs : Rg s) (hy : Rg y) (hw : Rg w) (h : RAn a S x Z Q (aFunction S.nw s y w)) : V mX11_function k n 0 [some (r_ a), some (i_ s), some (i_ y), some (i_ w), none] [] x Z Q := by
  unfold aFunction at h
  obtain ⟨_, hk, _, _, _, hV, _⟩ := id hI
  have hct := hI.ct
  have hcr := hV.1.2.2.2.2.2.2.1
  have no : ¬ ((0 ≤ s ∧ s < S.nw.ct 2) ∧ 0 ≤ w ∧ w ≤ (if y = 0 then 4 else 2)) → V mX11_function k n 33 [none, none, none, none, none] [] x Z Q := fun e => b_X11_function_33 (by rw [if_neg e] at h; exact h x Z hI Fx.rf)
  refine b_X11_function_0 o ?_
  rw [show Z (a + 1 + 2) (Int.toNat (2 : Int)) = S.nw.ct 2 from hct.2.2]
  refine ⟨hk.1, hk.2.1, by decide, hs, ⟨by omega, by show S.nw.ct 2 ≤ 3; omega⟩, fun hn => no (fun e => rqn hn e.1), fun b hb => ?_⟩
  obtain ⟨hc, hb1⟩ := rqs hb
  obtain ⟨t, ht⟩ : ∃ t : Nat, s = (t : Int) := ⟨s.toNat, by omega⟩
  have hbe : b = a + 1 + 4 + (5 + t) := by rw [hb1, ht]; show a + 1 + 4 + (5 + (t : Int)).toNat = _; omega
  have hrow := hI.row (r := 5 + t) (by omega)
  have go : ∀ u : Int, u = (if y = 0 then 4 else 2) → 0 ≤ w → u ≤ 4 → 0 ≤ u → V mX11_function k n 30 [none, none, some (i_ y), some (i_ w), some (r_ (a + 1 + 4 + (5 + t)))] [i_ u, i_ w] x Z Q := fun u hu h0 h4 h5 => by
    rw [← hu] at h no
    refine b_X11_function_30 ⟨hw, ⟨by omega, by omega⟩, fun c2 => ⟨hy, fun c3 => b_X11_function_48 hrow.1 ⟨by omega, by omega, ?_⟩, fun c3 => b_X11_function_48 hrow.1 ⟨by omega, by omega, ?_⟩⟩, fun c2 => no (fun e => by omega)⟩
    · rw [if_pos ⟨hc, h0, c2⟩, if_pos c3, ht, Int.toNat_natCast] at h
      rw [hrow.2]; exact h x Z hI Fx.rf
    · rw [if_pos ⟨hc, h0, c2⟩, if_neg c3, ht, Int.toNat_natCast] at h
      rw [hrow.2]; exact h x Z hI Fx.rf
  rw [hbe]
  exact ⟨hrow.1, hw, fun c1 => no (fun e => by omega), fun c1 => ⟨hy, fun c2 => go 4 (by rw [if_pos c2]) c1 (by decide) (by decide), fun c2 => go 2 (by rw [if_neg c2]) c1 (by decide) (by decide)⟩⟩
def aCount (T : Td) (s : Int) : Int := if 0 ≤ s ∧ s < 3 then T.ct s.toNat else -2
theorem sp_X11_count {k n : Nat} {x : Wx} {Z : Zt} {Q : Option Value → Wx → Zt → Prop} {a : Nat} {s : Int} (o : Is11 x a) {S : Ab} (hI : OI x Z a S) (hs : Rg s) (h : RAn a S x Z Q (aCount S.nw s)) : V mX11_count k n 0 [some (r_ a), some (i_ s)] [] x Z Q := by
  unfold aCount at h
  refine b_X11_count_0 o ⟨hs, fun c => b_X11_count_9 ?_, fun c => ⟨fun c2 => ?_, fun c2 => b_X11_count_9 ?_⟩⟩
  · rw [if_neg (by omega)] at h; exact h x Z hI Fx.rf
  · rw [if_pos ⟨c, c2⟩] at h
    rw [show Z (a + 3) s.toNat = S.nw.ct s.toNat from hI.2.2.2.1.2.2.1 s.toNat (by omega)]; exact h x Z hI Fx.rf
  · rw [if_neg (by omega)] at h; exact h x Z hI Fx.rf
