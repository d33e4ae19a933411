theorem dX11_times_0 : decode cX11_times 0 = .ok (.iload_n 3, 1) := by decide +kernel
theorem dX11_times_1 : decode cX11_times 1 = .ok (.bipush (-99), 2) := by decide +kernel
theorem dX11_times_3 : decode cX11_times 3 = .ok (.if_icmp .lt 29, 3) := by decide +kernel
theorem dX11_times_6 : decode cX11_times 6 = .ok (.iload_n 3, 1) := by decide +kernel
theorem dX11_times_7 : decode cX11_times 7 = .ok (.bipush 99, 2) := by decide +kernel
theorem dX11_times_9 : decode cX11_times 9 = .ok (.if_icmp .gt 23, 3) := by decide +kernel
theorem dX11_times_12 : decode cX11_times 12 = .ok (.iload 4, 2) := by decide +kernel
theorem dX11_times_14 : decode cX11_times 14 = .ok (.ifCond .lt 18, 3) := by decide +kernel
theorem dX11_times_17 : decode cX11_times 17 = .ok (.iload 4, 2) := by decide +kernel
theorem dX11_times_19 : decode cX11_times 19 = .ok (.iconst 4, 1) := by decide +kernel
theorem dX11_times_20 : decode cX11_times 20 = .ok (.if_icmp .gt 12, 3) := by decide +kernel
theorem dX11_times_23 : decode cX11_times 23 = .ok (.aload_n 0, 1) := by decide +kernel
theorem dX11_times_24 : decode cX11_times 24 = .ok (.iload_n 1, 1) := by decide +kernel
theorem dX11_times_25 : decode cX11_times 25 = .ok (.iload_n 2, 1) := by decide +kernel
theorem dX11_times_26 : decode cX11_times 26 = .ok (.invokevirtual 206, 3) := by decide +kernel
theorem dX11_times_29 : decode cX11_times 29 = .ok (.ifCond .ne 5, 3) := by decide +kernel
theorem dX11_times_32 : decode cX11_times 32 = .ok (.iconst (-1), 1) := by decide +kernel
theorem dX11_times_33 : decode cX11_times 33 = .ok (.ireturn, 1) := by decide +kernel
theorem dX11_times_34 : decode cX11_times 34 = .ok (.aload_n 0, 1) := by decide +kernel
theorem dX11_times_35 : decode cX11_times 35 = .ok (.getfield 88, 3) := by decide +kernel
theorem dX11_times_38 : decode cX11_times 38 = .ok (.aload_n 0, 1) := by decide +kernel
theorem dX11_times_39 : decode cX11_times 39 = .ok (.getfield 10, 3) := by decide +kernel
theorem dX11_times_42 : decode cX11_times 42 = .ok (.iconst 1, 1) := by decide +kernel
theorem dX11_times_43 : decode cX11_times 43 = .ok (.iload_n 2, 1) := by decide +kernel
theorem dX11_times_44 : decode cX11_times 44 = .ok (.invokevirtual 129, 3) := by decide +kernel
theorem dX11_times_47 : decode cX11_times 47 = .ok (.aload_n 0, 1) := by decide +kernel
theorem dX11_times_48 : decode cX11_times 48 = .ok (.getfield 95, 3) := by decide +kernel
theorem dX11_times_51 : decode cX11_times 51 = .ok (.invokevirtual 247, 3) := by decide +kernel
theorem dX11_times_54 : decode cX11_times 54 = .ok (.aload_n 0, 1) := by decide +kernel
theorem dX11_times_55 : decode cX11_times 55 = .ok (.getfield 88, 3) := by decide +kernel
theorem dX11_times_58 : decode cX11_times 58 = .ok (.aload_n 0, 1) := by decide +kernel
theorem dX11_times_59 : decode cX11_times 59 = .ok (.getfield 95, 3) := by decide +kernel
theorem dX11_times_62 : decode cX11_times 62 = .ok (.iload_n 3, 1) := by decide +kernel
theorem dX11_times_63 : decode cX11_times 63 = .ok (.aload_n 0, 1) := by decide +kernel
theorem dX11_times_64 : decode cX11_times 64 = .ok (.getfield 99, 3) := by decide +kernel
theorem dX11_times_67 : decode cX11_times 67 = .ok (.invokevirtual 251, 3) := by decide +kernel
theorem dX11_times_70 : decode cX11_times 70 = .ok (.aload_n 0, 1) := by decide +kernel
theorem dX11_times_71 : decode cX11_times 71 = .ok (.getfield 99, 3) := by decide +kernel
theorem dX11_times_74 : decode cX11_times 74 = .ok (.iload 4, 2) := by decide +kernel
theorem dX11_times_76 : decode cX11_times 76 = .ok (.invokevirtual 255, 3) := by decide +kernel
theorem dX11_times_79 : decode cX11_times 79 = .ok (.ireturn, 1) := by decide +kernel
set_option maxRecDepth 20000 in
theorem b_X11_times_0 {k n : Nat} {x : Wx} {Z : Zt} {Q : Option Value → Wx → Zt → Prop} {a0 : Nat} {v1 : Int} {v2 : Int} {v3 : Int} {v4 : Int} (o_a0 : Is11 x a0)
    (h : Rg v3 ∧ (((v3 < (-99)) → (V mX11_times k n 32 [none, none, none, none, none] [] x Z Q)) ∧ (((-99) ≤ v3) → (((99 < v3) → (V mX11_times k n 32 [none, none, none, none, none] [] x Z Q)) ∧ ((v3 ≤ 99) → (Rg v4 ∧ (((v4 < 0) → (V mX11_times k n 32 [none, none, none, none, none] [] x Z Q)) ∧ ((0 ≤ v4) → (((4 < v4) → (V mX11_times k n 32 [none, none, none, none, none] [] x Z Q)) ∧ ((v4 ≤ 4) → (∃ g1 : Ab, (OI x Z a0 g1 ∧ Rg v1 ∧ Rg v2 ∧ (∀ (x'1 : Wx) (Z'1 : Zt) (r'1 : Int), (OI x'1 Z'1 a0 g1 ∧ Fx a0 x x'1 Z Z'1 ∧ r'1 = bI (fitB g1.nw v1 v2) ∧ (fitB g1.nw v1 v2 = true → Z'1 a0 14 = v1)) → (Is11 x'1 a0 ∧ Is4 x'1 (a0 + 41) ∧ Is7 x'1 (a0 + 44) ∧ (Rg r'1 ∧ (((r'1 ≠ 0) → (KS x'1 ∧ KW x'1 Z'1 ∧ (0 ≤ (1 : Int) ∧ (1 : Int) < 3) ∧ Rg v2 ∧ (0 ≤ Z'1 ((a0 + 1) + 2) (Int.toNat (1 : Int)) ∧ Z'1 ((a0 + 1) + 2) (Int.toNat (1 : Int)) ≤ mstr (1 : Int)) ∧ (((rowQ (a0 + 1) (1 : Int) v2 (Z'1 ((a0 + 1) + 2) (Int.toNat (1 : Int))) = none → (False)) ∧ (∀ b1, rowQ (a0 + 1) (1 : Int) v2 (Z'1 ((a0 + 1) + 2) (Int.toNat (1 : Int))) = some b1 → (x'1.1 b1 = some (100, 26) ∧ (∃ g2 : Int, (∃ g3 : Int, (∃ g4 : Nat → Int, ((x'1.2.1 (a0 + 229) 1 = some (a0 + 41)) ∧ (x'1.2.1 (a0 + 229) 2 = some (a0 + 44)) ∧ ((a0 + 41) + 2 < (a0 + 229) ∧ (a0 + 44) + 1 < (a0 + 229)) ∧ CZ Z'1 (a0 + 229) (a0 + 41) (a0 + 44) g2 g3 g4 ∧ SumR (Z'1 b1) ∧ (b1 < (a0 + 229) ∨ (a0 + 282) + 5 ≤ b1) ∧ (a0 + 229) + 50 ≤ (a0 + 282) ∧ (∀ (Z'2 : Zt), (PrA Z'2 (a0 + 282) g2 (sumF g2 g4 g3 (Z'1 b1) 0 (Z'1 b1 0).toNat czero).1 (sumF g2 g4 g3 (Z'1 b1) 0 (Z'1 b1 0).toNat czero).2 ∧ Oth Z'1 Z'2 (fun q => ((a0 + 229) + 6 < q ∧ q ≤ (a0 + 229) + 44) ∨ At5 (a0 + 282) q)) → (∃ g5 : Int, (∃ g6 : Int, (∃ g7 : Nat → Int, (∃ g8 : UV, ((x'1.2.1 (a0 + 229) 1 = some (a0 + 41)) ∧ (x'1.2.1 (a0 + 229) 2 = some (a0 + 44)) ∧ ((a0 + 41) + 2 < (a0 + 229) ∧ (a0 + 44) + 1 < (a0 + 229)) ∧ CZ Z'2 (a0 + 229) (a0 + 41) (a0 + 44) g5 g6 g7 ∧ RP g5 g6 g8 ∧ PrA Z'2 (a0 + 282) g5 g8.1 g8.2 ∧ (-99 ≤ v3 ∧ v3 ≤ 99) ∧ (a0 + 229) + 50 ≤ (a0 + 282) ∧ (a0 + 229) + 50 ≤ (a0 + 287) ∧ (∀ (Z'3 : Zt), (PrA Z'3 (a0 + 287) g5 (mulB g5 g7 g6 (if v3 < 0 then cneg g5 g8 else g8) (v3.natAbs : Int) 7 czero).1 (mulB g5 g7 g6 (if v3 < 0 then cneg g5 g8 else g8) (v3.natAbs : Int) 7 czero).2 ∧ Oth Z'2 Z'3 (fun q => ((a0 + 229) + 6 < q ∧ q ≤ (a0 + 229) + 44) ∨ At5 (a0 + 287) q)) → (∃ g9 : Int, (∃ g10 : Nat → Int, (∃ g11 : Nat → Int, (PrA Z'3 (a0 + 287) g9 g10 g11 ∧ (0 ≤ v4 ∧ v4 ≤ 4) ∧ (Q (some (i_ (if v4 < 3 then g10 (Int.toNat v4) else g11 (Int.toNat (v4 - 3))))) x'1 Z'3)))))))))))))))))))))) ∧ ((r'1 = 0) → (V mX11_times k n 32 [none, none, none, none, none] [] x'1 Z'1 Q)))))))))))))))))) :
    V mX11_times k n 0 [some (r_ a0), some (i_ v1), some (i_ v2), some (i_ v3), some (i_ v4)] [] x Z Q :=
  V_iload_n dX11_times_0 rfl (V_bipush dX11_times_1 rfl (V_icmp_lt (tgt := 32) dX11_times_3 rfl h.1 (rg_c rfl) (fun c1 => V_msk [false, false, false, false, false] rfl (h.2.1 c1)) (fun c1 => V_iload_n dX11_times_6 rfl (V_bipush dX11_times_7 rfl (V_icmp_gt (tgt := 32) dX11_times_9 rfl h.1 (rg_c rfl) (fun c2 => V_msk [false, false, false, false, false] rfl ((h.2.2 c1).1 c2)) (fun c2 => V_iload dX11_times_12 rfl (V_if_lt (tgt := 32) dX11_times_14 rfl ((h.2.2 c1).2 c2).1 (fun c3 => V_msk [false, false, false, false, false] rfl (((h.2.2 c1).2 c2).2.1 c3)) (fun c3 => V_iload dX11_times_17 rfl (V_iconst dX11_times_19 (V_icmp_gt (tgt := 32) dX11_times_20 rfl ((h.2.2 c1).2 c2).1 (rg_c rfl) (fun c4 => V_msk [false, false, false, false, false] rfl ((((h.2.2 c1).2 c2).2.2 c3).1 c4)) (fun c4 => V_aload_n dX11_times_23 rfl (V_iload_n dX11_times_24 rfl (V_iload_n dX11_times_25 rfl (Exists.elim ((((h.2.2 c1).2 c2).2.2 c3).2 c4) (fun g1 w1 => V_callV (k' := 0) (n' := 0) (t := 11) (q := (RX11, TX11, 17)) [i_ v1, i_ v2] [] okX11_isFitting o_a0.1 rfl rfl lm_11_206 liX11_isFitting lqX11_isFitting (Nat.le_of_ble_eq_true rfl) (Nat.le_of_ble_eq_true rfl) (Nat.le_of_ble_eq_true rfl) (cat_of rfl) (Nat.le_of_ble_eq_true rfl) (Nat.zero_le _) (Nat.zero_le _) rfl dX11_times_26 (sp_X11_isFitting o_a0 w1.1 w1.2.1 w1.2.2.1 (fun x'1 Z'1 r'1 p1 => V_if_ne (tgt := 34) dX11_times_29 rfl (w1.2.2.2 x'1 Z'1 r'1 p1).2.2.2.1 (fun c5 => V_aload_n dX11_times_34 rfl (G_11_11 (w1.2.2.2 x'1 Z'1 r'1 p1).1.1 (w1.2.2.2 x'1 Z'1 r'1 p1).1.qR11 lf_11_88 dX11_times_35 (V_aload_n dX11_times_38 rfl (G_11_0 (w1.2.2.2 x'1 Z'1 r'1 p1).1.1 (w1.2.2.2 x'1 Z'1 r'1 p1).1.qR0 lf_11_10 dX11_times_39 (V_iconst dX11_times_42 (V_iload_n dX11_times_43 rfl (V_callV (k' := 0) (n' := 0) (t := 10) (q := (RX10, TX10, 6)) [i_ 1, i_ v2] [r_ (a0 + 229)] okX10_row (w1.2.2.2 x'1 Z'1 r'1 p1).1.qK0.1 rfl rfl lm_11_129 liX10_row lqX10_row (Nat.le_of_ble_eq_true rfl) (Nat.le_of_ble_eq_true rfl) (Nat.le_of_ble_eq_true rfl) (cat_of rfl) (Nat.le_of_ble_eq_true rfl) (Nat.zero_le _) (Nat.zero_le _) rfl dX11_times_44 (sp_X10_row2 (w1.2.2.2 x'1 Z'1 r'1 p1).1.qK0 ((w1.2.2.2 x'1 Z'1 r'1 p1).2.2.2.2.1 c5).1 ((w1.2.2.2 x'1 Z'1 r'1 p1).2.2.2.2.1 c5).2.1 ((w1.2.2.2 x'1 Z'1 r'1 p1).2.2.2.2.1 c5).2.2.1 ((w1.2.2.2 x'1 Z'1 r'1 p1).2.2.2.2.1 c5).2.2.2.1 ((w1.2.2.2 x'1 Z'1 r'1 p1).2.2.2.2.1 c5).2.2.2.2.1 (V_q (fun c6 => V_aload_n dX11_times_47 rfl (G_11_12 (w1.2.2.2 x'1 Z'1 r'1 p1).1.1 (w1.2.2.2 x'1 Z'1 r'1 p1).1.qR12 lf_11_95 dX11_times_48 ((False.elim (((w1.2.2.2 x'1 Z'1 r'1 p1).2.2.2.2.1 c5).2.2.2.2.2.1 c6))))) (fun b1 c7 => have s1 := (((w1.2.2.2 x'1 Z'1 r'1 p1).2.2.2.2.1 c5).2.2.2.2.2.2 b1 c7).1; V_aload_n dX11_times_47 rfl (G_11_12 (w1.2.2.2 x'1 Z'1 r'1 p1).1.1 (w1.2.2.2 x'1 Z'1 r'1 p1).1.qR12 lf_11_95 dX11_times_48 (Exists.elim (((w1.2.2.2 x'1 Z'1 r'1 p1).2.2.2.2.1 c5).2.2.2.2.2.2 b1 c7).2 (fun g2 w2 => Exists.elim w2 (fun g3 w3 => Exists.elim w3 (fun g4 w4 => V_callV (k' := 0) (n' := 0) (t := 0) (q := (RX0, TX0, 18)) [r_ b1, r_ (a0 + 282)] [] okX0_ofSum (w1.2.2.2 x'1 Z'1 r'1 p1).1.qK11.1 rfl rfl lm_11_247 liX0_ofSum lqX0_ofSum (Nat.le_of_ble_eq_true rfl) (Nat.le_of_ble_eq_true rfl) (Nat.le_of_ble_eq_true rfl) (cat_of rfl) (Nat.le_of_ble_eq_true rfl) (Nat.zero_le _) (Nat.zero_le _) rfl dX11_times_51 (w_X0_ofSum w4.1 w4.2.1 (w1.2.2.2 x'1 Z'1 r'1 p1).1.qK11 s1 (w1.2.2.2 x'1 Z'1 r'1 p1).1.qK12 (w1.2.2.2 x'1 Z'1 r'1 p1).2.1 (w1.2.2.2 x'1 Z'1 r'1 p1).2.2.1 w4.2.2.1 w4.2.2.2.1 w4.2.2.2.2.1 w4.2.2.2.2.2.1 w4.2.2.2.2.2.2.1 (fun Z'2 p2 => V_aload_n dX11_times_54 rfl (G_11_11 (w1.2.2.2 x'1 Z'1 r'1 p1).1.1 (w1.2.2.2 x'1 Z'1 r'1 p1).1.qR11 lf_11_88 dX11_times_55 (V_aload_n dX11_times_58 rfl (G_11_12 (w1.2.2.2 x'1 Z'1 r'1 p1).1.1 (w1.2.2.2 x'1 Z'1 r'1 p1).1.qR12 lf_11_95 dX11_times_59 (V_iload_n dX11_times_62 rfl (V_aload_n dX11_times_63 rfl (G_11_13 (w1.2.2.2 x'1 Z'1 r'1 p1).1.1 (w1.2.2.2 x'1 Z'1 r'1 p1).1.qR13 lf_11_99 dX11_times_64 (Exists.elim (w4.2.2.2.2.2.2.2 Z'2 p2) (fun g5 w5 => Exists.elim w5 (fun g6 w6 => Exists.elim w6 (fun g7 w7 => Exists.elim w7 (fun g8 w8 => V_callV (k' := 0) (n' := 0) (t := 0) (q := (RX0, TX0, 18)) [r_ (a0 + 282), i_ v3, r_ (a0 + 287)] [] okX0_multiply (w1.2.2.2 x'1 Z'1 r'1 p1).1.qK11.1 rfl rfl lm_11_251 liX0_multiply lqX0_multiply (Nat.le_of_ble_eq_true rfl) (Nat.le_of_ble_eq_true rfl) (Nat.le_of_ble_eq_true rfl) (cat_of rfl) (Nat.le_of_ble_eq_true rfl) (Nat.zero_le _) (Nat.zero_le _) rfl dX11_times_67 (w_X0_multiply w8.1 w8.2.1 (w1.2.2.2 x'1 Z'1 r'1 p1).1.qK11 (w1.2.2.2 x'1 Z'1 r'1 p1).1.qK12 (w1.2.2.2 x'1 Z'1 r'1 p1).1.qK13 (w1.2.2.2 x'1 Z'1 r'1 p1).2.1 (w1.2.2.2 x'1 Z'1 r'1 p1).2.2.1 w8.2.2.1 w8.2.2.2.1 w8.2.2.2.2.1 w8.2.2.2.2.2.1 w8.2.2.2.2.2.2.1 w8.2.2.2.2.2.2.2.1 w8.2.2.2.2.2.2.2.2.1 (fun Z'3 p3 => V_aload_n dX11_times_70 rfl (G_11_13 (w1.2.2.2 x'1 Z'1 r'1 p1).1.1 (w1.2.2.2 x'1 Z'1 r'1 p1).1.qR13 lf_11_99 dX11_times_71 (V_iload dX11_times_74 rfl (Exists.elim (w8.2.2.2.2.2.2.2.2.2 Z'3 p3) (fun g9 w9 => Exists.elim w9 (fun g10 w10 => Exists.elim w10 (fun g11 w11 => V_callV (k' := 0) (n' := 0) (t := 6) (q := (RX6, TX6, 2)) [i_ v4] [] okX6_part (w1.2.2.2 x'1 Z'1 r'1 p1).1.qK13.1 rfl rfl lm_11_255 liX6_part lqX6_part (Nat.le_of_ble_eq_true rfl) (Nat.le_of_ble_eq_true rfl) (Nat.le_of_ble_eq_true rfl) (cat_of rfl) (Nat.le_of_ble_eq_true rfl) (Nat.zero_le _) (Nat.zero_le _) rfl dX11_times_76 (sp_X6_part (w1.2.2.2 x'1 Z'1 r'1 p1).1.qK13 w11.1 w11.2.1 (V_iret (ty := .int) dX11_times_79 rfl rfl w11.2.2)))))))))))))))))))))))))))))))))))))) (fun c5 => V_msk [false, false, false, false, false] rfl ((w1.2.2.2 x'1 Z'1 r'1 p1).2.2.2.2.2 c5)))))))))))))))))))
set_option maxRecDepth 20000 in
theorem b_X11_times_32 {k n : Nat} {x : Wx} {Z : Zt} {Q : Option Value → Wx → Zt → Prop}  
    (h : Q (some (i_ (-1))) x Z) :
    V mX11_times k n 32 [none, none, none, none, none] [] x Z Q :=
  V_iconst dX11_times_32 (V_iret (ty := .int) dX11_times_33 rfl rfl h)
theorem dX11_added_0 : decode cX11_added 0 = .ok (.iload 4, 2) := by decide +kernel
theorem dX11_added_2 : decode cX11_added 2 = .ok (.ifCond .lt 19, 3) := by decide +kernel
theorem dX11_added_5 : decode cX11_added 5 = .ok (.iload 4, 2) := by decide +kernel
theorem dX11_added_7 : decode cX11_added 7 = .ok (.iconst 4, 1) := by decide +kernel
theorem dX11_added_8 : decode cX11_added 8 = .ok (.if_icmp .gt 13, 3) := by decide +kernel
theorem dX11_added_11 : decode cX11_added 11 = .ok (.aload_n 0, 1) := by decide +kernel
theorem dX11_added_12 : decode cX11_added 12 = .ok (.iload_n 1, 1) := by decide +kernel
theorem dX11_added_13 : decode cX11_added 13 = .ok (.iload_n 2, 1) := by decide +kernel
theorem dX11_added_14 : decode cX11_added 14 = .ok (.iload_n 3, 1) := by decide +kernel
theorem dX11_added_15 : decode cX11_added 15 = .ok (.invokevirtual 258, 3) := by decide +kernel
theorem dX11_added_18 : decode cX11_added 18 = .ok (.ifCond .ne 5, 3) := by decide +kernel
theorem dX11_added_21 : decode cX11_added 21 = .ok (.iconst (-1), 1) := by decide +kernel
theorem dX11_added_22 : decode cX11_added 22 = .ok (.ireturn, 1) := by decide +kernel
theorem dX11_added_23 : decode cX11_added 23 = .ok (.aload_n 0, 1) := by decide +kernel
theorem dX11_added_24 : decode cX11_added 24 = .ok (.iload_n 2, 1) := by decide +kernel
theorem dX11_added_25 : decode cX11_added 25 = .ok (.iload_n 3, 1) := by decide +kernel
theorem dX11_added_26 : decode cX11_added 26 = .ok (.invokevirtual 262, 3) := by decide +kernel
theorem dX11_added_29 : decode cX11_added 29 = .ok (.aload_n 0, 1) := by decide +kernel
theorem dX11_added_30 : decode cX11_added 30 = .ok (.getfield 88, 3) := by decide +kernel
theorem dX11_added_33 : decode cX11_added 33 = .ok (.aload_n 0, 1) := by decide +kernel
theorem dX11_added_34 : decode cX11_added 34 = .ok (.getfield 95, 3) := by decide +kernel
theorem dX11_added_37 : decode cX11_added 37 = .ok (.aload_n 0, 1) := by decide +kernel
theorem dX11_added_38 : decode cX11_added 38 = .ok (.getfield 99, 3) := by decide +kernel
theorem dX11_added_41 : decode cX11_added 41 = .ok (.aload_n 0, 1) := by decide +kernel
theorem dX11_added_42 : decode cX11_added 42 = .ok (.getfield 95, 3) := by decide +kernel
theorem dX11_added_45 : decode cX11_added 45 = .ok (.invokevirtual 265, 3) := by decide +kernel
theorem dX11_added_48 : decode cX11_added 48 = .ok (.aload_n 0, 1) := by decide +kernel
theorem dX11_added_49 : decode cX11_added 49 = .ok (.getfield 95, 3) := by decide +kernel
theorem dX11_added_52 : decode cX11_added 52 = .ok (.iload 4, 2) := by decide +kernel
theorem dX11_added_54 : decode cX11_added 54 = .ok (.invokevirtual 255, 3) := by decide +kernel
theorem dX11_added_57 : decode cX11_added 57 = .ok (.ireturn, 1) := by decide +kernel
set_option maxRecDepth 20000 in
theorem b_X11_added_0 {k n : Nat} {x : Wx} {Z : Zt} {Q : Option Value → Wx → Zt → Prop} {a0 : Nat} {v1 : Int} {v2 : Int} {v3 : Int} {v4 : Int} (o_a0 : Is11 x a0)
    (h : Rg v4 ∧ (((v4 < 0) → (V mX11_added k n 21 [none, none, none, none, none] [] x Z Q)) ∧ ((0 ≤ v4) → (((4 < v4) → (V mX11_added k n 21 [none, none, none, none, none] [] x Z Q)) ∧ ((v4 ≤ 4) → (∃ g1 : Ab, (OI x Z a0 g1 ∧ Rg v1 ∧ Rg v2 ∧ Rg v3 ∧ (∀ (x'1 : Wx) (Z'1 : Zt) (r'1 : Int), (OI x'1 Z'1 a0 g1 ∧ Fx a0 x x'1 Z Z'1 ∧ r'1 = bI (fitB g1.nw v1 v2 && fitB g1.nw v1 v3) ∧ ((fitB g1.nw v1 v2 && fitB g1.nw v1 v3) = true → Z'1 a0 14 = v1)) → (Is11 x'1 a0 ∧ Is4 x'1 (a0 + 41) ∧ Is7 x'1 (a0 + 44) ∧ (Rg r'1 ∧ (((r'1 ≠ 0) → (∃ g2 : Ab, (∃ g3 : Nat, (∃ g4 : Nat, (∃ g5 : Nat, ((x'1.2.1 (a0 + 229) 1 = some (a0 + 41)) ∧ (x'1.2.1 (a0 + 229) 2 = some (a0 + 44)) ∧ Is11 x'1 a0 ∧ OI x'1 Z'1 a0 g2 ∧ Z'1 a0 14 = (g3 : Int) ∧ (v2 = (g4 : Int) ∧ (g4 : Int) < g2.nw.ct 1) ∧ (v3 = (g5 : Int) ∧ (g5 : Int) < g2.nw.ct 1) ∧ (∀ (Z'2 : Zt), (OI x'1 Z'2 a0 g2 ∧ Fx a0 x'1 x'1 Z'1 Z'2 ∧ Z'2 a0 14 = (g3 : Int) ∧ PrA Z'2 (a0 + 282) (g2.nw.p g3) (g2.nw.K g3 g4).1 (g2.nw.K g3 g4).2 ∧ PrA Z'2 (a0 + 287) (g2.nw.p g3) (g2.nw.K g3 g5).1 (g2.nw.K g3 g5).2) → (∃ g6 : Int, (∃ g7 : Int, (∃ g8 : Nat → Int, (∃ g9 : UV, (∃ g10 : UV, ((x'1.2.1 (a0 + 229) 1 = some (a0 + 41)) ∧ (x'1.2.1 (a0 + 229) 2 = some (a0 + 44)) ∧ CF g6 g7 g8 ∧ RP g6 g7 g9 ∧ RP g6 g7 g10 ∧ PrA Z'2 (a0 + 282) g6 g9.1 g9.2 ∧ PrA Z'2 (a0 + 287) g6 g10.1 g10.2 ∧ PA Z'2 (a0 + 44) g6 g8 ∧ FA Z'2 (a0 + 41) g6 ∧ Z'2 (a0 + 229) 3 = g7 ∧ (a0 + 41) + 2 < (a0 + 229) ∧ (a0 + 44) + 1 < (a0 + 229) ∧ (a0 + 229) + 40 ≤ (a0 + 282) ∧ (a0 + 229) + 40 ≤ (a0 + 287) ∧ (∀ (Z'3 : Zt), (PrA Z'3 (a0 + 282) g6 (cplus g6 g8 g7 g9 g10).1 (cplus g6 g8 g7 g9 g10).2 ∧ Oth Z'2 Z'3 (fun q => ((a0 + 229) + 6 < q ∧ q ≤ (a0 + 229) + 39) ∨ At5 (a0 + 282) q)) → (∃ g11 : Int, (∃ g12 : Nat → Int, (∃ g13 : Nat → Int, (PrA Z'3 (a0 + 282) g11 g12 g13 ∧ (0 ≤ v4 ∧ v4 ≤ 4) ∧ (Q (some (i_ (if v4 < 3 then g12 (Int.toNat v4) else g13 (Int.toNat (v4 - 3))))) x'1 Z'3))))))))))))))))))) ∧ ((r'1 = 0) → (V mX11_added k n 21 [none, none, none, none, none] [] x'1 Z'1 Q))))))))))))) :
    V mX11_added k n 0 [some (r_ a0), some (i_ v1), some (i_ v2), some (i_ v3), some (i_ v4)] [] x Z Q :=
  V_iload dX11_added_0 rfl (V_if_lt (tgt := 21) dX11_added_2 rfl h.1 (fun c1 => V_msk [false, false, false, false, false] rfl (h.2.1 c1)) (fun c1 => V_iload dX11_added_5 rfl (V_iconst dX11_added_7 (V_icmp_gt (tgt := 21) dX11_added_8 rfl h.1 (rg_c rfl) (fun c2 => V_msk [false, false, false, false, false] rfl ((h.2.2 c1).1 c2)) (fun c2 => V_aload_n dX11_added_11 rfl (V_iload_n dX11_added_12 rfl (V_iload_n dX11_added_13 rfl (V_iload_n dX11_added_14 rfl (Exists.elim ((h.2.2 c1).2 c2) (fun g1 w1 => V_callV (k' := 0) (n' := 0) (t := 11) (q := (RX11, TX11, 17)) [i_ v1, i_ v2, i_ v3] [] okX11_areFitting o_a0.1 rfl rfl lm_11_258 liX11_areFitting lqX11_areFitting (Nat.le_of_ble_eq_true rfl) (Nat.le_of_ble_eq_true rfl) (Nat.le_of_ble_eq_true rfl) (cat_of rfl) (Nat.le_of_ble_eq_true rfl) (Nat.zero_le _) (Nat.zero_le _) rfl dX11_added_15 (sp_X11_areFitting o_a0 w1.1 w1.2.1 w1.2.2.1 w1.2.2.2.1 (fun x'1 Z'1 r'1 p1 => V_if_ne (tgt := 23) dX11_added_18 rfl (w1.2.2.2.2 x'1 Z'1 r'1 p1).2.2.2.1 (fun c3 => V_aload_n dX11_added_23 rfl (V_iload_n dX11_added_24 rfl (V_iload_n dX11_added_25 rfl (Exists.elim ((w1.2.2.2.2 x'1 Z'1 r'1 p1).2.2.2.2.1 c3) (fun g2 w2 => Exists.elim w2 (fun g3 w3 => Exists.elim w3 (fun g4 w4 => Exists.elim w4 (fun g5 w5 => V_callV (k' := 0) (n' := 0) (t := 11) (q := (RX11, TX11, 17)) [i_ v2, i_ v3] [] okX11_takeClasses (w1.2.2.2.2 x'1 Z'1 r'1 p1).1.1 rfl rfl lm_11_262 liX11_takeClasses lqX11_takeClasses (Nat.le_of_ble_eq_true rfl) (Nat.le_of_ble_eq_true rfl) (Nat.le_of_ble_eq_true rfl) (cat_of rfl) (Nat.le_of_ble_eq_true rfl) (Nat.zero_le _) (Nat.zero_le _) rfl dX11_added_26 (sp_X11_takeClasses  w5.1 w5.2.1 w5.2.2.1 w5.2.2.2.1 w5.2.2.2.2.1 w5.2.2.2.2.2.1 w5.2.2.2.2.2.2.1 (fun Z'2 p2 => V_aload_n dX11_added_29 rfl (G_11_11 (w1.2.2.2.2 x'1 Z'1 r'1 p1).1.1 (w1.2.2.2.2 x'1 Z'1 r'1 p1).1.qR11 lf_11_88 dX11_added_30 (V_aload_n dX11_added_33 rfl (G_11_12 (w1.2.2.2.2 x'1 Z'1 r'1 p1).1.1 (w1.2.2.2.2 x'1 Z'1 r'1 p1).1.qR12 lf_11_95 dX11_added_34 (V_aload_n dX11_added_37 rfl (G_11_13 (w1.2.2.2.2 x'1 Z'1 r'1 p1).1.1 (w1.2.2.2.2 x'1 Z'1 r'1 p1).1.qR13 lf_11_99 dX11_added_38 (V_aload_n dX11_added_41 rfl (G_11_12 (w1.2.2.2.2 x'1 Z'1 r'1 p1).1.1 (w1.2.2.2.2 x'1 Z'1 r'1 p1).1.qR12 lf_11_95 dX11_added_42 (Exists.elim (w5.2.2.2.2.2.2.2 Z'2 p2) (fun g6 w6 => Exists.elim w6 (fun g7 w7 => Exists.elim w7 (fun g8 w8 => Exists.elim w8 (fun g9 w9 => Exists.elim w9 (fun g10 w10 => V_callV (k' := 0) (n' := 0) (t := 0) (q := (RX0, TX0, 18)) [r_ (a0 + 282), r_ (a0 + 287), r_ (a0 + 282)] [] okX0_plus (w1.2.2.2.2 x'1 Z'1 r'1 p1).1.qK11.1 rfl rfl lm_11_265 liX0_plus lqX0_plus (Nat.le_of_ble_eq_true rfl) (Nat.le_of_ble_eq_true rfl) (Nat.le_of_ble_eq_true rfl) (cat_of rfl) (Nat.le_of_ble_eq_true rfl) (Nat.zero_le _) (Nat.zero_le _) rfl dX11_added_45 (sp_X0_plus w10.1 w10.2.1 (w1.2.2.2.2 x'1 Z'1 r'1 p1).1.qK11 (w1.2.2.2.2 x'1 Z'1 r'1 p1).1.qK12 (w1.2.2.2.2 x'1 Z'1 r'1 p1).1.qK13 (w1.2.2.2.2 x'1 Z'1 r'1 p1).1.qK12 (w1.2.2.2.2 x'1 Z'1 r'1 p1).2.1 (w1.2.2.2.2 x'1 Z'1 r'1 p1).2.2.1 w10.2.2.1 w10.2.2.2.1 w10.2.2.2.2.1 w10.2.2.2.2.2.1 w10.2.2.2.2.2.2.1 w10.2.2.2.2.2.2.2.1 w10.2.2.2.2.2.2.2.2.1 w10.2.2.2.2.2.2.2.2.2.1 w10.2.2.2.2.2.2.2.2.2.2.1 w10.2.2.2.2.2.2.2.2.2.2.2.1 w10.2.2.2.2.2.2.2.2.2.2.2.2.1 w10.2.2.2.2.2.2.2.2.2.2.2.2.2.1 w10.2.2.2.2.2.2.2.2.2.2.2.2.1 (fun Z'3 p3 => V_aload_n dX11_added_48 rfl (G_11_12 (w1.2.2.2.2 x'1 Z'1 r'1 p1).1.1 (w1.2.2.2.2 x'1 Z'1 r'1 p1).1.qR12 lf_11_95 dX11_added_49 (V_iload dX11_added_52 rfl (Exists.elim (w10.2.2.2.2.2.2.2.2.2.2.2.2.2.2 Z'3 p3) (fun g11 w11 => Exists.elim w11 (fun g12 w12 => Exists.elim w12 (fun g13 w13 => V_callV (k' := 0) (n' := 0) (t := 6) (q := (RX6, TX6, 2)) [i_ v4] [] okX6_part (w1.2.2.2.2 x'1 Z'1 r'1 p1).1.qK12.1 rfl rfl lm_11_255 liX6_part lqX6_part (Nat.le_of_ble_eq_true rfl) (Nat.le_of_ble_eq_true rfl) (Nat.le_of_ble_eq_true rfl) (cat_of rfl) (Nat.le_of_ble_eq_true rfl) (Nat.zero_le _) (Nat.zero_le _) rfl dX11_added_54 (sp_X6_part (w1.2.2.2.2 x'1 Z'1 r'1 p1).1.qK12 w13.1 w13.2.1 (V_iret (ty := .int) dX11_added_57 rfl rfl w13.2.2))))))))))))))))))))))))))))))))) (fun c3 => V_msk [false, false, false, false, false] rfl ((w1.2.2.2.2 x'1 Z'1 r'1 p1).2.2.2.2.2 c3))))))))))))))
set_option maxRecDepth 20000 in
theorem b_X11_added_21 {k n : Nat} {x : Wx} {Z : Zt} {Q : Option Value → Wx → Zt → Prop}  
    (h : Q (some (i_ (-1))) x Z) :
    V mX11_added k n 21 [none, none, none, none, none] [] x Z Q :=
  V_iconst dX11_added_21 (V_iret (ty := .int) dX11_added_22 rfl rfl h)
theorem dX11_orderOf_0 : decode cX11_orderOf 0 = .ok (.aload_n 0, 1) := by decide +kernel
theorem dX11_orderOf_1 : decode cX11_orderOf 1 = .ok (.iload_n 1, 1) := by decide +kernel
theorem dX11_orderOf_2 : decode cX11_orderOf 2 = .ok (.iload_n 2, 1) := by decide +kernel
theorem dX11_orderOf_3 : decode cX11_orderOf 3 = .ok (.invokevirtual 206, 3) := by decide +kernel
theorem dX11_orderOf_6 : decode cX11_orderOf 6 = .ok (.ifCond .ne 5, 3) := by decide +kernel
theorem dX11_orderOf_9 : decode cX11_orderOf 9 = .ok (.iconst (-1), 1) := by decide +kernel
theorem dX11_orderOf_10 : decode cX11_orderOf 10 = .ok (.ireturn, 1) := by decide +kernel
theorem dX11_orderOf_11 : decode cX11_orderOf 11 = .ok (.aload_n 0, 1) := by decide +kernel
theorem dX11_orderOf_12 : decode cX11_orderOf 12 = .ok (.getfield 88, 3) := by decide +kernel
theorem dX11_orderOf_15 : decode cX11_orderOf 15 = .ok (.aload_n 0, 1) := by decide +kernel
theorem dX11_orderOf_16 : decode cX11_orderOf 16 = .ok (.getfield 10, 3) := by decide +kernel
theorem dX11_orderOf_19 : decode cX11_orderOf 19 = .ok (.iconst 1, 1) := by decide +kernel
theorem dX11_orderOf_20 : decode cX11_orderOf 20 = .ok (.iload_n 2, 1) := by decide +kernel
theorem dX11_orderOf_21 : decode cX11_orderOf 21 = .ok (.invokevirtual 129, 3) := by decide +kernel
theorem dX11_orderOf_24 : decode cX11_orderOf 24 = .ok (.aload_n 0, 1) := by decide +kernel
theorem dX11_orderOf_25 : decode cX11_orderOf 25 = .ok (.getfield 95, 3) := by decide +kernel
theorem dX11_orderOf_28 : decode cX11_orderOf 28 = .ok (.invokevirtual 247, 3) := by decide +kernel
theorem dX11_orderOf_31 : decode cX11_orderOf 31 = .ok (.aload_n 0, 1) := by decide +kernel
theorem dX11_orderOf_32 : decode cX11_orderOf 32 = .ok (.getfield 88, 3) := by decide +kernel
theorem dX11_orderOf_35 : decode cX11_orderOf 35 = .ok (.aload_n 0, 1) := by decide +kernel
theorem dX11_orderOf_36 : decode cX11_orderOf 36 = .ok (.getfield 95, 3) := by decide +kernel
theorem dX11_orderOf_39 : decode cX11_orderOf 39 = .ok (.aload_n 0, 1) := by decide +kernel
theorem dX11_orderOf_40 : decode cX11_orderOf 40 = .ok (.getfield 60, 3) := by decide +kernel
theorem dX11_orderOf_43 : decode cX11_orderOf 43 = .ok (.iconst 1, 1) := by decide +kernel
theorem dX11_orderOf_44 : decode cX11_orderOf 44 = .ok (.invokevirtual 178, 3) := by decide +kernel
theorem dX11_orderOf_47 : decode cX11_orderOf 47 = .ok (.invokevirtual 269, 3) := by decide +kernel
theorem dX11_orderOf_50 : decode cX11_orderOf 50 = .ok (.ireturn, 1) := by decide +kernel
set_option maxRecDepth 20000 in
theorem b_X11_orderOf_0 {k n : Nat} {x : Wx} {Z : Zt} {Q : Option Value → Wx → Zt → Prop} {a0 : Nat} {v1 : Int} {v2 : Int} (o_a0 : Is11 x a0)
    (h : ∃ g1 : Ab, (OI x Z a0 g1 ∧ Rg v1 ∧ Rg v2 ∧ (∀ (x'1 : Wx) (Z'1 : Zt) (r'1 : Int), (OI x'1 Z'1 a0 g1 ∧ Fx a0 x x'1 Z Z'1 ∧ r'1 = bI (fitB g1.nw v1 v2) ∧ (fitB g1.nw v1 v2 = true → Z'1 a0 14 = v1)) → (Is11 x'1 a0 ∧ Is4 x'1 (a0 + 41) ∧ Is7 x'1 (a0 + 44) ∧ (Rg r'1 ∧ (((r'1 ≠ 0) → (KS x'1 ∧ KW x'1 Z'1 ∧ (0 ≤ (1 : Int) ∧ (1 : Int) < 3) ∧ Rg v2 ∧ (0 ≤ Z'1 ((a0 + 1) + 2) (Int.toNat (1 : Int)) ∧ Z'1 ((a0 + 1) + 2) (Int.toNat (1 : Int)) ≤ mstr (1 : Int)) ∧ (((rowQ (a0 + 1) (1 : Int) v2 (Z'1 ((a0 + 1) + 2) (Int.toNat (1 : Int))) = none → (False)) ∧ (∀ b1, rowQ (a0 + 1) (1 : Int) v2 (Z'1 ((a0 + 1) + 2) (Int.toNat (1 : Int))) = some b1 → (x'1.1 b1 = some (100, 26) ∧ (∃ g2 : Int, (∃ g3 : Int, (∃ g4 : Nat → Int, ((x'1.2.1 (a0 + 229) 1 = some (a0 + 41)) ∧ (x'1.2.1 (a0 + 229) 2 = some (a0 + 44)) ∧ ((a0 + 41) + 2 < (a0 + 229) ∧ (a0 + 44) + 1 < (a0 + 229)) ∧ CZ Z'1 (a0 + 229) (a0 + 41) (a0 + 44) g2 g3 g4 ∧ SumR (Z'1 b1) ∧ (b1 < (a0 + 229) ∨ (a0 + 282) + 5 ≤ b1) ∧ (a0 + 229) + 50 ≤ (a0 + 282) ∧ (∀ (Z'2 : Zt), (PrA Z'2 (a0 + 282) g2 (sumF g2 g4 g3 (Z'1 b1) 0 (Z'1 b1 0).toNat czero).1 (sumF g2 g4 g3 (Z'1 b1) 0 (Z'1 b1 0).toNat czero).2 ∧ Oth Z'1 Z'2 (fun q => ((a0 + 229) + 6 < q ∧ q ≤ (a0 + 229) + 44) ∨ At5 (a0 + 282) q)) → ((1 ≤ Z'2 (a0 + 40) 2 ∧ Z'2 (a0 + 40) 2 ≤ 2) ∧ (∃ g5 : Int, (∃ g6 : Int, (∃ g7 : Nat → Int, (∃ g8 : UV, ((x'1.2.1 (a0 + 229) 1 = some (a0 + 41)) ∧ (x'1.2.1 (a0 + 229) 2 = some (a0 + 44)) ∧ ((a0 + 41) + 2 < (a0 + 229) ∧ (a0 + 44) + 1 < (a0 + 229)) ∧ CZ Z'2 (a0 + 229) (a0 + 41) (a0 + 44) g5 g6 g7 ∧ RP g5 g6 g8 ∧ PrA Z'2 (a0 + 282) g5 g8.1 g8.2 ∧ (-10000 ≤ (shA (Z'2 ((a0 + 40) + 8)) (1 : Int) (2 * Z'2 (a0 + 40) 2 + 1).toNat 0) ∧ (shA (Z'2 ((a0 + 40) + 8)) (1 : Int) (2 * Z'2 (a0 + 40) 2 + 1).toNat 0) ≤ 10000) ∧ (a0 + 229) + 50 ≤ (a0 + 282) ∧ (∀ (Z'3 : Zt), (Oth Z'2 Z'3 (fun q => (a0 + 229) + 6 < q ∧ q ≤ (a0 + 229) + 49)) → (Q (some (i_ (ordF g5 g7 g6 g8 ((Int.toNat (shA (Z'2 ((a0 + 40) + 8)) (1 : Int) (2 * Z'2 (a0 + 40) 2 + 1).toNat 0)) - 1) 1 g8))) x'1 Z'3))))))))))))))))))) ∧ ((r'1 = 0) → (Q (some (i_ (-1))) x'1 Z'1)))))))) :
    V mX11_orderOf k n 0 [some (r_ a0), some (i_ v1), some (i_ v2)] [] x Z Q :=
  V_aload_n dX11_orderOf_0 rfl (V_iload_n dX11_orderOf_1 rfl (V_iload_n dX11_orderOf_2 rfl (Exists.elim h (fun g1 w1 => V_callV (k' := 0) (n' := 0) (t := 11) (q := (RX11, TX11, 17)) [i_ v1, i_ v2] [] okX11_isFitting o_a0.1 rfl rfl lm_11_206 liX11_isFitting lqX11_isFitting (Nat.le_of_ble_eq_true rfl) (Nat.le_of_ble_eq_true rfl) (Nat.le_of_ble_eq_true rfl) (cat_of rfl) (Nat.le_of_ble_eq_true rfl) (Nat.zero_le _) (Nat.zero_le _) rfl dX11_orderOf_3 (sp_X11_isFitting o_a0 w1.1 w1.2.1 w1.2.2.1 (fun x'1 Z'1 r'1 p1 => V_if_ne (tgt := 11) dX11_orderOf_6 rfl (w1.2.2.2 x'1 Z'1 r'1 p1).2.2.2.1 (fun c1 => V_aload_n dX11_orderOf_11 rfl (G_11_11 (w1.2.2.2 x'1 Z'1 r'1 p1).1.1 (w1.2.2.2 x'1 Z'1 r'1 p1).1.qR11 lf_11_88 dX11_orderOf_12 (V_aload_n dX11_orderOf_15 rfl (G_11_0 (w1.2.2.2 x'1 Z'1 r'1 p1).1.1 (w1.2.2.2 x'1 Z'1 r'1 p1).1.qR0 lf_11_10 dX11_orderOf_16 (V_iconst dX11_orderOf_19 (V_iload_n dX11_orderOf_20 rfl (V_callV (k' := 0) (n' := 0) (t := 10) (q := (RX10, TX10, 6)) [i_ 1, i_ v2] [r_ (a0 + 229)] okX10_row (w1.2.2.2 x'1 Z'1 r'1 p1).1.qK0.1 rfl rfl lm_11_129 liX10_row lqX10_row (Nat.le_of_ble_eq_true rfl) (Nat.le_of_ble_eq_true rfl) (Nat.le_of_ble_eq_true rfl) (cat_of rfl) (Nat.le_of_ble_eq_true rfl) (Nat.zero_le _) (Nat.zero_le _) rfl dX11_orderOf_21 (sp_X10_row2 (w1.2.2.2 x'1 Z'1 r'1 p1).1.qK0 ((w1.2.2.2 x'1 Z'1 r'1 p1).2.2.2.2.1 c1).1 ((w1.2.2.2 x'1 Z'1 r'1 p1).2.2.2.2.1 c1).2.1 ((w1.2.2.2 x'1 Z'1 r'1 p1).2.2.2.2.1 c1).2.2.1 ((w1.2.2.2 x'1 Z'1 r'1 p1).2.2.2.2.1 c1).2.2.2.1 ((w1.2.2.2 x'1 Z'1 r'1 p1).2.2.2.2.1 c1).2.2.2.2.1 (V_q (fun c2 => V_aload_n dX11_orderOf_24 rfl (G_11_12 (w1.2.2.2 x'1 Z'1 r'1 p1).1.1 (w1.2.2.2 x'1 Z'1 r'1 p1).1.qR12 lf_11_95 dX11_orderOf_25 ((False.elim (((w1.2.2.2 x'1 Z'1 r'1 p1).2.2.2.2.1 c1).2.2.2.2.2.1 c2))))) (fun b1 c3 => have s1 := (((w1.2.2.2 x'1 Z'1 r'1 p1).2.2.2.2.1 c1).2.2.2.2.2.2 b1 c3).1; V_aload_n dX11_orderOf_24 rfl (G_11_12 (w1.2.2.2 x'1 Z'1 r'1 p1).1.1 (w1.2.2.2 x'1 Z'1 r'1 p1).1.qR12 lf_11_95 dX11_orderOf_25 (Exists.elim (((w1.2.2.2 x'1 Z'1 r'1 p1).2.2.2.2.1 c1).2.2.2.2.2.2 b1 c3).2 (fun g2 w2 => Exists.elim w2 (fun g3 w3 => Exists.elim w3 (fun g4 w4 => V_callV (k' := 0) (n' := 0) (t := 0) (q := (RX0, TX0, 18)) [r_ b1, r_ (a0 + 282)] [] okX0_ofSum (w1.2.2.2 x'1 Z'1 r'1 p1).1.qK11.1 rfl rfl lm_11_247 liX0_ofSum lqX0_ofSum (Nat.le_of_ble_eq_true rfl) (Nat.le_of_ble_eq_true rfl) (Nat.le_of_ble_eq_true rfl) (cat_of rfl) (Nat.le_of_ble_eq_true rfl) (Nat.zero_le _) (Nat.zero_le _) rfl dX11_orderOf_28 (w_X0_ofSum w4.1 w4.2.1 (w1.2.2.2 x'1 Z'1 r'1 p1).1.qK11 s1 (w1.2.2.2 x'1 Z'1 r'1 p1).1.qK12 (w1.2.2.2 x'1 Z'1 r'1 p1).2.1 (w1.2.2.2 x'1 Z'1 r'1 p1).2.2.1 w4.2.2.1 w4.2.2.2.1 w4.2.2.2.2.1 w4.2.2.2.2.2.1 w4.2.2.2.2.2.2.1 (fun Z'2 p2 => V_aload_n dX11_orderOf_31 rfl (G_11_11 (w1.2.2.2 x'1 Z'1 r'1 p1).1.1 (w1.2.2.2 x'1 Z'1 r'1 p1).1.qR11 lf_11_88 dX11_orderOf_32 (V_aload_n dX11_orderOf_35 rfl (G_11_12 (w1.2.2.2 x'1 Z'1 r'1 p1).1.1 (w1.2.2.2 x'1 Z'1 r'1 p1).1.qR12 lf_11_95 dX11_orderOf_36 (V_aload_n dX11_orderOf_39 rfl (G_11_7 (w1.2.2.2 x'1 Z'1 r'1 p1).1.1 (w1.2.2.2 x'1 Z'1 r'1 p1).1.qR7 lf_11_60 dX11_orderOf_40 (V_iconst dX11_orderOf_43 (V_callV (k' := 0) (n' := 0) (t := 2) (q := (RX2, TX2, 17)) [i_ 1] [r_ (a0 + 282), r_ (a0 + 229)] okX2_shareAt (w1.2.2.2 x'1 Z'1 r'1 p1).1.qK7.1 rfl rfl lm_11_178 liX2_shareAt lqX2_shareAt (Nat.le_of_ble_eq_true rfl) (Nat.le_of_ble_eq_true rfl) (Nat.le_of_ble_eq_true rfl) (cat_of rfl) (Nat.le_of_ble_eq_true rfl) (Nat.zero_le _) (Nat.zero_le _) rfl dX11_orderOf_44 (sp_X2_shareAt (w1.2.2.2 x'1 Z'1 r'1 p1).1.qK7 (w4.2.2.2.2.2.2.2 Z'2 p2).1 (Exists.elim (w4.2.2.2.2.2.2.2 Z'2 p2).2 (fun g5 w5 => Exists.elim w5 (fun g6 w6 => Exists.elim w6 (fun g7 w7 => Exists.elim w7 (fun g8 w8 => V_callV (k' := 0) (n' := 0) (t := 0) (q := (RX0, TX0, 18)) [r_ (a0 + 282), i_ (shA (Z'2 ((a0 + 40) + 8)) (1 : Int) (2 * Z'2 (a0 + 40) 2 + 1).toNat 0)] [] okX0_orderOfClass (w1.2.2.2 x'1 Z'1 r'1 p1).1.qK11.1 rfl rfl lm_11_269 liX0_orderOfClass lqX0_orderOfClass (Nat.le_of_ble_eq_true rfl) (Nat.le_of_ble_eq_true rfl) (Nat.le_of_ble_eq_true rfl) (cat_of rfl) (Nat.le_of_ble_eq_true rfl) (Nat.zero_le _) (Nat.zero_le _) rfl dX11_orderOf_47 (w_X0_orderOfClass w8.1 w8.2.1 (w1.2.2.2 x'1 Z'1 r'1 p1).1.qK11 (w1.2.2.2 x'1 Z'1 r'1 p1).1.qK12 (w1.2.2.2 x'1 Z'1 r'1 p1).2.1 (w1.2.2.2 x'1 Z'1 r'1 p1).2.2.1 w8.2.2.1 w8.2.2.2.1 w8.2.2.2.2.1 w8.2.2.2.2.2.1 w8.2.2.2.2.2.2.1 w8.2.2.2.2.2.2.2.1 (fun Z'3 p3 => V_iret (ty := .int) dX11_orderOf_50 rfl rfl (w8.2.2.2.2.2.2.2.2 Z'3 p3))))))))))))))))))))))))))))))))) (fun c1 => V_iconst dX11_orderOf_9 (V_iret (ty := .int) dX11_orderOf_10 rfl rfl ((w1.2.2.2 x'1 Z'1 r'1 p1).2.2.2.2.2 c1)))))))))
theorem dX11_same_0 : decode cX11_same 0 = .ok (.aload_n 0, 1) := by decide +kernel
theorem dX11_same_1 : decode cX11_same 1 = .ok (.iload_n 1, 1) := by decide +kernel
theorem dX11_same_2 : decode cX11_same 2 = .ok (.iload_n 2, 1) := by decide +kernel
theorem dX11_same_3 : decode cX11_same 3 = .ok (.iload_n 3, 1) := by decide +kernel
theorem dX11_same_4 : decode cX11_same 4 = .ok (.invokevirtual 258, 3) := by decide +kernel
theorem dX11_same_7 : decode cX11_same 7 = .ok (.ifCond .ne 5, 3) := by decide +kernel
theorem dX11_same_10 : decode cX11_same 10 = .ok (.iconst 0, 1) := by decide +kernel
theorem dX11_same_11 : decode cX11_same 11 = .ok (.ireturn, 1) := by decide +kernel
theorem dX11_same_12 : decode cX11_same 12 = .ok (.aload_n 0, 1) := by decide +kernel
theorem dX11_same_13 : decode cX11_same 13 = .ok (.iload_n 2, 1) := by decide +kernel
theorem dX11_same_14 : decode cX11_same 14 = .ok (.iload_n 3, 1) := by decide +kernel
theorem dX11_same_15 : decode cX11_same 15 = .ok (.invokevirtual 262, 3) := by decide +kernel
theorem dX11_same_18 : decode cX11_same 18 = .ok (.aload_n 0, 1) := by decide +kernel
theorem dX11_same_19 : decode cX11_same 19 = .ok (.getfield 95, 3) := by decide +kernel
theorem dX11_same_22 : decode cX11_same 22 = .ok (.aload_n 0, 1) := by decide +kernel
theorem dX11_same_23 : decode cX11_same 23 = .ok (.getfield 99, 3) := by decide +kernel
theorem dX11_same_26 : decode cX11_same 26 = .ok (.invokevirtual 273, 3) := by decide +kernel
theorem dX11_same_29 : decode cX11_same 29 = .ok (.ifCond .eq 34, 3) := by decide +kernel
theorem dX11_same_32 : decode cX11_same 32 = .ok (.aload_n 0, 1) := by decide +kernel
theorem dX11_same_33 : decode cX11_same 33 = .ok (.getfield 10, 3) := by decide +kernel
theorem dX11_same_36 : decode cX11_same 36 = .ok (.iconst 1, 1) := by decide +kernel
theorem dX11_same_37 : decode cX11_same 37 = .ok (.iload_n 2, 1) := by decide +kernel
theorem dX11_same_38 : decode cX11_same 38 = .ok (.invokevirtual 129, 3) := by decide +kernel
theorem dX11_same_41 : decode cX11_same 41 = .ok (.invokestatic 277, 3) := by decide +kernel
theorem dX11_same_44 : decode cX11_same 44 = .ok (.aload_n 0, 1) := by decide +kernel
theorem dX11_same_45 : decode cX11_same 45 = .ok (.getfield 10, 3) := by decide +kernel
theorem dX11_same_48 : decode cX11_same 48 = .ok (.iconst 1, 1) := by decide +kernel
theorem dX11_same_49 : decode cX11_same 49 = .ok (.iload_n 3, 1) := by decide +kernel
theorem dX11_same_50 : decode cX11_same 50 = .ok (.invokevirtual 129, 3) := by decide +kernel
theorem dX11_same_53 : decode cX11_same 53 = .ok (.invokestatic 277, 3) := by decide +kernel
theorem dX11_same_56 : decode cX11_same 56 = .ok (.if_icmp .ne 7, 3) := by decide +kernel
theorem dX11_same_59 : decode cX11_same 59 = .ok (.iconst 1, 1) := by decide +kernel
theorem dX11_same_60 : decode cX11_same 60 = .ok (.goto 4, 3) := by decide +kernel
theorem dX11_same_63 : decode cX11_same 63 = .ok (.iconst 0, 1) := by decide +kernel
theorem dX11_same_64 : decode cX11_same 64 = .ok (.ireturn, 1) := by decide +kernel
set_option maxRecDepth 20000 in
theorem b_X11_same_0 {k n : Nat} {x : Wx} {Z : Zt} {Q : Option Value → Wx → Zt → Prop} {a0 : Nat} {v1 : Int} {v2 : Int} {v3 : Int} (o_a0 : Is11 x a0)
    (h : ∃ g1 : Ab, (OI x Z a0 g1 ∧ Rg v1 ∧ Rg v2 ∧ Rg v3 ∧ (∀ (x'1 : Wx) (Z'1 : Zt) (r'1 : Int), (OI x'1 Z'1 a0 g1 ∧ Fx a0 x x'1 Z Z'1 ∧ r'1 = bI (fitB g1.nw v1 v2 && fitB g1.nw v1 v3) ∧ ((fitB g1.nw v1 v2 && fitB g1.nw v1 v3) = true → Z'1 a0 14 = v1)) → (Is11 x'1 a0 ∧ (Rg r'1 ∧ (((r'1 ≠ 0) → (∃ g2 : Ab, (∃ g3 : Nat, (∃ g4 : Nat, (∃ g5 : Nat, ((x'1.2.1 (a0 + 229) 1 = some (a0 + 41)) ∧ (x'1.2.1 (a0 + 229) 2 = some (a0 + 44)) ∧ Is11 x'1 a0 ∧ OI x'1 Z'1 a0 g2 ∧ Z'1 a0 14 = (g3 : Int) ∧ (v2 = (g4 : Int) ∧ (g4 : Int) < g2.nw.ct 1) ∧ (v3 = (g5 : Int) ∧ (g5 : Int) < g2.nw.ct 1) ∧ (∀ (Z'2 : Zt), (OI x'1 Z'2 a0 g2 ∧ Fx a0 x'1 x'1 Z'1 Z'2 ∧ Z'2 a0 14 = (g3 : Int) ∧ PrA Z'2 (a0 + 282) (g2.nw.p g3) (g2.nw.K g3 g4).1 (g2.nw.K g3 g4).2 ∧ PrA Z'2 (a0 + 287) (g2.nw.p g3) (g2.nw.K g3 g5).1 (g2.nw.K g3 g5).2) → (∃ g6 : Int, (∃ g7 : Nat → Int, (∃ g8 : Nat → Int, (∃ g9 : Nat → Int, (∃ g10 : Nat → Int, (PrA Z'2 (a0 + 282) g6 g7 g8 ∧ PrA Z'2 (a0 + 287) g6 g9 g10 ∧ g6 ≤ 13 ∧ (∀ (r1 : Int), ((r1 = 0 ∨ r1 = 1) ∧ (r1 = 1 ↔ (g7 = g9 ∧ g8 = g10))) → (Rg r1 ∧ (((r1 = 0) → (V mX11_same k n 63 [none, none, none, none] [] x'1 Z'2 Q)) ∧ ((r1 ≠ 0) → (KS x'1 ∧ KW x'1 Z'2 ∧ (0 ≤ (1 : Int) ∧ (1 : Int) < 3) ∧ Rg v2 ∧ (0 ≤ Z'2 ((a0 + 1) + 2) (Int.toNat (1 : Int)) ∧ Z'2 ((a0 + 1) + 2) (Int.toNat (1 : Int)) ≤ mstr (1 : Int)) ∧ (((rowQ (a0 + 1) (1 : Int) v2 (Z'2 ((a0 + 1) + 2) (Int.toNat (1 : Int))) = none → (False)) ∧ (∀ b1, rowQ (a0 + 1) (1 : Int) v2 (Z'2 ((a0 + 1) + 2) (Int.toNat (1 : Int))) = some b1 → (x'1.1 b1 = some (100, 26) ∧ (SumR (Z'2 b1) ∧ (Rg v3 ∧ (((rowQ (a0 + 1) (1 : Int) v3 (Z'2 ((a0 + 1) + 2) (Int.toNat (1 : Int))) = none → (False)) ∧ (∀ b2, rowQ (a0 + 1) (1 : Int) v3 (Z'2 ((a0 + 1) + 2) (Int.toNat (1 : Int))) = some b2 → (x'1.1 b2 = some (100, 26) ∧ (SumR (Z'2 b2) ∧ (Rg (sdeg (Z'2 b1) (Z'2 b1 0).toNat) ∧ Rg (sdeg (Z'2 b2) (Z'2 b2 0).toNat) ∧ (((sdeg (Z'2 b1) (Z'2 b1 0).toNat ≠ sdeg (Z'2 b2) (Z'2 b2 0).toNat) → (V mX11_same k n 63 [none, none, none, none] [] x'1 Z'2 Q)) ∧ ((sdeg (Z'2 b1) (Z'2 b1 0).toNat = sdeg (Z'2 b2) (Z'2 b2 0).toNat) → (Q (some (i_ 1)) x'1 Z'2))))))))))))))))))))))))))))))))) ∧ ((r'1 = 0) → (Q (some (i_ 0)) x'1 Z'1)))))))) :
    V mX11_same k n 0 [some (r_ a0), some (i_ v1), some (i_ v2), some (i_ v3)] [] x Z Q :=
  V_aload_n dX11_same_0 rfl (V_iload_n dX11_same_1 rfl (V_iload_n dX11_same_2 rfl (V_iload_n dX11_same_3 rfl (Exists.elim h (fun g1 w1 => V_callV (k' := 0) (n' := 0) (t := 11) (q := (RX11, TX11, 17)) [i_ v1, i_ v2, i_ v3] [] okX11_areFitting o_a0.1 rfl rfl lm_11_258 liX11_areFitting lqX11_areFitting (Nat.le_of_ble_eq_true rfl) (Nat.le_of_ble_eq_true rfl) (Nat.le_of_ble_eq_true rfl) (cat_of rfl) (Nat.le_of_ble_eq_true rfl) (Nat.zero_le _) (Nat.zero_le _) rfl dX11_same_4 (sp_X11_areFitting o_a0 w1.1 w1.2.1 w1.2.2.1 w1.2.2.2.1 (fun x'1 Z'1 r'1 p1 => V_if_ne (tgt := 12) dX11_same_7 rfl (w1.2.2.2.2 x'1 Z'1 r'1 p1).2.1 (fun c1 => V_aload_n dX11_same_12 rfl (V_iload_n dX11_same_13 rfl (V_iload_n dX11_same_14 rfl (Exists.elim ((w1.2.2.2.2 x'1 Z'1 r'1 p1).2.2.1 c1) (fun g2 w2 => Exists.elim w2 (fun g3 w3 => Exists.elim w3 (fun g4 w4 => Exists.elim w4 (fun g5 w5 => V_callV (k' := 0) (n' := 0) (t := 11) (q := (RX11, TX11, 17)) [i_ v2, i_ v3] [] okX11_takeClasses (w1.2.2.2.2 x'1 Z'1 r'1 p1).1.1 rfl rfl lm_11_262 liX11_takeClasses lqX11_takeClasses (Nat.le_of_ble_eq_true rfl) (Nat.le_of_ble_eq_true rfl) (Nat.le_of_ble_eq_true rfl) (cat_of rfl) (Nat.le_of_ble_eq_true rfl) (Nat.zero_le _) (Nat.zero_le _) rfl dX11_same_15 (sp_X11_takeClasses  w5.1 w5.2.1 w5.2.2.1 w5.2.2.2.1 w5.2.2.2.2.1 w5.2.2.2.2.2.1 w5.2.2.2.2.2.2.1 (fun Z'2 p2 => V_aload_n dX11_same_18 rfl (G_11_12 (w1.2.2.2.2 x'1 Z'1 r'1 p1).1.1 (w1.2.2.2.2 x'1 Z'1 r'1 p1).1.qR12 lf_11_95 dX11_same_19 (V_aload_n dX11_same_22 rfl (G_11_13 (w1.2.2.2.2 x'1 Z'1 r'1 p1).1.1 (w1.2.2.2.2 x'1 Z'1 r'1 p1).1.qR13 lf_11_99 dX11_same_23 (Exists.elim (w5.2.2.2.2.2.2.2 Z'2 p2) (fun g6 w6 => Exists.elim w6 (fun g7 w7 => Exists.elim w7 (fun g8 w8 => Exists.elim w8 (fun g9 w9 => Exists.elim w9 (fun g10 w10 => V_callV (k' := 0) (n' := 0) (t := 6) (q := (RX6, TX6, 2)) [r_ (a0 + 287)] [] okX6_matches (w1.2.2.2.2 x'1 Z'1 r'1 p1).1.qK12.1 rfl rfl lm_11_273 liX6_matches lqX6_matches (Nat.le_of_ble_eq_true rfl) (Nat.le_of_ble_eq_true rfl) (Nat.le_of_ble_eq_true rfl) (cat_of rfl) (Nat.le_of_ble_eq_true rfl) (Nat.zero_le _) (Nat.zero_le _) rfl dX11_same_26 (sp_X6_matches (w1.2.2.2.2 x'1 Z'1 r'1 p1).1.qK12 (w1.2.2.2.2 x'1 Z'1 r'1 p1).1.qK13 w10.1 w10.2.1 w10.2.2.1 (fun r1 p3 => V_if_eq (tgt := 63) dX11_same_29 rfl (w10.2.2.2 r1 p3).1 (fun c2 => V_msk [false, false, false, false] rfl ((w10.2.2.2 r1 p3).2.1 c2)) (fun c2 => V_aload_n dX11_same_32 rfl (G_11_0 (w1.2.2.2.2 x'1 Z'1 r'1 p1).1.1 (w1.2.2.2.2 x'1 Z'1 r'1 p1).1.qR0 lf_11_10 dX11_same_33 (V_iconst dX11_same_36 (V_iload_n dX11_same_37 rfl (V_callV (k' := 0) (n' := 0) (t := 10) (q := (RX10, TX10, 6)) [i_ 1, i_ v2] [] okX10_row (w1.2.2.2.2 x'1 Z'1 r'1 p1).1.qK0.1 rfl rfl lm_11_129 liX10_row lqX10_row (Nat.le_of_ble_eq_true rfl) (Nat.le_of_ble_eq_true rfl) (Nat.le_of_ble_eq_true rfl) (cat_of rfl) (Nat.le_of_ble_eq_true rfl) (Nat.zero_le _) (Nat.zero_le _) rfl dX11_same_38 (sp_X10_row2 (w1.2.2.2.2 x'1 Z'1 r'1 p1).1.qK0 ((w10.2.2.2 r1 p3).2.2 c2).1 ((w10.2.2.2 r1 p3).2.2 c2).2.1 ((w10.2.2.2 r1 p3).2.2 c2).2.2.1 ((w10.2.2.2 r1 p3).2.2 c2).2.2.2.1 ((w10.2.2.2 r1 p3).2.2 c2).2.2.2.2.1 (V_q (fun c3 => (False.elim (((w10.2.2.2 r1 p3).2.2 c2).2.2.2.2.2.1 c3))) (fun b1 c4 => have s1 := (((w10.2.2.2 r1 p3).2.2 c2).2.2.2.2.2.2 b1 c4).1; V_callS (k' := 0) (n' := 0) [r_ b1] [] okX10_degreeOf lm_11_277 lsX10_degreeOf (Nat.le_of_ble_eq_true rfl) (Nat.le_of_ble_eq_true rfl) (Nat.le_of_ble_eq_true rfl) (cat_of rfl) (Nat.le_of_ble_eq_true rfl) (Nat.zero_le _) (Nat.zero_le _) rfl dX11_same_41 (sp_X10_degreeOf s1 (((w10.2.2.2 r1 p3).2.2 c2).2.2.2.2.2.2 b1 c4).2.1 (V_aload_n dX11_same_44 rfl (G_11_0 (w1.2.2.2.2 x'1 Z'1 r'1 p1).1.1 (w1.2.2.2.2 x'1 Z'1 r'1 p1).1.qR0 lf_11_10 dX11_same_45 (V_iconst dX11_same_48 (V_iload_n dX11_same_49 rfl (V_callV (k' := 0) (n' := 0) (t := 10) (q := (RX10, TX10, 6)) [i_ 1, i_ v3] [i_ (sdeg (Z'2 b1) (Z'2 b1 0).toNat)] okX10_row (w1.2.2.2.2 x'1 Z'1 r'1 p1).1.qK0.1 rfl rfl lm_11_129 liX10_row lqX10_row (Nat.le_of_ble_eq_true rfl) (Nat.le_of_ble_eq_true rfl) (Nat.le_of_ble_eq_true rfl) (cat_of rfl) (Nat.le_of_ble_eq_true rfl) (Nat.zero_le _) (Nat.zero_le _) rfl dX11_same_50 (sp_X10_row2 (w1.2.2.2.2 x'1 Z'1 r'1 p1).1.qK0 ((w10.2.2.2 r1 p3).2.2 c2).1 ((w10.2.2.2 r1 p3).2.2 c2).2.1 ((w10.2.2.2 r1 p3).2.2 c2).2.2.1 (((w10.2.2.2 r1 p3).2.2 c2).2.2.2.2.2.2 b1 c4).2.2.1 ((w10.2.2.2 r1 p3).2.2 c2).2.2.2.2.1 (V_q (fun c5 => (False.elim ((((w10.2.2.2 r1 p3).2.2 c2).2.2.2.2.2.2 b1 c4).2.2.2.1 c5))) (fun b2 c6 => have s2 := ((((w10.2.2.2 r1 p3).2.2 c2).2.2.2.2.2.2 b1 c4).2.2.2.2 b2 c6).1; V_callS (k' := 0) (n' := 0) [r_ b2] [i_ (sdeg (Z'2 b1) (Z'2 b1 0).toNat)] okX10_degreeOf lm_11_277 lsX10_degreeOf (Nat.le_of_ble_eq_true rfl) (Nat.le_of_ble_eq_true rfl) (Nat.le_of_ble_eq_true rfl) (cat_of rfl) (Nat.le_of_ble_eq_true rfl) (Nat.zero_le _) (Nat.zero_le _) rfl dX11_same_53 (sp_X10_degreeOf s2 ((((w10.2.2.2 r1 p3).2.2 c2).2.2.2.2.2.2 b1 c4).2.2.2.2 b2 c6).2.1 (V_icmp_ne (tgt := 63) dX11_same_56 rfl ((((w10.2.2.2 r1 p3).2.2 c2).2.2.2.2.2.2 b1 c4).2.2.2.2 b2 c6).2.2.1 ((((w10.2.2.2 r1 p3).2.2 c2).2.2.2.2.2.2 b1 c4).2.2.2.2 b2 c6).2.2.2.1 (fun c7 => V_msk [false, false, false, false] rfl (((((w10.2.2.2 r1 p3).2.2 c2).2.2.2.2.2.2 b1 c4).2.2.2.2 b2 c6).2.2.2.2.1 c7)) (fun c7 => V_iconst dX11_same_59 (V_goto (tgt := 64) dX11_same_60 rfl (V_iret (ty := .boolean) dX11_same_64 rfl rfl (((((w10.2.2.2 r1 p3).2.2 c2).2.2.2.2.2.2 b1 c4).2.2.2.2 b2 c6).2.2.2.2.2 c7)))))))))))))))))))))))))))))))))))))))))))) (fun c1 => V_iconst dX11_same_10 (V_iret (ty := .boolean) dX11_same_11 rfl rfl ((w1.2.2.2.2 x'1 Z'1 r'1 p1).2.2.2 c1))))))))))
set_option maxRecDepth 20000 in
theorem b_X11_same_63 {k n : Nat} {x : Wx} {Z : Zt} {Q : Option Value → Wx → Zt → Prop}  
    (h : Q (some (i_ 0)) x Z) :
    V mX11_same k n 63 [none, none, none, none] [] x Z Q :=
  V_iconst dX11_same_63 (V_iret (ty := .boolean) dX11_same_64 rfl rfl h)
theorem dX11_log_0 : decode cX11_log 0 = .ok (.aload_n 0, 1) := by decide +kernel
theorem dX11_log_1 : decode cX11_log 1 = .ok (.iload_n 1, 1) := by decide +kernel
theorem dX11_log_2 : decode cX11_log 2 = .ok (.iload_n 2, 1) := by decide +kernel
theorem dX11_log_3 : decode cX11_log 3 = .ok (.iload_n 3, 1) := by decide +kernel
theorem dX11_log_4 : decode cX11_log 4 = .ok (.invokevirtual 258, 3) := by decide +kernel
theorem dX11_log_7 : decode cX11_log 7 = .ok (.ifCond .ne 5, 3) := by decide +kernel
theorem dX11_log_10 : decode cX11_log 10 = .ok (.iconst (-1), 1) := by decide +kernel
theorem dX11_log_11 : decode cX11_log 11 = .ok (.ireturn, 1) := by decide +kernel
theorem dX11_log_12 : decode cX11_log 12 = .ok (.aload_n 0, 1) := by decide +kernel
theorem dX11_log_13 : decode cX11_log 13 = .ok (.iload_n 2, 1) := by decide +kernel
theorem dX11_log_14 : decode cX11_log 14 = .ok (.iload_n 3, 1) := by decide +kernel
theorem dX11_log_15 : decode cX11_log 15 = .ok (.invokevirtual 262, 3) := by decide +kernel
theorem dX11_log_18 : decode cX11_log 18 = .ok (.aload_n 0, 1) := by decide +kernel
theorem dX11_log_19 : decode cX11_log 19 = .ok (.getfield 88, 3) := by decide +kernel
theorem dX11_log_22 : decode cX11_log 22 = .ok (.aload_n 0, 1) := by decide +kernel
theorem dX11_log_23 : decode cX11_log 23 = .ok (.getfield 95, 3) := by decide +kernel
theorem dX11_log_26 : decode cX11_log 26 = .ok (.aload_n 0, 1) := by decide +kernel
theorem dX11_log_27 : decode cX11_log 27 = .ok (.getfield 99, 3) := by decide +kernel
theorem dX11_log_30 : decode cX11_log 30 = .ok (.aload_n 0, 1) := by decide +kernel
theorem dX11_log_31 : decode cX11_log 31 = .ok (.getfield 60, 3) := by decide +kernel
theorem dX11_log_34 : decode cX11_log 34 = .ok (.iconst 1, 1) := by decide +kernel
theorem dX11_log_35 : decode cX11_log 35 = .ok (.invokevirtual 178, 3) := by decide +kernel
theorem dX11_log_38 : decode cX11_log 38 = .ok (.invokevirtual 281, 3) := by decide +kernel
theorem dX11_log_41 : decode cX11_log 41 = .ok (.ireturn, 1) := by decide +kernel
set_option maxRecDepth 20000 in
theorem b_X11_log_0 {k n : Nat} {x : Wx} {Z : Zt} {Q : Option Value → Wx → Zt → Prop} {a0 : Nat} {v1 : Int} {v2 : Int} {v3 : Int} (o_a0 : Is11 x a0)
    (h : ∃ g1 : Ab, (OI x Z a0 g1 ∧ Rg v1 ∧ Rg v2 ∧ Rg v3 ∧ (∀ (x'1 : Wx) (Z'1 : Zt) (r'1 : Int), (OI x'1 Z'1 a0 g1 ∧ Fx a0 x x'1 Z Z'1 ∧ r'1 = bI (fitB g1.nw v1 v2 && fitB g1.nw v1 v3) ∧ ((fitB g1.nw v1 v2 && fitB g1.nw v1 v3) = true → Z'1 a0 14 = v1)) → (Is11 x'1 a0 ∧ Is4 x'1 (a0 + 41) ∧ Is7 x'1 (a0 + 44) ∧ (Rg r'1 ∧ (((r'1 ≠ 0) → (∃ g2 : Ab, (∃ g3 : Nat, (∃ g4 : Nat, (∃ g5 : Nat, ((x'1.2.1 (a0 + 229) 1 = some (a0 + 41)) ∧ (x'1.2.1 (a0 + 229) 2 = some (a0 + 44)) ∧ Is11 x'1 a0 ∧ OI x'1 Z'1 a0 g2 ∧ Z'1 a0 14 = (g3 : Int) ∧ (v2 = (g4 : Int) ∧ (g4 : Int) < g2.nw.ct 1) ∧ (v3 = (g5 : Int) ∧ (g5 : Int) < g2.nw.ct 1) ∧ (∀ (Z'2 : Zt), (OI x'1 Z'2 a0 g2 ∧ Fx a0 x'1 x'1 Z'1 Z'2 ∧ Z'2 a0 14 = (g3 : Int) ∧ PrA Z'2 (a0 + 282) (g2.nw.p g3) (g2.nw.K g3 g4).1 (g2.nw.K g3 g4).2 ∧ PrA Z'2 (a0 + 287) (g2.nw.p g3) (g2.nw.K g3 g5).1 (g2.nw.K g3 g5).2) → ((1 ≤ Z'2 (a0 + 40) 2 ∧ Z'2 (a0 + 40) 2 ≤ 2) ∧ (∃ g6 : Int, (∃ g7 : Int, (∃ g8 : Nat → Int, (∃ g9 : UV, (∃ g10 : UV, ((x'1.2.1 (a0 + 229) 1 = some (a0 + 41)) ∧ (x'1.2.1 (a0 + 229) 2 = some (a0 + 44)) ∧ ((a0 + 41) + 2 < (a0 + 229) ∧ (a0 + 44) + 1 < (a0 + 229)) ∧ CZ Z'2 (a0 + 229) (a0 + 41) (a0 + 44) g6 g7 g8 ∧ RP g6 g7 g9 ∧ RP g6 g7 g10 ∧ PrA Z'2 (a0 + 282) g6 g9.1 g9.2 ∧ PrA Z'2 (a0 + 287) g6 g10.1 g10.2 ∧ (-10000 ≤ (shA (Z'2 ((a0 + 40) + 8)) (1 : Int) (2 * Z'2 (a0 + 40) 2 + 1).toNat 0) ∧ (shA (Z'2 ((a0 + 40) + 8)) (1 : Int) (2 * Z'2 (a0 + 40) 2 + 1).toNat 0) ≤ 10000) ∧ (a0 + 229) + 50 ≤ (a0 + 282) ∧ (a0 + 229) + 50 ≤ (a0 + 287) ∧ (∀ (Z'3 : Zt), (Oth Z'2 Z'3 (fun q => (a0 + 229) + 6 < q ∧ q ≤ (a0 + 229) + 49)) → (Q (some (i_ (logF g6 g8 g7 g9 g10 (Int.toNat (shA (Z'2 ((a0 + 40) + 8)) (1 : Int) (2 * Z'2 (a0 + 40) 2 + 1).toNat 0)) 0 czero))) x'1 Z'3)))))))))))))))) ∧ ((r'1 = 0) → (Q (some (i_ (-1))) x'1 Z'1)))))))) :
    V mX11_log k n 0 [some (r_ a0), some (i_ v1), some (i_ v2), some (i_ v3)] [] x Z Q :=
  V_aload_n dX11_log_0 rfl (V_iload_n dX11_log_1 rfl (V_iload_n dX11_log_2 rfl (V_iload_n dX11_log_3 rfl (Exists.elim h (fun g1 w1 => V_callV (k' := 0) (n' := 0) (t := 11) (q := (RX11, TX11, 17)) [i_ v1, i_ v2, i_ v3] [] okX11_areFitting o_a0.1 rfl rfl lm_11_258 liX11_areFitting lqX11_areFitting (Nat.le_of_ble_eq_true rfl) (Nat.le_of_ble_eq_true rfl) (Nat.le_of_ble_eq_true rfl) (cat_of rfl) (Nat.le_of_ble_eq_true rfl) (Nat.zero_le _) (Nat.zero_le _) rfl dX11_log_4 (sp_X11_areFitting o_a0 w1.1 w1.2.1 w1.2.2.1 w1.2.2.2.1 (fun x'1 Z'1 r'1 p1 => V_if_ne (tgt := 12) dX11_log_7 rfl (w1.2.2.2.2 x'1 Z'1 r'1 p1).2.2.2.1 (fun c1 => V_aload_n dX11_log_12 rfl (V_iload_n dX11_log_13 rfl (V_iload_n dX11_log_14 rfl (Exists.elim ((w1.2.2.2.2 x'1 Z'1 r'1 p1).2.2.2.2.1 c1) (fun g2 w2 => Exists.elim w2 (fun g3 w3 => Exists.elim w3 (fun g4 w4 => Exists.elim w4 (fun g5 w5 => V_callV (k' := 0) (n' := 0) (t := 11) (q := (RX11, TX11, 17)) [i_ v2, i_ v3] [] okX11_takeClasses (w1.2.2.2.2 x'1 Z'1 r'1 p1).1.1 rfl rfl lm_11_262 liX11_takeClasses lqX11_takeClasses (Nat.le_of_ble_eq_true rfl) (Nat.le_of_ble_eq_true rfl) (Nat.le_of_ble_eq_true rfl) (cat_of rfl) (Nat.le_of_ble_eq_true rfl) (Nat.zero_le _) (Nat.zero_le _) rfl dX11_log_15 (sp_X11_takeClasses  w5.1 w5.2.1 w5.2.2.1 w5.2.2.2.1 w5.2.2.2.2.1 w5.2.2.2.2.2.1 w5.2.2.2.2.2.2.1 (fun Z'2 p2 => V_aload_n dX11_log_18 rfl (G_11_11 (w1.2.2.2.2 x'1 Z'1 r'1 p1).1.1 (w1.2.2.2.2 x'1 Z'1 r'1 p1).1.qR11 lf_11_88 dX11_log_19 (V_aload_n dX11_log_22 rfl (G_11_12 (w1.2.2.2.2 x'1 Z'1 r'1 p1).1.1 (w1.2.2.2.2 x'1 Z'1 r'1 p1).1.qR12 lf_11_95 dX11_log_23 (V_aload_n dX11_log_26 rfl (G_11_13 (w1.2.2.2.2 x'1 Z'1 r'1 p1).1.1 (w1.2.2.2.2 x'1 Z'1 r'1 p1).1.qR13 lf_11_99 dX11_log_27 (V_aload_n dX11_log_30 rfl (G_11_7 (w1.2.2.2.2 x'1 Z'1 r'1 p1).1.1 (w1.2.2.2.2 x'1 Z'1 r'1 p1).1.qR7 lf_11_60 dX11_log_31 (V_iconst dX11_log_34 (V_callV (k' := 0) (n' := 0) (t := 2) (q := (RX2, TX2, 17)) [i_ 1] [r_ (a0 + 287), r_ (a0 + 282), r_ (a0 + 229)] okX2_shareAt (w1.2.2.2.2 x'1 Z'1 r'1 p1).1.qK7.1 rfl rfl lm_11_178 liX2_shareAt lqX2_shareAt (Nat.le_of_ble_eq_true rfl) (Nat.le_of_ble_eq_true rfl) (Nat.le_of_ble_eq_true rfl) (cat_of rfl) (Nat.le_of_ble_eq_true rfl) (Nat.zero_le _) (Nat.zero_le _) rfl dX11_log_35 (sp_X2_shareAt (w1.2.2.2.2 x'1 Z'1 r'1 p1).1.qK7 (w5.2.2.2.2.2.2.2 Z'2 p2).1 (Exists.elim (w5.2.2.2.2.2.2.2 Z'2 p2).2 (fun g6 w6 => Exists.elim w6 (fun g7 w7 => Exists.elim w7 (fun g8 w8 => Exists.elim w8 (fun g9 w9 => Exists.elim w9 (fun g10 w10 => V_callV (k' := 0) (n' := 0) (t := 0) (q := (RX0, TX0, 18)) [r_ (a0 + 282), r_ (a0 + 287), i_ (shA (Z'2 ((a0 + 40) + 8)) (1 : Int) (2 * Z'2 (a0 + 40) 2 + 1).toNat 0)] [] okX0_logOf (w1.2.2.2.2 x'1 Z'1 r'1 p1).1.qK11.1 rfl rfl lm_11_281 liX0_logOf lqX0_logOf (Nat.le_of_ble_eq_true rfl) (Nat.le_of_ble_eq_true rfl) (Nat.le_of_ble_eq_true rfl) (cat_of rfl) (Nat.le_of_ble_eq_true rfl) (Nat.zero_le _) (Nat.zero_le _) rfl dX11_log_38 (w_X0_logOf w10.1 w10.2.1 (w1.2.2.2.2 x'1 Z'1 r'1 p1).1.qK11 (w1.2.2.2.2 x'1 Z'1 r'1 p1).1.qK12 (w1.2.2.2.2 x'1 Z'1 r'1 p1).1.qK13 (w1.2.2.2.2 x'1 Z'1 r'1 p1).2.1 (w1.2.2.2.2 x'1 Z'1 r'1 p1).2.2.1 w10.2.2.1 w10.2.2.2.1 w10.2.2.2.2.1 w10.2.2.2.2.2.1 w10.2.2.2.2.2.2.1 w10.2.2.2.2.2.2.2.1 w10.2.2.2.2.2.2.2.2.1 w10.2.2.2.2.2.2.2.2.2.1 w10.2.2.2.2.2.2.2.2.2.2.1 (fun Z'3 p3 => V_iret (ty := .int) dX11_log_41 rfl rfl (w10.2.2.2.2.2.2.2.2.2.2.2 Z'3 p3))))))))))))))))))))))))))))) (fun c1 => V_iconst dX11_log_10 (V_iret (ty := .int) dX11_log_11 rfl rfl ((w1.2.2.2.2 x'1 Z'1 r'1 p1).2.2.2.2.2 c1))))))))))
theorem dX11_torsion_0 : decode cX11_torsion 0 = .ok (.iload_n 2, 1) := by decide +kernel
theorem dX11_torsion_1 : decode cX11_torsion 1 = .ok (.ifCond .lt 17, 3) := by decide +kernel
theorem dX11_torsion_4 : decode cX11_torsion 4 = .ok (.iload_n 2, 1) := by decide +kernel
theorem dX11_torsion_5 : decode cX11_torsion 5 = .ok (.bipush 99, 2) := by decide +kernel
theorem dX11_torsion_7 : decode cX11_torsion 7 = .ok (.if_icmp .gt 11, 3) := by decide +kernel
theorem dX11_torsion_10 : decode cX11_torsion 10 = .ok (.aload_n 0, 1) := by decide +kernel
theorem dX11_torsion_11 : decode cX11_torsion 11 = .ok (.iload_n 1, 1) := by decide +kernel
theorem dX11_torsion_12 : decode cX11_torsion 12 = .ok (.invokevirtual 152, 3) := by decide +kernel
theorem dX11_torsion_15 : decode cX11_torsion 15 = .ok (.ifCond .ne 5, 3) := by decide +kernel
theorem dX11_torsion_18 : decode cX11_torsion 18 = .ok (.iconst (-1), 1) := by decide +kernel
theorem dX11_torsion_19 : decode cX11_torsion 19 = .ok (.ireturn, 1) := by decide +kernel
theorem dX11_torsion_20 : decode cX11_torsion 20 = .ok (.aload_n 0, 1) := by decide +kernel
theorem dX11_torsion_21 : decode cX11_torsion 21 = .ok (.getfield 88, 3) := by decide +kernel
theorem dX11_torsion_24 : decode cX11_torsion 24 = .ok (.getfield 285, 3) := by decide +kernel
theorem dX11_torsion_27 : decode cX11_torsion 27 = .ok (.ifCond .ne 14, 3) := by decide +kernel
theorem dX11_torsion_30 : decode cX11_torsion 30 = .ok (.aload_n 0, 1) := by decide +kernel
theorem dX11_torsion_31 : decode cX11_torsion 31 = .ok (.getfield 88, 3) := by decide +kernel
theorem dX11_torsion_34 : decode cX11_torsion 34 = .ok (.aload_n 0, 1) := by decide +kernel
theorem dX11_torsion_35 : decode cX11_torsion 35 = .ok (.getfield 60, 3) := by decide +kernel
theorem dX11_torsion_38 : decode cX11_torsion 38 = .ok (.invokevirtual 289, 3) := by decide +kernel
theorem dX11_torsion_41 : decode cX11_torsion 41 = .ok (.iload_n 2, 1) := by decide +kernel
theorem dX11_torsion_42 : decode cX11_torsion 42 = .ok (.ifCond .ne 13, 3) := by decide +kernel
theorem dX11_torsion_45 : decode cX11_torsion 45 = .ok (.aload_n 0, 1) := by decide +kernel
theorem dX11_torsion_46 : decode cX11_torsion 46 = .ok (.getfield 88, 3) := by decide +kernel
theorem dX11_torsion_49 : decode cX11_torsion 49 = .ok (.invokevirtual 293, 3) := by decide +kernel
theorem dX11_torsion_52 : decode cX11_torsion 52 = .ok (.goto 11, 3) := by decide +kernel
theorem dX11_torsion_55 : decode cX11_torsion 55 = .ok (.aload_n 0, 1) := by decide +kernel
theorem dX11_torsion_56 : decode cX11_torsion 56 = .ok (.getfield 88, 3) := by decide +kernel
theorem dX11_torsion_59 : decode cX11_torsion 59 = .ok (.iload_n 2, 1) := by decide +kernel
theorem dX11_torsion_60 : decode cX11_torsion 60 = .ok (.invokevirtual 296, 3) := by decide +kernel
theorem dX11_torsion_63 : decode cX11_torsion 63 = .ok (.ireturn, 1) := by decide +kernel
set_option maxRecDepth 20000 in
theorem b_X11_torsion_0 {k n : Nat} {x : Wx} {Z : Zt} {Q : Option Value → Wx → Zt → Prop} {a0 : Nat} {v1 : Int} {v2 : Int} (o_a0 : Is11 x a0)
    (h : Rg v2 ∧ (((v2 < 0) → (V mX11_torsion k n 18 [none, none, none] [] x Z Q)) ∧ ((0 ≤ v2) → (((99 < v2) → (V mX11_torsion k n 18 [none, none, none] [] x Z Q)) ∧ ((v2 ≤ 99) → (∃ g1 : Ab, (OI x Z a0 g1 ∧ Rg v1 ∧ (∀ (x'1 : Wx) (Z'1 : Zt) (r'1 : Int), (OI x'1 Z'1 a0 g1 ∧ Fx a0 x x'1 Z Z'1 ∧ r'1 = bI (decide (0 ≤ v1 ∧ v1 < g1.nw.ct 0)) ∧ ((0 ≤ v1 ∧ v1 < g1.nw.ct 0) → Z'1 a0 14 = v1)) → (Is11 x'1 a0 ∧ Is4 x'1 (a0 + 41) ∧ Is7 x'1 (a0 + 44) ∧ (Rg r'1 ∧ (((r'1 ≠ 0) → (Rg (Z'1 (a0 + 229) 0) ∧ (((Z'1 (a0 + 229) 0 ≠ 0) → (V mX11_torsion k n 41 [some (r_ a0), none, some (i_ v2)] [] x'1 Z'1 Q)) ∧ ((Z'1 (a0 + 229) 0 = 0) → (∃ g2 : Int, (∃ g3 : Int, (∃ g4 : Nat → Int, ((x'1.2.1 (a0 + 229) 1 = some (a0 + 41)) ∧ (x'1.2.1 (a0 + 229) 2 = some (a0 + 44)) ∧ ((a0 + 41) + 2 < (a0 + 229) ∧ (a0 + 44) + 1 < (a0 + 229)) ∧ (a0 + 40) + 16 ≤ (a0 + 229) ∧ CZ Z'1 (a0 + 229) (a0 + 41) (a0 + 44) g2 g3 g4 ∧ PtA Z'1 (a0 + 40) (pall g2 g4) ∧ (∀ (Z'2 : Zt), (LsA Z'2 (a0 + 229) g2 g4 g3 ∧ Z'2 (a0 + 229) 0 = 1 ∧ (∀ i : Nat, i ≠ 0 → i ≠ 14 → Z'2 (a0 + 229) i = Z'1 (a0 + 229) i) ∧ Oth Z'1 Z'2 (fun b => b = (a0 + 229) ∨ ((a0 + 229) + 6 < b ∧ b < (a0 + 229) + 53))) → (V mX11_torsion k n 41 [some (r_ a0), none, some (i_ v2)] [] x'1 Z'2 Q)))))))))) ∧ ((r'1 = 0) → (V mX11_torsion k n 18 [none, none, none] [] x'1 Z'1 Q))))))))))))) :
    V mX11_torsion k n 0 [some (r_ a0), some (i_ v1), some (i_ v2)] [] x Z Q :=
  V_iload_n dX11_torsion_0 rfl (V_if_lt (tgt := 18) dX11_torsion_1 rfl h.1 (fun c1 => V_msk [false, false, false] rfl (h.2.1 c1)) (fun c1 => V_iload_n dX11_torsion_4 rfl (V_bipush dX11_torsion_5 rfl (V_icmp_gt (tgt := 18) dX11_torsion_7 rfl h.1 (rg_c rfl) (fun c2 => V_msk [false, false, false] rfl ((h.2.2 c1).1 c2)) (fun c2 => V_aload_n dX11_torsion_10 rfl (V_iload_n dX11_torsion_11 rfl (Exists.elim ((h.2.2 c1).2 c2) (fun g1 w1 => V_callV (k' := 0) (n' := 0) (t := 11) (q := (RX11, TX11, 17)) [i_ v1] [] okX11_isReady o_a0.1 rfl rfl lm_11_152 liX11_isReady lqX11_isReady (Nat.le_of_ble_eq_true rfl) (Nat.le_of_ble_eq_true rfl) (Nat.le_of_ble_eq_true rfl) (cat_of rfl) (Nat.le_of_ble_eq_true rfl) (Nat.zero_le _) (Nat.zero_le _) rfl dX11_torsion_12 (sp_X11_isReady o_a0 w1.1 w1.2.1 (fun x'1 Z'1 r'1 p1 => V_if_ne (tgt := 20) dX11_torsion_15 rfl (w1.2.2 x'1 Z'1 r'1 p1).2.2.2.1 (fun c3 => V_aload_n dX11_torsion_20 rfl (G_11_11 (w1.2.2 x'1 Z'1 r'1 p1).1.1 (w1.2.2 x'1 Z'1 r'1 p1).1.qR11 lf_11_88 dX11_torsion_21 (G_0_0 (w1.2.2 x'1 Z'1 r'1 p1).1.qK11.1 lf_11_285 dX11_torsion_24 (V_if_ne (tgt := 41) dX11_torsion_27 rfl ((w1.2.2 x'1 Z'1 r'1 p1).2.2.2.2.1 c3).1 (fun c4 => V_msk [true, false, true] rfl (((w1.2.2 x'1 Z'1 r'1 p1).2.2.2.2.1 c3).2.1 c4)) (fun c4 => V_aload_n dX11_torsion_30 rfl (G_11_11 (w1.2.2 x'1 Z'1 r'1 p1).1.1 (w1.2.2 x'1 Z'1 r'1 p1).1.qR11 lf_11_88 dX11_torsion_31 (V_aload_n dX11_torsion_34 rfl (G_11_7 (w1.2.2 x'1 Z'1 r'1 p1).1.1 (w1.2.2 x'1 Z'1 r'1 p1).1.qR7 lf_11_60 dX11_torsion_35 (Exists.elim (((w1.2.2 x'1 Z'1 r'1 p1).2.2.2.2.1 c3).2.2 c4) (fun g2 w2 => Exists.elim w2 (fun g3 w3 => Exists.elim w3 (fun g4 w4 => V_callV (k' := 0) (n' := 0) (t := 0) (q := (RX0, TX0, 18)) [r_ (a0 + 40)] [] okX0_list (w1.2.2 x'1 Z'1 r'1 p1).1.qK11.1 rfl rfl lm_11_289 liX0_list lqX0_list (Nat.le_of_ble_eq_true rfl) (Nat.le_of_ble_eq_true rfl) (Nat.le_of_ble_eq_true rfl) (cat_of rfl) (Nat.le_of_ble_eq_true rfl) (Nat.zero_le _) (Nat.zero_le _) rfl dX11_torsion_38 (sp_X0_list w4.1 w4.2.1 (w1.2.2 x'1 Z'1 r'1 p1).1.qK11 (w1.2.2 x'1 Z'1 r'1 p1).1.qK7 (w1.2.2 x'1 Z'1 r'1 p1).2.1 (w1.2.2 x'1 Z'1 r'1 p1).2.2.1 w4.2.2.1 w4.2.2.2.1 w4.2.2.2.2.1 w4.2.2.2.2.2.1 (fun Z'2 p2 => V_msk [true, false, true] rfl (w4.2.2.2.2.2.2 Z'2 p2))))))))))))))) (fun c3 => V_msk [false, false, false] rfl ((w1.2.2 x'1 Z'1 r'1 p1).2.2.2.2.2 c3))))))))))))
set_option maxRecDepth 20000 in
theorem b_X11_torsion_18 {k n : Nat} {x : Wx} {Z : Zt} {Q : Option Value → Wx → Zt → Prop}  
    (h : Q (some (i_ (-1))) x Z) :
    V mX11_torsion k n 18 [none, none, none] [] x Z Q :=
  V_iconst dX11_torsion_18 (V_iret (ty := .int) dX11_torsion_19 rfl rfl h)
set_option maxRecDepth 20000 in
theorem b_X11_torsion_41 {k n : Nat} {x : Wx} {Z : Zt} {Q : Option Value → Wx → Zt → Prop} {a0 : Nat} {v2 : Int} (o_a0 : Is11 x a0)
    (h : Rg v2 ∧ (((v2 ≠ 0) → (∃ g1 : Nat, ((Z (a0 + 229) 14 = (g1 : Int) ∧ g1 ≤ 450) ∧ (∀ i : Nat, i < g1 → 0 ≤ Z ((a0 + 229) + 51) i ∧ Z ((a0 + 229) + 51) i ≤ 1000) ∧ (0 ≤ v2 ∧ v2 ≤ 1000) ∧ (Q (some (i_ (klO (Z ((a0 + 229) + 51)) v2 g1))) x Z)))) ∧ ((v2 = 0) → (∃ g2 : Nat, ((Z (a0 + 229) 14 = (g2 : Int) ∧ g2 ≤ 450) ∧ (∀ i : Nat, i < g2 → 0 ≤ Z ((a0 + 229) + 51) i ∧ Z ((a0 + 229) + 51) i ≤ 1000) ∧ (Q (some (i_ (mxO (Z ((a0 + 229) + 51)) g2))) x Z)))))) :
    V mX11_torsion k n 41 [some (r_ a0), none, some (i_ v2)] [] x Z Q :=
  V_iload_n dX11_torsion_41 rfl (V_if_ne (tgt := 55) dX11_torsion_42 rfl h.1 (fun c1 => V_aload_n dX11_torsion_55 rfl (G_11_11 o_a0.1 o_a0.qR11 lf_11_88 dX11_torsion_56 (V_iload_n dX11_torsion_59 rfl (Exists.elim (h.2.1 c1) (fun g1 w1 => V_callV (k' := 0) (n' := 0) (t := 0) (q := (RX0, TX0, 18)) [i_ v2] [] okX0_killedBy o_a0.qK11.1 rfl rfl lm_11_296 liX0_killedBy lqX0_killedBy (Nat.le_of_ble_eq_true rfl) (Nat.le_of_ble_eq_true rfl) (Nat.le_of_ble_eq_true rfl) (cat_of rfl) (Nat.le_of_ble_eq_true rfl) (Nat.zero_le _) (Nat.zero_le _) rfl dX11_torsion_60 (sp_X0_killedBy o_a0.qK11 w1.1 w1.2.1 w1.2.2.1 (V_iret (ty := .int) dX11_torsion_63 rfl rfl w1.2.2.2))))))) (fun c1 => V_aload_n dX11_torsion_45 rfl (G_11_11 o_a0.1 o_a0.qR11 lf_11_88 dX11_torsion_46 (Exists.elim (h.2.2 c1) (fun g2 w2 => V_callV (k' := 0) (n' := 0) (t := 0) (q := (RX0, TX0, 18)) [] [] okX0_greatestOrder o_a0.qK11.1 rfl rfl lm_11_293 liX0_greatestOrder lqX0_greatestOrder (Nat.le_of_ble_eq_true rfl) (Nat.le_of_ble_eq_true rfl) (Nat.le_of_ble_eq_true rfl) (cat_of rfl) (Nat.le_of_ble_eq_true rfl) (Nat.zero_le _) (Nat.zero_le _) rfl dX11_torsion_49 (sp_X0_greatestOrder o_a0.qK11 w2.1 w2.2.1 (V_goto (tgt := 63) dX11_torsion_52 rfl (V_iret (ty := .int) dX11_torsion_63 rfl rfl w2.2.2))))))))
theorem dX11_change_0 : decode cX11_change 0 = .ok (.iload_n 2, 1) := by decide +kernel
theorem dX11_change_1 : decode cX11_change 1 = .ok (.iconst (-1), 1) := by decide +kernel
theorem dX11_change_2 : decode cX11_change 2 = .ok (.if_icmp .lt 29, 3) := by decide +kernel
theorem dX11_change_5 : decode cX11_change 5 = .ok (.iload_n 3, 1) := by decide +kernel
theorem dX11_change_6 : decode cX11_change 6 = .ok (.ifCond .lt 25, 3) := by decide +kernel
theorem dX11_change_9 : decode cX11_change 9 = .ok (.iload_n 3, 1) := by decide +kernel
theorem dX11_change_10 : decode cX11_change 10 = .ok (.iconst 2, 1) := by decide +kernel
theorem dX11_change_11 : decode cX11_change 11 = .ok (.if_icmp .gt 20, 3) := by decide +kernel
theorem dX11_change_14 : decode cX11_change 14 = .ok (.iload_n 2, 1) := by decide +kernel
theorem dX11_change_15 : decode cX11_change 15 = .ok (.iconst (-1), 1) := by decide +kernel
theorem dX11_change_16 : decode cX11_change 16 = .ok (.if_icmp .ne 7, 3) := by decide +kernel
theorem dX11_change_19 : decode cX11_change 19 = .ok (.iload_n 3, 1) := by decide +kernel
theorem dX11_change_20 : decode cX11_change 20 = .ok (.ifCond .ne 11, 3) := by decide +kernel
theorem dX11_change_23 : decode cX11_change 23 = .ok (.aload_n 0, 1) := by decide +kernel
theorem dX11_change_24 : decode cX11_change 24 = .ok (.iload_n 1, 1) := by decide +kernel
theorem dX11_change_25 : decode cX11_change 25 = .ok (.invokevirtual 152, 3) := by decide +kernel
theorem dX11_change_28 : decode cX11_change 28 = .ok (.ifCond .ne 5, 3) := by decide +kernel
theorem dX11_change_31 : decode cX11_change 31 = .ok (.iconst (-1), 1) := by decide +kernel
theorem dX11_change_32 : decode cX11_change 32 = .ok (.ireturn, 1) := by decide +kernel
theorem dX11_change_33 : decode cX11_change 33 = .ok (.aload_n 0, 1) := by decide +kernel
theorem dX11_change_34 : decode cX11_change 34 = .ok (.getfield 60, 3) := by decide +kernel
theorem dX11_change_37 : decode cX11_change 37 = .ok (.aload_n 0, 1) := by decide +kernel
theorem dX11_change_38 : decode cX11_change 38 = .ok (.getfield 60, 3) := by decide +kernel
theorem dX11_change_41 : decode cX11_change 41 = .ok (.getfield 162, 3) := by decide +kernel
theorem dX11_change_44 : decode cX11_change 44 = .ok (.iload_n 2, 1) := by decide +kernel
theorem dX11_change_45 : decode cX11_change 45 = .ok (.invokevirtual 299, 3) := by decide +kernel
theorem dX11_change_48 : decode cX11_change 48 = .ok (.istore 4, 2) := by decide +kernel
theorem dX11_change_50 : decode cX11_change 50 = .ok (.iload_n 2, 1) := by decide +kernel
theorem dX11_change_51 : decode cX11_change 51 = .ok (.iconst (-1), 1) := by decide +kernel
theorem dX11_change_52 : decode cX11_change 52 = .ok (.if_icmp .ne 6, 3) := by decide +kernel
theorem dX11_change_55 : decode cX11_change 55 = .ok (.iload 4, 2) := by decide +kernel
theorem dX11_change_57 : decode cX11_change 57 = .ok (.ireturn, 1) := by decide +kernel
theorem dX11_change_58 : decode cX11_change 58 = .ok (.iload 4, 2) := by decide +kernel
theorem dX11_change_60 : decode cX11_change 60 = .ok (.iload_n 2, 1) := by decide +kernel
theorem dX11_change_61 : decode cX11_change 61 = .ok (.if_icmp .le 15, 3) := by decide +kernel
theorem dX11_change_64 : decode cX11_change 64 = .ok (.aload_n 0, 1) := by decide +kernel
theorem dX11_change_65 : decode cX11_change 65 = .ok (.getfield 60, 3) := by decide +kernel
theorem dX11_change_68 : decode cX11_change 68 = .ok (.getfield 303, 3) := by decide +kernel
theorem dX11_change_71 : decode cX11_change 71 = .ok (.iload_n 3, 1) := by decide +kernel
theorem dX11_change_72 : decode cX11_change 72 = .ok (.iaload, 1) := by decide +kernel
theorem dX11_change_73 : decode cX11_change 73 = .ok (.goto 4, 3) := by decide +kernel
theorem dX11_change_76 : decode cX11_change 76 = .ok (.iconst (-1), 1) := by decide +kernel
theorem dX11_change_77 : decode cX11_change 77 = .ok (.ireturn, 1) := by decide +kernel
set_option maxRecDepth 20000 in
theorem b_X11_change_0 {k n : Nat} {x : Wx} {Z : Zt} {Q : Option Value → Wx → Zt → Prop} {a0 : Nat} {v1 : Int} {v2 : Int} {v3 : Int} 
    (h : Rg v2 ∧ (((v2 < (-1)) → (V mX11_change k n 31 [none, none, none, none, none] [] x Z Q)) ∧ (((-1) ≤ v2) → (Rg v3 ∧ (((v3 < 0) → (V mX11_change k n 31 [none, none, none, none, none] [] x Z Q)) ∧ ((0 ≤ v3) → (((2 < v3) → (V mX11_change k n 31 [none, none, none, none, none] [] x Z Q)) ∧ ((v3 ≤ 2) → (((v2 ≠ (-1)) → (V mX11_change k n 23 [some (r_ a0), some (i_ v1), some (i_ v2), some (i_ v3), none] [] x Z Q)) ∧ ((v2 = (-1)) → (((v3 ≠ 0) → (V mX11_change k n 31 [none, none, none, none, none] [] x Z Q)) ∧ ((v3 = 0) → (V mX11_change k n 23 [some (r_ a0), some (i_ v1), some (i_ v2), some (i_ v3), none] [] x Z Q))))))))))))) :
    V mX11_change k n 0 [some (r_ a0), some (i_ v1), some (i_ v2), some (i_ v3), none] [] x Z Q :=
  V_iload_n dX11_change_0 rfl (V_iconst dX11_change_1 (V_icmp_lt (tgt := 31) dX11_change_2 rfl h.1 (rg_c rfl) (fun c1 => V_msk [false, false, false, false, false] rfl (h.2.1 c1)) (fun c1 => V_iload_n dX11_change_5 rfl (V_if_lt (tgt := 31) dX11_change_6 rfl (h.2.2 c1).1 (fun c2 => V_msk [false, false, false, false, false] rfl ((h.2.2 c1).2.1 c2)) (fun c2 => V_iload_n dX11_change_9 rfl (V_iconst dX11_change_10 (V_icmp_gt (tgt := 31) dX11_change_11 rfl (h.2.2 c1).1 (rg_c rfl) (fun c3 => V_msk [false, false, false, false, false] rfl (((h.2.2 c1).2.2 c2).1 c3)) (fun c3 => V_iload_n dX11_change_14 rfl (V_iconst dX11_change_15 (V_icmp_ne (tgt := 23) dX11_change_16 rfl h.1 (rg_c rfl) (fun c4 => V_msk [true, true, true, true, false] rfl ((((h.2.2 c1).2.2 c2).2 c3).1 c4)) (fun c4 => V_iload_n dX11_change_19 rfl (V_if_ne (tgt := 31) dX11_change_20 rfl (h.2.2 c1).1 (fun c5 => V_msk [false, false, false, false, false] rfl (((((h.2.2 c1).2.2 c2).2 c3).2 c4).1 c5)) (fun c5 => V_msk [true, true, true, true, false] rfl (((((h.2.2 c1).2.2 c2).2 c3).2 c4).2 c5))))))))))))))
set_option maxRecDepth 20000 in
theorem b_X11_change_23 {k n : Nat} {x : Wx} {Z : Zt} {Q : Option Value → Wx → Zt → Prop} {a0 : Nat} {v1 : Int} {v2 : Int} {v3 : Int} (o_a0 : Is11 x a0)
    (h : ∃ g1 : Ab, (OI x Z a0 g1 ∧ Rg v1 ∧ (∀ (x'1 : Wx) (Z'1 : Zt) (r'1 : Int), (OI x'1 Z'1 a0 g1 ∧ Fx a0 x x'1 Z Z'1 ∧ r'1 = bI (decide (0 ≤ v1 ∧ v1 < g1.nw.ct 0)) ∧ ((0 ≤ v1 ∧ v1 < g1.nw.ct 0) → Z'1 a0 14 = v1)) → (Is11 x'1 a0 ∧ (Rg r'1 ∧ (((r'1 ≠ 0) → (∃ g2 : Int, (∃ g3 : Nat → Int, (∃ g4 : Nat → Int, (IsP g2 ∧ Z'1 ((a0 + 40) + 1) 0 = g2 ∧ PA Z'1 ((a0 + 40) + 4) g2 g3 ∧ PA Z'1 (a0 + 44) g2 g4 ∧ Rg v2 ∧ (∀ (Z'2 : Zt), ((∀ A B c : Int, (sch g2 v2 g3 g4).2 = some (A, B, c) → Z'2 ((a0 + 40) + 12) 0 = A ∧ Z'2 ((a0 + 40) + 12) 1 = B ∧ Z'2 ((a0 + 40) + 12) 2 = c) ∧ ((sch g2 v2 g3 g4).2 = none → Z'2 ((a0 + 40) + 12) = Z'1 ((a0 + 40) + 12)) ∧ Oth Z'1 Z'2 (fun b => b = (a0 + 40) + 12 ∨ b = (a0 + 40) + 13)) → (Rg v2 ∧ (((v2 ≠ (-1)) → (Rg ((sch g2 v2 g3 g4).1) ∧ ((((sch g2 v2 g3 g4).1 ≤ v2) → (Q (some (i_ (-1))) x'1 Z'2)) ∧ ((v2 < (sch g2 v2 g3 g4).1) → (0 ≤ v3 ∧ v3 < 3 ∧ (Q (some (i_ (Z'2 (a0 + 52) v3.toNat))) x'1 Z'2)))))) ∧ ((v2 = (-1)) → (Q (some (i_ ((sch g2 v2 g3 g4).1))) x'1 Z'2)))))))))) ∧ ((r'1 = 0) → (V mX11_change k n 31 [none, none, none, none, none] [] x'1 Z'1 Q)))))))) :
    V mX11_change k n 23 [some (r_ a0), some (i_ v1), some (i_ v2), some (i_ v3), none] [] x Z Q :=
  V_aload_n dX11_change_23 rfl (V_iload_n dX11_change_24 rfl (Exists.elim h (fun g1 w1 => V_callV (k' := 0) (n' := 0) (t := 11) (q := (RX11, TX11, 17)) [i_ v1] [] okX11_isReady o_a0.1 rfl rfl lm_11_152 liX11_isReady lqX11_isReady (Nat.le_of_ble_eq_true rfl) (Nat.le_of_ble_eq_true rfl) (Nat.le_of_ble_eq_true rfl) (cat_of rfl) (Nat.le_of_ble_eq_true rfl) (Nat.zero_le _) (Nat.zero_le _) rfl dX11_change_25 (sp_X11_isReady o_a0 w1.1 w1.2.1 (fun x'1 Z'1 r'1 p1 => V_if_ne (tgt := 33) dX11_change_28 rfl (w1.2.2 x'1 Z'1 r'1 p1).2.1 (fun c1 => V_aload_n dX11_change_33 rfl (G_11_7 (w1.2.2 x'1 Z'1 r'1 p1).1.1 (w1.2.2 x'1 Z'1 r'1 p1).1.qR7 lf_11_60 dX11_change_34 (V_aload_n dX11_change_37 rfl (G_11_7 (w1.2.2 x'1 Z'1 r'1 p1).1.1 (w1.2.2 x'1 Z'1 r'1 p1).1.qR7 lf_11_60 dX11_change_38 (G_2_1 (w1.2.2 x'1 Z'1 r'1 p1).1.qK7.1 (w1.2.2 x'1 Z'1 r'1 p1).1.qK7.2.2.2.1 lf_11_162 dX11_change_41 (V_iload_n dX11_change_44 rfl (Exists.elim ((w1.2.2 x'1 Z'1 r'1 p1).2.2.1 c1) (fun g2 w2 => Exists.elim w2 (fun g3 w3 => Exists.elim w3 (fun g4 w4 => V_callV (k' := 0) (n' := 0) (t := 2) (q := (RX2, TX2, 17)) [r_ (a0 + 44), i_ v2] [] okX2_searchChange (w1.2.2 x'1 Z'1 r'1 p1).1.qK7.1 rfl rfl lm_11_299 liX2_searchChange lqX2_searchChange (Nat.le_of_ble_eq_true rfl) (Nat.le_of_ble_eq_true rfl) (Nat.le_of_ble_eq_true rfl) (cat_of rfl) (Nat.le_of_ble_eq_true rfl) (Nat.zero_le _) (Nat.zero_le _) rfl dX11_change_45 (sp_X2_searchChange (w1.2.2 x'1 Z'1 r'1 p1).1.qK7 (w1.2.2 x'1 Z'1 r'1 p1).1.qK7.2.2.2.2.1 w4.1 w4.2.1 w4.2.2.1 w4.2.2.2.1 w4.2.2.2.2.1 (fun Z'2 p2 => V_istore (lv' := [some (r_ a0), some (i_ v1), some (i_ v2), some (i_ v3), some (i_ ((sch g2 v2 g3 g4).1))]) dX11_change_48 (Nat.le_of_ble_eq_true rfl) rfl (V_iload_n dX11_change_50 rfl (V_iconst dX11_change_51 (V_icmp_ne (tgt := 58) dX11_change_52 rfl (w4.2.2.2.2.2 Z'2 p2).1 (rg_c rfl) (fun c2 => V_iload dX11_change_58 rfl (V_iload_n dX11_change_60 rfl (V_icmp_le (tgt := 76) dX11_change_61 rfl ((w4.2.2.2.2.2 Z'2 p2).2.1 c2).1 (w4.2.2.2.2.2 Z'2 p2).1 (fun c3 => V_iconst dX11_change_76 (V_iret (ty := .int) dX11_change_77 rfl rfl (((w4.2.2.2.2.2 Z'2 p2).2.1 c2).2.1 c3))) (fun c3 => V_aload_n dX11_change_64 rfl (G_11_7 (w1.2.2 x'1 Z'1 r'1 p1).1.1 (w1.2.2 x'1 Z'1 r'1 p1).1.qR7 lf_11_60 dX11_change_65 (G_2_10 (w1.2.2 x'1 Z'1 r'1 p1).1.qK7.1 (w1.2.2 x'1 Z'1 r'1 p1).1.qK7.2.2.2.2.2.2.2.2.2.2.2.2.2.2.2.2.2.1 lf_11_303 dX11_change_68 (V_iload_n dX11_change_71 rfl (V_iald (t := 100) (w1.2.2 x'1 Z'1 r'1 p1).1.qK7.2.2.2.2.2.2.2.2.2.2.2.2.2.2.2.2.2.2.1 (by decide) rfl (((w4.2.2.2.2.2 Z'2 p2).2.1 c2).2.2 c3).1 (((w4.2.2.2.2.2 Z'2 p2).2.1 c2).2.2 c3).2.1 (Nat.le_of_ble_eq_true rfl) dX11_change_72 (V_goto (tgt := 77) dX11_change_73 rfl (V_iret (ty := .int) dX11_change_77 rfl rfl (((w4.2.2.2.2.2 Z'2 p2).2.1 c2).2.2 c3).2.2)))))))))) (fun c2 => V_iload dX11_change_55 rfl (V_iret (ty := .int) dX11_change_57 rfl rfl ((w4.2.2.2.2.2 Z'2 p2).2.2 c2)))))))))))))))))) (fun c1 => V_msk [false, false, false, false, false] rfl ((w1.2.2 x'1 Z'1 r'1 p1).2.2.2 c1)))))))
set_option maxRecDepth 20000 in
theorem b_X11_change_31 {k n : Nat} {x : Wx} {Z : Zt} {Q : Option Value → Wx → Zt → Prop}  
    (h : Q (some (i_ (-1))) x Z) :
    V mX11_change k n 31 [none, none, none, none, none] [] x Z Q :=
  V_iconst dX11_change_31 (V_iret (ty := .int) dX11_change_32 rfl rfl h)
theorem dX11_like_0 : decode cX11_like 0 = .ok (.aload_n 0, 1) := by decide +kernel
theorem dX11_like_1 : decode cX11_like 1 = .ok (.getfield 10, 3) := by decide +kernel
theorem dX11_like_4 : decode cX11_like 4 = .ok (.iconst 0, 1) := by decide +kernel
theorem dX11_like_5 : decode cX11_like 5 = .ok (.iload_n 2, 1) := by decide +kernel
theorem dX11_like_6 : decode cX11_like 6 = .ok (.invokevirtual 129, 3) := by decide +kernel
theorem dX11_like_9 : decode cX11_like 9 = .ok (.astore_n 3, 1) := by decide +kernel
theorem dX11_like_10 : decode cX11_like 10 = .ok (.aload_n 3, 1) := by decide +kernel
theorem dX11_like_11 : decode cX11_like 11 = .ok (.ifnull 43, 3) := by decide +kernel
theorem dX11_like_14 : decode cX11_like 14 = .ok (.aload_n 0, 1) := by decide +kernel
theorem dX11_like_15 : decode cX11_like 15 = .ok (.iload_n 1, 1) := by decide +kernel
theorem dX11_like_16 : decode cX11_like 16 = .ok (.invokevirtual 152, 3) := by decide +kernel
theorem dX11_like_19 : decode cX11_like 19 = .ok (.ifCond .eq 35, 3) := by decide +kernel
theorem dX11_like_22 : decode cX11_like 22 = .ok (.aload_n 3, 1) := by decide +kernel
theorem dX11_like_23 : decode cX11_like 23 = .ok (.iconst 0, 1) := by decide +kernel
theorem dX11_like_24 : decode cX11_like 24 = .ok (.iaload, 1) := by decide +kernel
theorem dX11_like_25 : decode cX11_like 25 = .ok (.aload_n 0, 1) := by decide +kernel
theorem dX11_like_26 : decode cX11_like 26 = .ok (.getfield 60, 3) := by decide +kernel
theorem dX11_like_29 : decode cX11_like 29 = .ok (.getfield 156, 3) := by decide +kernel
theorem dX11_like_32 : decode cX11_like 32 = .ok (.getfield 159, 3) := by decide +kernel
theorem dX11_like_35 : decode cX11_like 35 = .ok (.if_icmp .ne 19, 3) := by decide +kernel
theorem dX11_like_38 : decode cX11_like 38 = .ok (.aload_n 3, 1) := by decide +kernel
theorem dX11_like_39 : decode cX11_like 39 = .ok (.iconst 1, 1) := by decide +kernel
theorem dX11_like_40 : decode cX11_like 40 = .ok (.iaload, 1) := by decide +kernel
theorem dX11_like_41 : decode cX11_like 41 = .ok (.aload_n 0, 1) := by decide +kernel
theorem dX11_like_42 : decode cX11_like 42 = .ok (.getfield 60, 3) := by decide +kernel
theorem dX11_like_45 : decode cX11_like 45 = .ok (.getfield 162, 3) := by decide +kernel
theorem dX11_like_48 : decode cX11_like 48 = .ok (.getfield 165, 3) := by decide +kernel
theorem dX11_like_51 : decode cX11_like 51 = .ok (.if_icmp .eq 5, 3) := by decide +kernel
theorem dX11_like_54 : decode cX11_like 54 = .ok (.iconst 0, 1) := by decide +kernel
theorem dX11_like_55 : decode cX11_like 55 = .ok (.ireturn, 1) := by decide +kernel
theorem dX11_like_56 : decode cX11_like 56 = .ok (.aload_n 0, 1) := by decide +kernel
theorem dX11_like_57 : decode cX11_like 57 = .ok (.getfield 50, 3) := by decide +kernel
theorem dX11_like_60 : decode cX11_like 60 = .ok (.aload_n 3, 1) := by decide +kernel
theorem dX11_like_61 : decode cX11_like 61 = .ok (.iconst 2, 1) := by decide +kernel
theorem dX11_like_62 : decode cX11_like 62 = .ok (.aload_n 3, 1) := by decide +kernel
theorem dX11_like_63 : decode cX11_like 63 = .ok (.iconst 1, 1) := by decide +kernel
theorem dX11_like_64 : decode cX11_like 64 = .ok (.iaload, 1) := by decide +kernel
theorem dX11_like_65 : decode cX11_like 65 = .ok (.aload_n 0, 1) := by decide +kernel
theorem dX11_like_66 : decode cX11_like 66 = .ok (.getfield 60, 3) := by decide +kernel
theorem dX11_like_69 : decode cX11_like 69 = .ok (.getfield 156, 3) := by decide +kernel
theorem dX11_like_72 : decode cX11_like 72 = .ok (.invokevirtual 306, 3) := by decide +kernel
theorem dX11_like_75 : decode cX11_like 75 = .ok (.aload_n 0, 1) := by decide +kernel
theorem dX11_like_76 : decode cX11_like 76 = .ok (.getfield 60, 3) := by decide +kernel
theorem dX11_like_79 : decode cX11_like 79 = .ok (.aload_n 0, 1) := by decide +kernel
theorem dX11_like_80 : decode cX11_like 80 = .ok (.getfield 50, 3) := by decide +kernel
theorem dX11_like_83 : decode cX11_like 83 = .ok (.iconst 0, 1) := by decide +kernel
theorem dX11_like_84 : decode cX11_like 84 = .ok (.invokevirtual 299, 3) := by decide +kernel
theorem dX11_like_87 : decode cX11_like 87 = .ok (.ifCond .le 7, 3) := by decide +kernel
theorem dX11_like_90 : decode cX11_like 90 = .ok (.iconst 1, 1) := by decide +kernel
theorem dX11_like_91 : decode cX11_like 91 = .ok (.goto 4, 3) := by decide +kernel
theorem dX11_like_94 : decode cX11_like 94 = .ok (.iconst 0, 1) := by decide +kernel
theorem dX11_like_95 : decode cX11_like 95 = .ok (.ireturn, 1) := by decide +kernel
set_option maxRecDepth 20000 in
theorem b_X11_like_0 {k n : Nat} {x : Wx} {Z : Zt} {Q : Option Value → Wx → Zt → Prop} {a0 : Nat} {v1 : Int} {v2 : Int} (o_a0 : Is11 x a0)
    (h : KS x ∧ KW x Z ∧ (0 ≤ (0 : Int) ∧ (0 : Int) < 3) ∧ Rg v2 ∧ (0 ≤ Z ((a0 + 1) + 2) (Int.toNat (0 : Int)) ∧ Z ((a0 + 1) + 2) (Int.toNat (0 : Int)) ≤ mstr (0 : Int)) ∧ (((rowQ (a0 + 1) (0 : Int) v2 (Z ((a0 + 1) + 2) (Int.toNat (0 : Int))) = none → (V mX11_like k n 54 [none, none, none, none] [] x Z Q)) ∧ (∀ b1, rowQ (a0 + 1) (0 : Int) v2 (Z ((a0 + 1) + 2) (Int.toNat (0 : Int))) = some b1 → (x.1 b1 = some (100, 26) ∧ (∃ g1 : Ab, (OI x Z a0 g1 ∧ Rg v1 ∧ (∀ (x'1 : Wx) (Z'1 : Zt) (r'1 : Int), (OI x'1 Z'1 a0 g1 ∧ Fx a0 x x'1 Z Z'1 ∧ r'1 = bI (decide (0 ≤ v1 ∧ v1 < g1.nw.ct 0)) ∧ ((0 ≤ v1 ∧ v1 < g1.nw.ct 0) → Z'1 a0 14 = v1)) → (x'1.1 b1 = some (100, 26) ∧ Is11 x'1 a0 ∧ (Rg r'1 ∧ (((r'1 = 0) → (V mX11_like k n 54 [none, none, none, none] [] x'1 Z'1 Q)) ∧ ((r'1 ≠ 0) → (Rg (Z'1 b1 0) ∧ Rg (Z'1 (a0 + 41) 0) ∧ (((Z'1 b1 0 ≠ Z'1 (a0 + 41) 0) → (V mX11_like k n 54 [none, none, none, none] [] x'1 Z'1 Q)) ∧ ((Z'1 b1 0 = Z'1 (a0 + 41) 0) → (Rg (Z'1 b1 1) ∧ Rg (Z'1 (a0 + 44) 0) ∧ (((Z'1 b1 1 = Z'1 (a0 + 44) 0) → (∃ g2 : Int, (b1 ≠ (a0 + 36) + 1 ∧ 0 ≤ (2 : Int) ∧ (0 ≤ (Z'1 b1 1) ∧ (Z'1 b1 1) ≤ 9) ∧ (2 : Int) + (Z'1 b1 1) < 26 ∧ (∀ i : Nat, i < 26 → Rg (Z'1 b1 i)) ∧ Z'1 (a0 + 41) 0 = g2 ∧ (2 ≤ g2 ∧ g2 ≤ 13) ∧ (∀ (Z'2 : Zt), (PA Z'2 (a0 + 36) g2 (ptak g2 (Z'1 b1) (Int.toNat (2 : Int)) (Int.toNat (Z'1 b1 1))) ∧ Oth Z'1 Z'2 (At2 (a0 + 36))) → (∃ g3 : Int, (∃ g4 : Nat → Int, (∃ g5 : Nat → Int, (IsP g3 ∧ Z'2 ((a0 + 40) + 1) 0 = g3 ∧ PA Z'2 ((a0 + 40) + 4) g3 g4 ∧ PA Z'2 (a0 + 36) g3 g5 ∧ Rg (0 : Int) ∧ (∀ (Z'3 : Zt), ((∀ A B c : Int, (sch g3 (0 : Int) g4 g5).2 = some (A, B, c) → Z'3 ((a0 + 40) + 12) 0 = A ∧ Z'3 ((a0 + 40) + 12) 1 = B ∧ Z'3 ((a0 + 40) + 12) 2 = c) ∧ ((sch g3 (0 : Int) g4 g5).2 = none → Z'3 ((a0 + 40) + 12) = Z'2 ((a0 + 40) + 12)) ∧ Oth Z'2 Z'3 (fun b => b = (a0 + 40) + 12 ∨ b = (a0 + 40) + 13)) → (Rg ((sch g3 (0 : Int) g4 g5).1) ∧ ((((sch g3 (0 : Int) g4 g5).1 ≤ 0) → (Q (some (i_ 0)) x'1 Z'3)) ∧ ((0 < (sch g3 (0 : Int) g4 g5).1) → (Q (some (i_ 1)) x'1 Z'3))))))))))))) ∧ ((Z'1 b1 1 ≠ Z'1 (a0 + 44) 0) → (V mX11_like k n 54 [none, none, none, none] [] x'1 Z'1 Q))))))))))))))))))) :
    V mX11_like k n 0 [some (r_ a0), some (i_ v1), some (i_ v2), none] [] x Z Q :=
  V_aload_n dX11_like_0 rfl (G_11_0 o_a0.1 o_a0.qR0 lf_11_10 dX11_like_1 (V_iconst dX11_like_4 (V_iload_n dX11_like_5 rfl (V_callV (k' := 0) (n' := 0) (t := 10) (q := (RX10, TX10, 6)) [i_ 0, i_ v2] [] okX10_row o_a0.qK0.1 rfl rfl lm_11_129 liX10_row lqX10_row (Nat.le_of_ble_eq_true rfl) (Nat.le_of_ble_eq_true rfl) (Nat.le_of_ble_eq_true rfl) (cat_of rfl) (Nat.le_of_ble_eq_true rfl) (Nat.zero_le _) (Nat.zero_le _) rfl dX11_like_6 (sp_X10_row2 o_a0.qK0 h.1 h.2.1 h.2.2.1 h.2.2.2.1 h.2.2.2.2.1 (V_q (fun c1 => V_astoreq_n (r := none) (lv' := [some (r_ a0), some (i_ v1), some (i_ v2), some (Value.null)]) dX11_like_9 (Nat.le_of_ble_eq_true rfl) rfl (V_aloadq_n (r := none) dX11_like_10 rfl (V_ifnull_n (tgt := 54) dX11_like_11 rfl (V_msk [false, false, false, false] rfl (h.2.2.2.2.2.1 c1))))) (fun b1 c2 => have s1 := (h.2.2.2.2.2.2 b1 c2).1; V_astore_n (lv' := [some (r_ a0), some (i_ v1), some (i_ v2), some (r_ b1)]) dX11_like_9 (Nat.le_of_ble_eq_true rfl) rfl (V_aload_n dX11_like_10 rfl (V_ifnull_r dX11_like_11 (V_aload_n dX11_like_14 rfl (V_iload_n dX11_like_15 rfl (Exists.elim (h.2.2.2.2.2.2 b1 c2).2 (fun g1 w1 => V_callV (k' := 0) (n' := 0) (t := 11) (q := (RX11, TX11, 17)) [i_ v1] [] okX11_isReady o_a0.1 rfl rfl lm_11_152 liX11_isReady lqX11_isReady (Nat.le_of_ble_eq_true rfl) (Nat.le_of_ble_eq_true rfl) (Nat.le_of_ble_eq_true rfl) (cat_of rfl) (Nat.le_of_ble_eq_true rfl) (Nat.zero_le _) (Nat.zero_le _) rfl dX11_like_16 (sp_X11_isReady o_a0 w1.1 w1.2.1 (fun x'1 Z'1 r'1 p1 => V_if_eq (tgt := 54) dX11_like_19 rfl (w1.2.2 x'1 Z'1 r'1 p1).2.2.1 (fun c3 => V_msk [false, false, false, false] rfl ((w1.2.2 x'1 Z'1 r'1 p1).2.2.2.1 c3)) (fun c3 => V_aload_n dX11_like_22 rfl (V_iconst dX11_like_23 (V_iald (t := 100) (w1.2.2 x'1 Z'1 r'1 p1).1 (by decide) rfl (by decide) (by decide) (Nat.le_of_ble_eq_true rfl) dX11_like_24 (V_aload_n dX11_like_25 rfl (G_11_7 (w1.2.2 x'1 Z'1 r'1 p1).2.1.1 (w1.2.2 x'1 Z'1 r'1 p1).2.1.qR7 lf_11_60 dX11_like_26 (G_2_0 (w1.2.2 x'1 Z'1 r'1 p1).2.1.qK7.1 (w1.2.2 x'1 Z'1 r'1 p1).2.1.qK7.2.1 lf_11_156 dX11_like_29 (G_4_0 (w1.2.2 x'1 Z'1 r'1 p1).2.1.qK7.2.2.1.1 lf_11_159 dX11_like_32 (V_icmp_ne (tgt := 54) dX11_like_35 rfl ((w1.2.2 x'1 Z'1 r'1 p1).2.2.2.2 c3).1 ((w1.2.2 x'1 Z'1 r'1 p1).2.2.2.2 c3).2.1 (fun c4 => V_msk [false, false, false, false] rfl (((w1.2.2 x'1 Z'1 r'1 p1).2.2.2.2 c3).2.2.1 c4)) (fun c4 => V_aload_n dX11_like_38 rfl (V_iconst dX11_like_39 (V_iald (t := 100) (w1.2.2 x'1 Z'1 r'1 p1).1 (by decide) rfl (by decide) (by decide) (Nat.le_of_ble_eq_true rfl) dX11_like_40 (V_aload_n dX11_like_41 rfl (G_11_7 (w1.2.2 x'1 Z'1 r'1 p1).2.1.1 (w1.2.2 x'1 Z'1 r'1 p1).2.1.qR7 lf_11_60 dX11_like_42 (G_2_1 (w1.2.2 x'1 Z'1 r'1 p1).2.1.qK7.1 (w1.2.2 x'1 Z'1 r'1 p1).2.1.qK7.2.2.2.1 lf_11_162 dX11_like_45 (G_7_0 (w1.2.2 x'1 Z'1 r'1 p1).2.1.qK7.2.2.2.2.1.1 lf_11_165 dX11_like_48 (V_icmp_eq (tgt := 56) dX11_like_51 rfl (((w1.2.2 x'1 Z'1 r'1 p1).2.2.2.2 c3).2.2.2 c4).1 (((w1.2.2 x'1 Z'1 r'1 p1).2.2.2.2 c3).2.2.2 c4).2.1 (fun c5 => V_aload_n dX11_like_56 rfl (G_11_5 (w1.2.2 x'1 Z'1 r'1 p1).2.1.1 (w1.2.2 x'1 Z'1 r'1 p1).2.1.qR5 lf_11_50 dX11_like_57 (V_aload_n dX11_like_60 rfl (V_iconst dX11_like_61 (V_aload_n dX11_like_62 rfl (V_iconst dX11_like_63 (V_iald (t := 100) (w1.2.2 x'1 Z'1 r'1 p1).1 (by decide) rfl (by decide) (by decide) (Nat.le_of_ble_eq_true rfl) dX11_like_64 (V_aload_n dX11_like_65 rfl (G_11_7 (w1.2.2 x'1 Z'1 r'1 p1).2.1.1 (w1.2.2 x'1 Z'1 r'1 p1).2.1.qR7 lf_11_60 dX11_like_66 (G_2_0 (w1.2.2 x'1 Z'1 r'1 p1).2.1.qK7.1 (w1.2.2 x'1 Z'1 r'1 p1).2.1.qK7.2.1 lf_11_156 dX11_like_69 (Exists.elim ((((w1.2.2 x'1 Z'1 r'1 p1).2.2.2.2 c3).2.2.2 c4).2.2.1 c5) (fun g2 w2 => V_callV (k' := 0) (n' := 0) (t := 7) (q := (RX7, TX7, 2)) [r_ b1, i_ 2, i_ (Z'1 b1 1), r_ (a0 + 41)] [] okX7_take (w1.2.2 x'1 Z'1 r'1 p1).2.1.qK5.1 rfl rfl lm_11_306 liX7_take lqX7_take (Nat.le_of_ble_eq_true rfl) (Nat.le_of_ble_eq_true rfl) (Nat.le_of_ble_eq_true rfl) (cat_of rfl) (Nat.le_of_ble_eq_true rfl) (Nat.zero_le _) (Nat.zero_le _) rfl dX11_like_72 (sp_X7_take (w1.2.2 x'1 Z'1 r'1 p1).2.1.qK5 (w1.2.2 x'1 Z'1 r'1 p1).1 (Nat.le_of_ble_eq_true rfl) (w1.2.2 x'1 Z'1 r'1 p1).2.1.qK7.2.2.1 w2.1 w2.2.1 w2.2.2.1 w2.2.2.2.1 w2.2.2.2.2.1 w2.2.2.2.2.2.1 w2.2.2.2.2.2.2.1 (fun Z'2 p2 => V_aload_n dX11_like_75 rfl (G_11_7 (w1.2.2 x'1 Z'1 r'1 p1).2.1.1 (w1.2.2 x'1 Z'1 r'1 p1).2.1.qR7 lf_11_60 dX11_like_76 (V_aload_n dX11_like_79 rfl (G_11_5 (w1.2.2 x'1 Z'1 r'1 p1).2.1.1 (w1.2.2 x'1 Z'1 r'1 p1).2.1.qR5 lf_11_50 dX11_like_80 (V_iconst dX11_like_83 (Exists.elim (w2.2.2.2.2.2.2.2 Z'2 p2) (fun g3 w3 => Exists.elim w3 (fun g4 w4 => Exists.elim w4 (fun g5 w5 => V_callV (k' := 0) (n' := 0) (t := 2) (q := (RX2, TX2, 17)) [r_ (a0 + 36), i_ 0] [] okX2_searchChange (w1.2.2 x'1 Z'1 r'1 p1).2.1.qK7.1 rfl rfl lm_11_299 liX2_searchChange lqX2_searchChange (Nat.le_of_ble_eq_true rfl) (Nat.le_of_ble_eq_true rfl) (Nat.le_of_ble_eq_true rfl) (cat_of rfl) (Nat.le_of_ble_eq_true rfl) (Nat.zero_le _) (Nat.zero_le _) rfl dX11_like_84 (sp_X2_searchChange (w1.2.2 x'1 Z'1 r'1 p1).2.1.qK7 (w1.2.2 x'1 Z'1 r'1 p1).2.1.qK5 w5.1 w5.2.1 w5.2.2.1 w5.2.2.2.1 w5.2.2.2.2.1 (fun Z'3 p3 => V_if_le (tgt := 94) dX11_like_87 rfl (w5.2.2.2.2.2 Z'3 p3).1 (fun c6 => V_iconst dX11_like_94 (V_iret (ty := .boolean) dX11_like_95 rfl rfl ((w5.2.2.2.2.2 Z'3 p3).2.1 c6))) (fun c6 => V_iconst dX11_like_90 (V_goto (tgt := 95) dX11_like_91 rfl (V_iret (ty := .boolean) dX11_like_95 rfl rfl ((w5.2.2.2.2.2 Z'3 p3).2.2 c6)))))))))))))))))))))))))))) (fun c5 => V_msk [false, false, false, false] rfl ((((w1.2.2 x'1 Z'1 r'1 p1).2.2.2.2 c3).2.2.2 c4).2.2.2 c5)))))))))))))))))))))))))))))))))
set_option maxRecDepth 20000 in
theorem b_X11_like_54 {k n : Nat} {x : Wx} {Z : Zt} {Q : Option Value → Wx → Zt → Prop}  
    (h : Q (some (i_ 0)) x Z) :
    V mX11_like k n 54 [none, none, none, none] [] x Z Q :=
  V_iconst dX11_like_54 (V_iret (ty := .boolean) dX11_like_55 rfl rfl h)
/-! ===== CurveShares: the answers on classes and changes ===== -/
theorem shF_170 {p : Int} (hp : IsP p) (F : Nat → Int) : shF p F 0 = 1 ∧ ∀ i : Nat, 1 ≤ i → i ≤ 4 → -170 ≤ shF p F i ∧ shF p F i ≤ 170 := by
  have hb := shF_bd hp F
  have hpr := hp.rg
  have h1 := hb.1 1 (by decide) (by decide)
  have h2 := hb.1 2 (by decide) (by decide)
  have e1 : shF p F 1 = (pall p F).length - p - 1 := rfl
  refine ⟨hb.2, fun i hi1 hi4 => ?_⟩
  have hc : i = 1 ∨ i = 2 ∨ i = 3 ∨ i = 4 := by omega
  rcases hc with rfl | rfl | rfl | rfl
  · have : (13 : Nat) ^ 1 = 13 := by decide
    omega
  · have : (13 : Nat) ^ 2 = 169 := by decide
    omega
  · have e3 : shF p F 3 = if gen F = 1 then 0 else p * ((pall p F).length - p - 1) := by
      show shr p (gen F) (pall p F).length (c2F p F) 3 = _
      unfold shr
      rw [if_neg (by decide), if_neg (by decide)]
      by_cases c : gen F = 1
      · rw [if_pos c, if_pos c, if_neg (by decide)]
      · rw [if_neg c, if_neg c, if_neg (by decide), if_pos rfl]
    rw [e3]
    split
    · omega
    · rw [← e1]
      have : (13 : Nat) ^ 1 = 13 := by decide
      have q1 : p * shF p F 1 ≤ p * 13 := Int.mul_le_mul_of_nonneg_left (by omega) (by omega)
      have q2 : p * (-13) ≤ p * shF p F 1 := Int.mul_le_mul_of_nonneg_left (by omega) (by omega)
      omega
  · have e4 : shF p F 4 = if gen F = 1 then 0 else p * p := by
      show shr p (gen F) (pall p F).length (c2F p F) 4 = _
      unfold shr
      rw [if_neg (by decide), if_neg (by decide)]
      by_cases c : gen F = 1
      · rw [if_pos c, if_pos c, if_neg (by decide)]
      · rw [if_neg c, if_neg c, if_neg (by decide), if_neg (by decide), if_pos rfl]
    rw [e4]
    split
    · omega
    · have := mul13 (a := p) (b := p) ⟨by omega, by omega⟩ ⟨by omega, by omega⟩
      omega
/-- SHARE where T is 1 -/
def nCl (p : Int) (F : Nat → Int) : Int := shA (shF p F) 1 (2 * gen F + 1).toNat 0
theorem nCl_rg {p : Int} (hp : IsP p) (F : Nat → Int) : -10000 ≤ nCl p F ∧ nCl p F ≤ 10000 := by
  have h := shF_170 hp F
  have a1 := h.2 1 (by decide) (by decide)
  have a2 := h.2 2 (by decide) (by decide)
  have a3 := h.2 3 (by decide) (by decide)
  have a4 := h.2 4 (by decide) (by decide)
  have h0 := h.1
  have hg := gen_rg F
  unfold nCl
  have hc : gen F = 1 ∨ gen F = 2 := by omega
  rcases hc with e | e
  · rw [e, show (2 * (1 : Int) + 1).toNat = 3 by decide]
    have q : shA (shF p F) 1 3 0 = ((0 * 1 + shF p F 2) * 1 + shF p F 1) * 1 + shF p F 0 := rfl
    rw [q]
    omega
  · rw [e, show (2 * (2 : Int) + 1).toNat = 5 by decide]
    have q : shA (shF p F) 1 5 0 = ((((0 * 1 + shF p F 4) * 1 + shF p F 3) * 1 + shF p F 2) * 1 + shF p F 1) * 1 + shF p F 0 := rfl
    rw [q]
    omega
def ptV (A : UV) (w : Int) : Int := if w < 3 then A.1 w.toNat else A.2 (w - 3).toNat
def Td.g (T : Td) (c : Nat) : Int := gen (T.F c)
theorem OI.scl {x : Wx} {Z Z' : Zt} {a : Nat} {S : Ab} (h : OI x Z a S) (ho : Oth Z Z' (fun b => (a + 229 + 6 < b ∧ b ≤ a + 229 + 49) ∨ (a + 281 ≤ b ∧ b < a + 292))) : OI x Z' a S ∧ Fx a x x Z Z' := h.scr (fun b hb _ _ => ho b (fun e => hb (scr_cls e))) (fun i _ => by rw [ho _ (by omega)]) (fun i _ _ => by rw [ho _ (by omega)])
theorem OI.refs {x : Wx} {Z : Zt} {a : Nat} {S : Ab} (h : OI x Z a S) {c : Nat} (hc : Z a 14 = (c : Int)) : x.2.1 (a + 229) 1 = some (a + 41) ∧ x.2.1 (a + 229) 2 = some (a + 44) ∧ Is4 x (a + 41) ∧ Is7 x (a + 44) := by
  have := (h.cv hc).2.2.2.2.1
  exact ⟨this.1, this.2.1, this.2.2.2.1, this.2.2.2.2.1⟩
/-- the references also stand where no curve is ready: then nothing is asked of them -/
def aTimes (T : Td) (c s m w : Int) : Int := if fitB T c s = true ∧ (-99 ≤ m ∧ m ≤ 99) ∧ 0 ≤ w ∧ w ≤ 4 then ptV (mulB (T.p c.toNat) (T.F c.toNat) (T.g c.toNat) (if m < 0 then cneg (T.p c.toNat) (T.K c.toNat s.toNat) else T.K c.toNat s.toNat) (m.natAbs : Int) 7 czero) w else -1
def aAdded (T : Td) (c s t w : Int) : Int := if (fitB T c s && fitB T c t) = true ∧ 0 ≤ w ∧ w ≤ 4 then ptV (cplus (T.p c.toNat) (T.F c.toNat) (T.g c.toNat) (T.K c.toNat s.toNat) (T.K c.toNat t.toNat)) w else -1
def aOrderOf (T : Td) (c s : Int) : Int := if fitB T c s = true then ordF (T.p c.toNat) (T.F c.toNat) (T.g c.toNat) (T.K c.toNat s.toNat) ((nCl (T.p c.toNat) (T.F c.toNat)).toNat - 1) 1 (T.K c.toNat s.toNat) else -1
noncomputable def aLog (T : Td) (c s t : Int) : Int := if (fitB T c s && fitB T c t) = true then logF (T.p c.toNat) (T.F c.toNat) (T.g c.toNat) (T.K c.toNat s.toNat) (T.K c.toNat t.toNat) (nCl (T.p c.toNat) (T.F c.toNat)).toNat 0 czero else -1
def aSame (T : Td) (c s t : Int) : Prop := (fitB T c s && fitB T c t) = true ∧ T.K c.toNat s.toNat = T.K c.toNat t.toNat ∧ sdeg (T.rw (2 + s.toNat)) (T.rw (2 + s.toNat) 0).toNat = sdeg (T.rw (2 + t.toNat)) (T.rw (2 + t.toNat) 0).toNat
