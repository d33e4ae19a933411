theorem sw0_3 (e : Int) : e = 0 ∨ e = 1 ∨ e = 2 ∨ (e < 0 ∨ 2 < e) := by omega
theorem sw0_7 (e : Int) : e = 0 ∨ e = 1 ∨ e = 2 ∨ e = 3 ∨ e = 4 ∨ e = 5 ∨ e = 6 ∨ (e < 0 ∨ 6 < e) := by omega
theorem sw0_32 (e : Int) : e = 0 ∨ e = 1 ∨ e = 2 ∨ e = 3 ∨ e = 4 ∨ e = 5 ∨ e = 6 ∨ e = 7 ∨ e = 8 ∨ e = 9 ∨ e = 10 ∨ e = 11 ∨ e = 12 ∨ e = 13 ∨ e = 14 ∨ e = 15 ∨ e = 16 ∨ e = 17 ∨ e = 18 ∨ e = 19 ∨ e = 20 ∨ e = 21 ∨ e = 22 ∨ e = 23 ∨ e = 24 ∨ e = 25 ∨ e = 26 ∨ e = 27 ∨ e = 28 ∨ e = 29 ∨ e = 30 ∨ e = 31 ∨ (e < 0 ∨ 31 < e) := by omega
theorem dX11_end_0 : decode cX11_end 0 = .ok (.iload_n 1, 1) := by decide +kernel
theorem dX11_end_1 : decode cX11_end 1 = .ok (.ifCond .lt 14, 3) := by decide +kernel
theorem dX11_end_4 : decode cX11_end 4 = .ok (.iload_n 1, 1) := by decide +kernel
theorem dX11_end_5 : decode cX11_end 5 = .ok (.aload_n 0, 1) := by decide +kernel
theorem dX11_end_6 : decode cX11_end 6 = .ok (.getfield 10, 3) := by decide +kernel
theorem dX11_end_9 : decode cX11_end 9 = .ok (.getfield 109, 3) := by decide +kernel
theorem dX11_end_12 : decode cX11_end 12 = .ok (.if_icmp .le 5, 3) := by decide +kernel
theorem dX11_end_15 : decode cX11_end 15 = .ok (.iconst (-1), 1) := by decide +kernel
theorem dX11_end_16 : decode cX11_end 16 = .ok (.ireturn, 1) := by decide +kernel
theorem dX11_end_17 : decode cX11_end 17 = .ok (.aload_n 0, 1) := by decide +kernel
theorem dX11_end_18 : decode cX11_end 18 = .ok (.getfield 10, 3) := by decide +kernel
theorem dX11_end_21 : decode cX11_end 21 = .ok (.iload_n 1, 1) := by decide +kernel
theorem dX11_end_22 : decode cX11_end 22 = .ok (.putfield 109, 3) := by decide +kernel
theorem dX11_end_25 : decode cX11_end 25 = .ok (.iload_n 1, 1) := by decide +kernel
theorem dX11_end_26 : decode cX11_end 26 = .ok (.ireturn, 1) := by decide +kernel
set_option maxRecDepth 20000 in
theorem b_X11_end_0 {k n : Nat} {x : Wx} {Z : Zt} {Q : Option Value → Wx → Zt → Prop} {a0 : Nat} {v1 : Int} (o_a0 : Is11 x a0)
    (h : Rg v1 ∧ (((v1 < 0) → (V mX11_end k n 15 [none, none] [] x Z Q)) ∧ ((0 ≤ v1) → (Rg (Z (a0 + 1) 1) ∧ (((v1 ≤ Z (a0 + 1) 1) → (∀ Z1 : Zt, Z1 = up Z (a0 + 1) 1 v1 → (Q (some (i_ v1)) x Z1))) ∧ ((Z (a0 + 1) 1 < v1) → (V mX11_end k n 15 [none, none] [] x Z Q))))))) :
    V mX11_end k n 0 [some (r_ a0), some (i_ v1)] [] x Z Q :=
  V_iload_n dX11_end_0 rfl (V_if_lt (tgt := 15) dX11_end_1 rfl h.1 (fun c1 => V_msk [false, false] rfl (h.2.1 c1)) (fun c1 => V_iload_n dX11_end_4 rfl (V_aload_n dX11_end_5 rfl (G_11_0 o_a0.1 o_a0.qR0 lf_11_10 dX11_end_6 (G_10_1 o_a0.qK0.1 lf_11_109 dX11_end_9 (V_icmp_le (tgt := 17) dX11_end_12 rfl h.1 (h.2.2 c1).1 (fun c2 => V_aload_n dX11_end_17 rfl (G_11_0 o_a0.1 o_a0.qR0 lf_11_10 dX11_end_18 (V_iload_n dX11_end_21 rfl (P_10_1 o_a0.qK0.1 lf_11_109 dX11_end_22 (V_nmZ (fun Z1 eZ1 => V_iload_n dX11_end_25 rfl (V_iret (ty := .int) dX11_end_26 rfl rfl (((h.2.2 c1).2.1 c2) Z1 eZ1)))))))) (fun c2 => V_msk [false, false] rfl ((h.2.2 c1).2.2 c2))))))))
set_option maxRecDepth 20000 in
theorem b_X11_end_15 {k n : Nat} {x : Wx} {Z : Zt} {Q : Option Value → Wx → Zt → Prop}  
    (h : Q (some (i_ (-1))) x Z) :
    V mX11_end k n 15 [none, none] [] x Z Q :=
  V_iconst dX11_end_15 (V_iret (ty := .int) dX11_end_16 rfl rfl h)
theorem dX11_fault_0 : decode cX11_fault 0 = .ok (.iload_n 1, 1) := by decide +kernel
theorem dX11_fault_1 : decode cX11_fault 1 = .ok (.ifCond .ne 11, 3) := by decide +kernel
theorem dX11_fault_4 : decode cX11_fault 4 = .ok (.aload_n 0, 1) := by decide +kernel
theorem dX11_fault_5 : decode cX11_fault 5 = .ok (.getfield 10, 3) := by decide +kernel
theorem dX11_fault_8 : decode cX11_fault 8 = .ok (.getfield 116, 3) := by decide +kernel
theorem dX11_fault_11 : decode cX11_fault 11 = .ok (.ireturn, 1) := by decide +kernel
theorem dX11_fault_12 : decode cX11_fault 12 = .ok (.iload_n 1, 1) := by decide +kernel
theorem dX11_fault_13 : decode cX11_fault 13 = .ok (.iconst 1, 1) := by decide +kernel
theorem dX11_fault_14 : decode cX11_fault 14 = .ok (.if_icmp .ne 13, 3) := by decide +kernel
theorem dX11_fault_17 : decode cX11_fault 17 = .ok (.aload_n 0, 1) := by decide +kernel
theorem dX11_fault_18 : decode cX11_fault 18 = .ok (.getfield 10, 3) := by decide +kernel
theorem dX11_fault_21 : decode cX11_fault 21 = .ok (.getfield 119, 3) := by decide +kernel
theorem dX11_fault_24 : decode cX11_fault 24 = .ok (.goto 4, 3) := by decide +kernel
theorem dX11_fault_27 : decode cX11_fault 27 = .ok (.iconst (-1), 1) := by decide +kernel
theorem dX11_fault_28 : decode cX11_fault 28 = .ok (.ireturn, 1) := by decide +kernel
set_option maxRecDepth 20000 in
theorem b_X11_fault_0 {k n : Nat} {x : Wx} {Z : Zt} {Q : Option Value → Wx → Zt → Prop} {a0 : Nat} {v1 : Int} (o_a0 : Is11 x a0)
    (h : Rg v1 ∧ (((v1 ≠ 0) → (((v1 ≠ 1) → (Q (some (i_ (-1))) x Z)) ∧ ((v1 = 1) → (Q (some (i_ (Z (a0 + 1) 3))) x Z)))) ∧ ((v1 = 0) → (Q (some (i_ (Z (a0 + 1) 2))) x Z)))) :
    V mX11_fault k n 0 [some (r_ a0), some (i_ v1)] [] x Z Q :=
  V_iload_n dX11_fault_0 rfl (V_if_ne (tgt := 12) dX11_fault_1 rfl h.1 (fun c1 => V_iload_n dX11_fault_12 rfl (V_iconst dX11_fault_13 (V_icmp_ne (tgt := 27) dX11_fault_14 rfl h.1 (rg_c rfl) (fun c2 => V_iconst dX11_fault_27 (V_iret (ty := .int) dX11_fault_28 rfl rfl ((h.2.1 c1).1 c2))) (fun c2 => V_aload_n dX11_fault_17 rfl (G_11_0 o_a0.1 o_a0.qR0 lf_11_10 dX11_fault_18 (G_10_3 o_a0.qK0.1 lf_11_119 dX11_fault_21 (V_goto (tgt := 28) dX11_fault_24 rfl (V_iret (ty := .int) dX11_fault_28 rfl rfl ((h.2.1 c1).2 c2))))))))) (fun c1 => V_aload_n dX11_fault_4 rfl (G_11_0 o_a0.1 o_a0.qR0 lf_11_10 dX11_fault_5 (G_10_2 o_a0.qK0.1 lf_11_116 dX11_fault_8 (V_iret (ty := .int) dX11_fault_11 rfl rfl (h.2.2 c1))))))
theorem dX11_fits_0 : decode cX11_fits 0 = .ok (.aload_n 0, 1) := by decide +kernel
theorem dX11_fits_1 : decode cX11_fits 1 = .ok (.iload_n 1, 1) := by decide +kernel
theorem dX11_fits_2 : decode cX11_fits 2 = .ok (.iload_n 2, 1) := by decide +kernel
theorem dX11_fits_3 : decode cX11_fits 3 = .ok (.invokevirtual 206, 3) := by decide +kernel
theorem dX11_fits_6 : decode cX11_fits 6 = .ok (.ireturn, 1) := by decide +kernel
set_option maxRecDepth 20000 in
theorem b_X11_fits_0 {k n : Nat} {x : Wx} {Z : Zt} {Q : Option Value → Wx → Zt → Prop} {a0 : Nat} {v1 : Int} {v2 : Int} (o_a0 : Is11 x a0)
    (h : ∃ g1 : Ab, (OI x Z a0 g1 ∧ Rg v1 ∧ Rg v2 ∧ (∀ (x'1 : Wx) (Z'1 : Zt) (r'1 : Int), (OI x'1 Z'1 a0 g1 ∧ Fx a0 x x'1 Z Z'1 ∧ r'1 = bI (fitB g1.nw v1 v2) ∧ (fitB g1.nw v1 v2 = true → Z'1 a0 14 = v1)) → ((r'1 = 0 ∨ r'1 = 1) ∧ (Q (some (i_ r'1)) x'1 Z'1))))) :
    V mX11_fits k n 0 [some (r_ a0), some (i_ v1), some (i_ v2)] [] x Z Q :=
  V_aload_n dX11_fits_0 rfl (V_iload_n dX11_fits_1 rfl (V_iload_n dX11_fits_2 rfl (Exists.elim h (fun g1 w1 => V_callV (k' := 0) (n' := 0) (t := 11) (q := (RX11, TX11, 17)) [i_ v1, i_ v2] [] okX11_isFitting o_a0.1 rfl rfl lm_11_206 liX11_isFitting lqX11_isFitting (Nat.le_of_ble_eq_true rfl) (Nat.le_of_ble_eq_true rfl) (Nat.le_of_ble_eq_true rfl) (cat_of rfl) (Nat.le_of_ble_eq_true rfl) (Nat.zero_le _) (Nat.zero_le _) rfl dX11_fits_3 (sp_X11_isFitting o_a0 w1.1 w1.2.1 w1.2.2.1 (fun x'1 Z'1 r'1 p1 => V_iret (ty := .boolean) dX11_fits_6 rfl (nar_z (w1.2.2.2 x'1 Z'1 r'1 p1).1) (w1.2.2.2 x'1 Z'1 r'1 p1).2))))))
theorem dX11_share_0 : decode cX11_share 0 = .ok (.iload_n 2, 1) := by decide +kernel
theorem dX11_share_1 : decode cX11_share 1 = .ok (.iconst (-1), 1) := by decide +kernel
theorem dX11_share_2 : decode cX11_share 2 = .ok (.if_icmp .lt 24, 3) := by decide +kernel
theorem dX11_share_5 : decode cX11_share 5 = .ok (.aload_n 0, 1) := by decide +kernel
theorem dX11_share_6 : decode cX11_share 6 = .ok (.iload_n 1, 1) := by decide +kernel
theorem dX11_share_7 : decode cX11_share 7 = .ok (.invokevirtual 152, 3) := by decide +kernel
theorem dX11_share_10 : decode cX11_share 10 = .ok (.ifCond .eq 16, 3) := by decide +kernel
theorem dX11_share_13 : decode cX11_share 13 = .ok (.iload_n 2, 1) := by decide +kernel
theorem dX11_share_14 : decode cX11_share 14 = .ok (.iconst 2, 1) := by decide +kernel
theorem dX11_share_15 : decode cX11_share 15 = .ok (.aload_n 0, 1) := by decide +kernel
theorem dX11_share_16 : decode cX11_share 16 = .ok (.getfield 60, 3) := by decide +kernel
theorem dX11_share_19 : decode cX11_share 19 = .ok (.getfield 168, 3) := by decide +kernel
theorem dX11_share_22 : decode cX11_share 22 = .ok (.imul, 1) := by decide +kernel
theorem dX11_share_23 : decode cX11_share 23 = .ok (.if_icmp .le 6, 3) := by decide +kernel
theorem dX11_share_26 : decode cX11_share 26 = .ok (.ldc 202, 2) := by decide +kernel
theorem dX11_share_28 : decode cX11_share 28 = .ok (.ireturn, 1) := by decide +kernel
theorem dX11_share_29 : decode cX11_share 29 = .ok (.iload_n 2, 1) := by decide +kernel
theorem dX11_share_30 : decode cX11_share 30 = .ok (.iconst (-1), 1) := by decide +kernel
theorem dX11_share_31 : decode cX11_share 31 = .ok (.if_icmp .ne 14, 3) := by decide +kernel
theorem dX11_share_34 : decode cX11_share 34 = .ok (.aload_n 0, 1) := by decide +kernel
theorem dX11_share_35 : decode cX11_share 35 = .ok (.getfield 60, 3) := by decide +kernel
theorem dX11_share_38 : decode cX11_share 38 = .ok (.iconst 1, 1) := by decide +kernel
theorem dX11_share_39 : decode cX11_share 39 = .ok (.invokevirtual 178, 3) := by decide +kernel
theorem dX11_share_42 : decode cX11_share 42 = .ok (.goto 12, 3) := by decide +kernel
theorem dX11_share_45 : decode cX11_share 45 = .ok (.aload_n 0, 1) := by decide +kernel
theorem dX11_share_46 : decode cX11_share 46 = .ok (.getfield 60, 3) := by decide +kernel
theorem dX11_share_49 : decode cX11_share 49 = .ok (.getfield 203, 3) := by decide +kernel
theorem dX11_share_52 : decode cX11_share 52 = .ok (.iload_n 2, 1) := by decide +kernel
theorem dX11_share_53 : decode cX11_share 53 = .ok (.iaload, 1) := by decide +kernel
theorem dX11_share_54 : decode cX11_share 54 = .ok (.ireturn, 1) := by decide +kernel
set_option maxRecDepth 20000 in
theorem b_X11_share_0 {k n : Nat} {x : Wx} {Z : Zt} {Q : Option Value → Wx → Zt → Prop} {a0 : Nat} {v1 : Int} {v2 : Int} (o_a0 : Is11 x a0)
    (h : Rg v2 ∧ (((v2 < (-1)) → (V mX11_share k n 26 [none, none, none] [] x Z Q)) ∧ (((-1) ≤ v2) → (∃ g1 : Ab, (OI x Z a0 g1 ∧ Rg v1 ∧ (∀ (x'1 : Wx) (Z'1 : Zt) (r'1 : Int), (OI x'1 Z'1 a0 g1 ∧ Fx a0 x x'1 Z Z'1 ∧ r'1 = bI (decide (0 ≤ v1 ∧ v1 < g1.nw.ct 0)) ∧ ((0 ≤ v1 ∧ v1 < g1.nw.ct 0) → Z'1 a0 14 = v1)) → (Is11 x'1 a0 ∧ (Rg r'1 ∧ (((r'1 = 0) → (V mX11_share k n 26 [none, none, none] [] x'1 Z'1 Q)) ∧ ((r'1 ≠ 0) → (Rg (2 * (Z'1 (a0 + 40) 2)) ∧ (((v2 ≤ 2 * (Z'1 (a0 + 40) 2)) → (((v2 ≠ (-1)) → (0 ≤ v2 ∧ v2 < 5 ∧ (Q (some (i_ (Z'1 (a0 + 48) v2.toNat))) x'1 Z'1))) ∧ ((v2 = (-1)) → ((1 ≤ Z'1 (a0 + 40) 2 ∧ Z'1 (a0 + 40) 2 ≤ 2) ∧ (Q (some (i_ (shA (Z'1 ((a0 + 40) + 8)) (1 : Int) (2 * Z'1 (a0 + 40) 2 + 1).toNat 0))) x'1 Z'1))))) ∧ ((2 * (Z'1 (a0 + 40) 2) < v2) → (V mX11_share k n 26 [none, none, none] [] x'1 Z'1 Q)))))))))))))) :
    V mX11_share k n 0 [some (r_ a0), some (i_ v1), some (i_ v2)] [] x Z Q :=
  V_iload_n dX11_share_0 rfl (V_iconst dX11_share_1 (V_icmp_lt (tgt := 26) dX11_share_2 rfl h.1 (rg_c rfl) (fun c1 => V_msk [false, false, false] rfl (h.2.1 c1)) (fun c1 => V_aload_n dX11_share_5 rfl (V_iload_n dX11_share_6 rfl (Exists.elim (h.2.2 c1) (fun g1 w1 => V_callV (k' := 0) (n' := 0) (t := 11) (q := (RX11, TX11, 17)) [i_ v1] [] okX11_isReady o_a0.1 rfl rfl lm_11_152 liX11_isReady lqX11_isReady (Nat.le_of_ble_eq_true rfl) (Nat.le_of_ble_eq_true rfl) (Nat.le_of_ble_eq_true rfl) (cat_of rfl) (Nat.le_of_ble_eq_true rfl) (Nat.zero_le _) (Nat.zero_le _) rfl dX11_share_7 (sp_X11_isReady o_a0 w1.1 w1.2.1 (fun x'1 Z'1 r'1 p1 => V_if_eq (tgt := 26) dX11_share_10 rfl (w1.2.2 x'1 Z'1 r'1 p1).2.1 (fun c2 => V_msk [false, false, false] rfl ((w1.2.2 x'1 Z'1 r'1 p1).2.2.1 c2)) (fun c2 => V_iload_n dX11_share_13 rfl (V_iconst dX11_share_14 (V_aload_n dX11_share_15 rfl (G_11_7 (w1.2.2 x'1 Z'1 r'1 p1).1.1 (w1.2.2 x'1 Z'1 r'1 p1).1.qR7 lf_11_60 dX11_share_16 (G_2_2 (w1.2.2 x'1 Z'1 r'1 p1).1.qK7.1 lf_11_168 dX11_share_19 (V_imul dX11_share_22 (V_icmp_le (tgt := 29) dX11_share_23 rfl h.1 ((w1.2.2 x'1 Z'1 r'1 p1).2.2.2 c2).1 (fun c3 => V_iload_n dX11_share_29 rfl (V_iconst dX11_share_30 (V_icmp_ne (tgt := 45) dX11_share_31 rfl h.1 (rg_c rfl) (fun c4 => V_aload_n dX11_share_45 rfl (G_11_7 (w1.2.2 x'1 Z'1 r'1 p1).1.1 (w1.2.2 x'1 Z'1 r'1 p1).1.qR7 lf_11_60 dX11_share_46 (G_2_6 (w1.2.2 x'1 Z'1 r'1 p1).1.qK7.1 (w1.2.2 x'1 Z'1 r'1 p1).1.qK7.2.2.2.2.2.2.2.2.2.1 lf_11_203 dX11_share_49 (V_iload_n dX11_share_52 rfl (V_iald (t := 100) (w1.2.2 x'1 Z'1 r'1 p1).1.qK7.2.2.2.2.2.2.2.2.2.2.1 (by decide) rfl ((((w1.2.2 x'1 Z'1 r'1 p1).2.2.2 c2).2.1 c3).1 c4).1 ((((w1.2.2 x'1 Z'1 r'1 p1).2.2.2 c2).2.1 c3).1 c4).2.1 (Nat.le_of_ble_eq_true rfl) dX11_share_53 (V_iret (ty := .int) dX11_share_54 rfl rfl ((((w1.2.2 x'1 Z'1 r'1 p1).2.2.2 c2).2.1 c3).1 c4).2.2)))))) (fun c4 => V_aload_n dX11_share_34 rfl (G_11_7 (w1.2.2 x'1 Z'1 r'1 p1).1.1 (w1.2.2 x'1 Z'1 r'1 p1).1.qR7 lf_11_60 dX11_share_35 (V_iconst dX11_share_38 (V_callV (k' := 0) (n' := 0) (t := 2) (q := (RX2, TX2, 17)) [i_ 1] [] okX2_shareAt (w1.2.2 x'1 Z'1 r'1 p1).1.qK7.1 rfl rfl lm_11_178 liX2_shareAt lqX2_shareAt (Nat.le_of_ble_eq_true rfl) (Nat.le_of_ble_eq_true rfl) (Nat.le_of_ble_eq_true rfl) (cat_of rfl) (Nat.le_of_ble_eq_true rfl) (Nat.zero_le _) (Nat.zero_le _) rfl dX11_share_39 (sp_X2_shareAt (w1.2.2 x'1 Z'1 r'1 p1).1.qK7 ((((w1.2.2 x'1 Z'1 r'1 p1).2.2.2 c2).2.1 c3).2 c4).1 (V_goto (tgt := 54) dX11_share_42 rfl (V_iret (ty := .int) dX11_share_54 rfl rfl ((((w1.2.2 x'1 Z'1 r'1 p1).2.2.2 c2).2.1 c3).2 c4).2)))))))))) (fun c3 => V_msk [false, false, false] rfl (((w1.2.2 x'1 Z'1 r'1 p1).2.2.2 c2).2.2 c3)))))))))))))))))
set_option maxRecDepth 20000 in
theorem b_X11_share_26 {k n : Nat} {x : Wx} {Z : Zt} {Q : Option Value → Wx → Zt → Prop}  
    (h : Q (some (i_ (-1000000))) x Z) :
    V mX11_share k n 26 [none, none, none] [] x Z Q :=
  V_ldc (z := (-1000000)) dX11_share_26 lk_11_202 (V_iret (ty := .int) dX11_share_28 rfl rfl h)
theorem dX11_counted_0 : decode cX11_counted 0 = .ok (.iload_n 2, 1) := by decide +kernel
theorem dX11_counted_1 : decode cX11_counted 1 = .ok (.iconst 1, 1) := by decide +kernel
theorem dX11_counted_2 : decode cX11_counted 2 = .ok (.if_icmp .lt 17, 3) := by decide +kernel
theorem dX11_counted_5 : decode cX11_counted 5 = .ok (.iload_n 2, 1) := by decide +kernel
theorem dX11_counted_6 : decode cX11_counted 6 = .ok (.bipush 12, 2) := by decide +kernel
theorem dX11_counted_8 : decode cX11_counted 8 = .ok (.if_icmp .gt 11, 3) := by decide +kernel
theorem dX11_counted_11 : decode cX11_counted 11 = .ok (.aload_n 0, 1) := by decide +kernel
theorem dX11_counted_12 : decode cX11_counted 12 = .ok (.iload_n 1, 1) := by decide +kernel
theorem dX11_counted_13 : decode cX11_counted 13 = .ok (.invokevirtual 152, 3) := by decide +kernel
theorem dX11_counted_16 : decode cX11_counted 16 = .ok (.ifCond .ne 7, 3) := by decide +kernel
theorem dX11_counted_19 : decode cX11_counted 19 = .ok (.ldc2_w 194, 3) := by decide +kernel
theorem dX11_counted_22 : decode cX11_counted 22 = .ok (.lreturn, 1) := by decide +kernel
theorem dX11_counted_23 : decode cX11_counted 23 = .ok (.iload_n 3, 1) := by decide +kernel
theorem dX11_counted_24 : decode cX11_counted 24 = .ok (.ifCond .eq 15, 3) := by decide +kernel
theorem dX11_counted_27 : decode cX11_counted 27 = .ok (.aload_n 0, 1) := by decide +kernel
theorem dX11_counted_28 : decode cX11_counted 28 = .ok (.getfield 60, 3) := by decide +kernel
theorem dX11_counted_31 : decode cX11_counted 31 = .ok (.getfield 196, 3) := by decide +kernel
theorem dX11_counted_34 : decode cX11_counted 34 = .ok (.iload_n 2, 1) := by decide +kernel
theorem dX11_counted_35 : decode cX11_counted 35 = .ok (.laload, 1) := by decide +kernel
theorem dX11_counted_36 : decode cX11_counted 36 = .ok (.goto 12, 3) := by decide +kernel
theorem dX11_counted_39 : decode cX11_counted 39 = .ok (.aload_n 0, 1) := by decide +kernel
theorem dX11_counted_40 : decode cX11_counted 40 = .ok (.getfield 60, 3) := by decide +kernel
theorem dX11_counted_43 : decode cX11_counted 43 = .ok (.getfield 200, 3) := by decide +kernel
theorem dX11_counted_46 : decode cX11_counted 46 = .ok (.iload_n 2, 1) := by decide +kernel
theorem dX11_counted_47 : decode cX11_counted 47 = .ok (.laload, 1) := by decide +kernel
theorem dX11_counted_48 : decode cX11_counted 48 = .ok (.lreturn, 1) := by decide +kernel
set_option maxRecDepth 20000 in
theorem b_X11_counted_0 {k n : Nat} {x : Wx} {Z : Zt} {Q : Option Value → Wx → Zt → Prop} {a0 : Nat} {v1 : Int} {v2 : Int} {v3 : Int} (o_a0 : Is11 x a0)
    (h : Rg v2 ∧ (((v2 < 1) → (V mX11_counted k n 19 [none, none, none, none] [] x Z Q)) ∧ ((1 ≤ v2) → (((12 < v2) → (V mX11_counted k n 19 [none, none, none, none] [] x Z Q)) ∧ ((v2 ≤ 12) → (∃ g1 : Ab, (OI x Z a0 g1 ∧ Rg v1 ∧ (∀ (x'1 : Wx) (Z'1 : Zt) (r'1 : Int), (OI x'1 Z'1 a0 g1 ∧ Fx a0 x x'1 Z Z'1 ∧ r'1 = bI (decide (0 ≤ v1 ∧ v1 < g1.nw.ct 0)) ∧ ((0 ≤ v1 ∧ v1 < g1.nw.ct 0) → Z'1 a0 14 = v1)) → (Is11 x'1 a0 ∧ (Rg r'1 ∧ (((r'1 ≠ 0) → (Rg v3 ∧ (((v3 = 0) → (0 ≤ v2 ∧ v2 < 13 ∧ (Q (some (l_ (Z'1 (a0 + 49) v2.toNat))) x'1 Z'1))) ∧ ((v3 ≠ 0) → (0 ≤ v2 ∧ v2 < 13 ∧ (Q (some (l_ (Z'1 (a0 + 50) v2.toNat))) x'1 Z'1)))))) ∧ ((r'1 = 0) → (V mX11_counted k n 19 [none, none, none, none] [] x'1 Z'1 Q))))))))))))) :
    V mX11_counted k n 0 [some (r_ a0), some (i_ v1), some (i_ v2), some (i_ v3)] [] x Z Q :=
  V_iload_n dX11_counted_0 rfl (V_iconst dX11_counted_1 (V_icmp_lt (tgt := 19) dX11_counted_2 rfl h.1 (rg_c rfl) (fun c1 => V_msk [false, false, false, false] rfl (h.2.1 c1)) (fun c1 => V_iload_n dX11_counted_5 rfl (V_bipush dX11_counted_6 rfl (V_icmp_gt (tgt := 19) dX11_counted_8 rfl h.1 (rg_c rfl) (fun c2 => V_msk [false, false, false, false] rfl ((h.2.2 c1).1 c2)) (fun c2 => V_aload_n dX11_counted_11 rfl (V_iload_n dX11_counted_12 rfl (Exists.elim ((h.2.2 c1).2 c2) (fun g1 w1 => V_callV (k' := 0) (n' := 0) (t := 11) (q := (RX11, TX11, 17)) [i_ v1] [] okX11_isReady o_a0.1 rfl rfl lm_11_152 liX11_isReady lqX11_isReady (Nat.le_of_ble_eq_true rfl) (Nat.le_of_ble_eq_true rfl) (Nat.le_of_ble_eq_true rfl) (cat_of rfl) (Nat.le_of_ble_eq_true rfl) (Nat.zero_le _) (Nat.zero_le _) rfl dX11_counted_13 (sp_X11_isReady o_a0 w1.1 w1.2.1 (fun x'1 Z'1 r'1 p1 => V_if_ne (tgt := 23) dX11_counted_16 rfl (w1.2.2 x'1 Z'1 r'1 p1).2.1 (fun c3 => V_iload_n dX11_counted_23 rfl (V_if_eq (tgt := 39) dX11_counted_24 rfl ((w1.2.2 x'1 Z'1 r'1 p1).2.2.1 c3).1 (fun c4 => V_aload_n dX11_counted_39 rfl (G_11_7 (w1.2.2 x'1 Z'1 r'1 p1).1.1 (w1.2.2 x'1 Z'1 r'1 p1).1.qR7 lf_11_60 dX11_counted_40 (G_2_7 (w1.2.2 x'1 Z'1 r'1 p1).1.qK7.1 (w1.2.2 x'1 Z'1 r'1 p1).1.qK7.2.2.2.2.2.2.2.2.2.2.2.1 lf_11_200 dX11_counted_43 (V_iload_n dX11_counted_46 rfl (V_lald (t := 103) (w1.2.2 x'1 Z'1 r'1 p1).1.qK7.2.2.2.2.2.2.2.2.2.2.2.2.1 (by decide) rfl (((w1.2.2 x'1 Z'1 r'1 p1).2.2.1 c3).2.1 c4).1 (((w1.2.2 x'1 Z'1 r'1 p1).2.2.1 c3).2.1 c4).2.1 (Nat.le_of_ble_eq_true rfl) dX11_counted_47 (V_lret dX11_counted_48 rfl (((w1.2.2 x'1 Z'1 r'1 p1).2.2.1 c3).2.1 c4).2.2)))))) (fun c4 => V_aload_n dX11_counted_27 rfl (G_11_7 (w1.2.2 x'1 Z'1 r'1 p1).1.1 (w1.2.2 x'1 Z'1 r'1 p1).1.qR7 lf_11_60 dX11_counted_28 (G_2_8 (w1.2.2 x'1 Z'1 r'1 p1).1.qK7.1 (w1.2.2 x'1 Z'1 r'1 p1).1.qK7.2.2.2.2.2.2.2.2.2.2.2.2.2.1 lf_11_196 dX11_counted_31 (V_iload_n dX11_counted_34 rfl (V_lald (t := 103) (w1.2.2 x'1 Z'1 r'1 p1).1.qK7.2.2.2.2.2.2.2.2.2.2.2.2.2.2.1 (by decide) rfl (((w1.2.2 x'1 Z'1 r'1 p1).2.2.1 c3).2.2 c4).1 (((w1.2.2 x'1 Z'1 r'1 p1).2.2.1 c3).2.2 c4).2.1 (Nat.le_of_ble_eq_true rfl) dX11_counted_35 (V_goto (tgt := 48) dX11_counted_36 rfl (V_lret dX11_counted_48 rfl (((w1.2.2 x'1 Z'1 r'1 p1).2.2.1 c3).2.2 c4).2.2))))))))) (fun c3 => V_msk [false, false, false, false] rfl ((w1.2.2 x'1 Z'1 r'1 p1).2.2.2 c3)))))))))))))
set_option maxRecDepth 20000 in
theorem b_X11_counted_19 {k n : Nat} {x : Wx} {Z : Zt} {Q : Option Value → Wx → Zt → Prop}  
    (h : Q (some (l_ (-1))) x Z) :
    V mX11_counted k n 19 [none, none, none, none] [] x Z Q :=
  V_ldc2 (z := (-1)) dX11_counted_19 lkl_11_194 (V_lret dX11_counted_22 rfl h)
theorem dX11_point_0 : decode cX11_point 0 = .ok (.aload_n 0, 1) := by decide +kernel
theorem dX11_point_1 : decode cX11_point 1 = .ok (.iload_n 1, 1) := by decide +kernel
theorem dX11_point_2 : decode cX11_point 2 = .ok (.invokevirtual 152, 3) := by decide +kernel
theorem dX11_point_5 : decode cX11_point 5 = .ok (.ifCond .eq 14, 3) := by decide +kernel
theorem dX11_point_8 : decode cX11_point 8 = .ok (.aload_n 0, 1) := by decide +kernel
theorem dX11_point_9 : decode cX11_point 9 = .ok (.getfield 60, 3) := by decide +kernel
theorem dX11_point_12 : decode cX11_point 12 = .ok (.iload_n 2, 1) := by decide +kernel
theorem dX11_point_13 : decode cX11_point 13 = .ok (.invokevirtual 182, 3) := by decide +kernel
theorem dX11_point_16 : decode cX11_point 16 = .ok (.ifCond .ne 5, 3) := by decide +kernel
theorem dX11_point_19 : decode cX11_point 19 = .ok (.iconst (-1), 1) := by decide +kernel
theorem dX11_point_20 : decode cX11_point 20 = .ok (.ireturn, 1) := by decide +kernel
theorem dX11_point_21 : decode cX11_point 21 = .ok (.iload_n 3, 1) := by decide +kernel
theorem dX11_point_22 : decode cX11_point 22 = .ok (.tableswitch 63 0 2 #[26, 36, 46], 26) := by decide +kernel
theorem dX11_point_48 : decode cX11_point 48 = .ok (.aload_n 0, 1) := by decide +kernel
theorem dX11_point_49 : decode cX11_point 49 = .ok (.getfield 60, 3) := by decide +kernel
theorem dX11_point_52 : decode cX11_point 52 = .ok (.getfield 185, 3) := by decide +kernel
theorem dX11_point_55 : decode cX11_point 55 = .ok (.iload_n 2, 1) := by decide +kernel
theorem dX11_point_56 : decode cX11_point 56 = .ok (.iaload, 1) := by decide +kernel
theorem dX11_point_57 : decode cX11_point 57 = .ok (.ireturn, 1) := by decide +kernel
theorem dX11_point_58 : decode cX11_point 58 = .ok (.aload_n 0, 1) := by decide +kernel
theorem dX11_point_59 : decode cX11_point 59 = .ok (.getfield 60, 3) := by decide +kernel
theorem dX11_point_62 : decode cX11_point 62 = .ok (.getfield 188, 3) := by decide +kernel
theorem dX11_point_65 : decode cX11_point 65 = .ok (.iload_n 2, 1) := by decide +kernel
theorem dX11_point_66 : decode cX11_point 66 = .ok (.iaload, 1) := by decide +kernel
theorem dX11_point_67 : decode cX11_point 67 = .ok (.ireturn, 1) := by decide +kernel
theorem dX11_point_68 : decode cX11_point 68 = .ok (.aload_n 0, 1) := by decide +kernel
theorem dX11_point_69 : decode cX11_point 69 = .ok (.getfield 60, 3) := by decide +kernel
theorem dX11_point_72 : decode cX11_point 72 = .ok (.iload_n 2, 1) := by decide +kernel
theorem dX11_point_73 : decode cX11_point 73 = .ok (.invokevirtual 191, 3) := by decide +kernel
theorem dX11_point_76 : decode cX11_point 76 = .ok (.ifCond .eq 7, 3) := by decide +kernel
theorem dX11_point_79 : decode cX11_point 79 = .ok (.iconst 1, 1) := by decide +kernel
theorem dX11_point_80 : decode cX11_point 80 = .ok (.goto 4, 3) := by decide +kernel
theorem dX11_point_83 : decode cX11_point 83 = .ok (.iconst 0, 1) := by decide +kernel
theorem dX11_point_84 : decode cX11_point 84 = .ok (.ireturn, 1) := by decide +kernel
theorem dX11_point_85 : decode cX11_point 85 = .ok (.iconst (-1), 1) := by decide +kernel
theorem dX11_point_86 : decode cX11_point 86 = .ok (.ireturn, 1) := by decide +kernel
set_option maxRecDepth 20000 in
theorem b_X11_point_0 {k n : Nat} {x : Wx} {Z : Zt} {Q : Option Value → Wx → Zt → Prop} {a0 : Nat} {v1 : Int} {v2 : Int} {v3 : Int} (o_a0 : Is11 x a0)
    (h : ∃ g1 : Ab, (OI x Z a0 g1 ∧ Rg v1 ∧ (∀ (x'1 : Wx) (Z'1 : Zt) (r'1 : Int), (OI x'1 Z'1 a0 g1 ∧ Fx a0 x x'1 Z Z'1 ∧ r'1 = bI (decide (0 ≤ v1 ∧ v1 < g1.nw.ct 0)) ∧ ((0 ≤ v1 ∧ v1 < g1.nw.ct 0) → Z'1 a0 14 = v1)) → (Is11 x'1 a0 ∧ (Rg r'1 ∧ (((r'1 = 0) → (V mX11_point k n 19 [none, none, none, none] [] x'1 Z'1 Q)) ∧ ((r'1 ≠ 0) → (Rg v2 ∧ Rg (Z'1 (a0 + 40) 3) ∧ (Rg (bI (decide (0 ≤ v2 ∧ v2 < Z'1 (a0 + 40) 3))) ∧ (((bI (decide (0 ≤ v2 ∧ v2 < Z'1 (a0 + 40) 3)) ≠ 0) → (Rg v3 ∧ ((v3 = 0 → (0 ≤ v2 ∧ v2 < 27 ∧ (Q (some (i_ (Z'1 (a0 + 46) v2.toNat))) x'1 Z'1))) ∧ (v3 = 1 → (0 ≤ v2 ∧ v2 < 27 ∧ (Q (some (i_ (Z'1 (a0 + 47) v2.toNat))) x'1 Z'1))) ∧ (v3 = 2 → (∃ g2 : List (Int × Int), (PtA Z'1 (a0 + 40) g2 ∧ PtR g2 ∧ (0 ≤ v2 ∧ v2 < g2.length) ∧ (Rg (bI (fxd g2 v2)) ∧ (((bI (fxd g2 v2) = 0) → (Q (some (i_ 0)) x'1 Z'1)) ∧ ((bI (fxd g2 v2) ≠ 0) → (Q (some (i_ 1)) x'1 Z'1))))))) ∧ ((v3 < 0 ∨ 2 < v3) → (Q (some (i_ (-1))) x'1 Z'1))))) ∧ ((bI (decide (0 ≤ v2 ∧ v2 < Z'1 (a0 + 40) 3)) = 0) → (V mX11_point k n 19 [none, none, none, none] [] x'1 Z'1 Q)))))))))))) :
    V mX11_point k n 0 [some (r_ a0), some (i_ v1), some (i_ v2), some (i_ v3)] [] x Z Q :=
  V_aload_n dX11_point_0 rfl (V_iload_n dX11_point_1 rfl (Exists.elim h (fun g1 w1 => V_callV (k' := 0) (n' := 0) (t := 11) (q := (RX11, TX11, 17)) [i_ v1] [] okX11_isReady o_a0.1 rfl rfl lm_11_152 liX11_isReady lqX11_isReady (Nat.le_of_ble_eq_true rfl) (Nat.le_of_ble_eq_true rfl) (Nat.le_of_ble_eq_true rfl) (cat_of rfl) (Nat.le_of_ble_eq_true rfl) (Nat.zero_le _) (Nat.zero_le _) rfl dX11_point_2 (sp_X11_isReady o_a0 w1.1 w1.2.1 (fun x'1 Z'1 r'1 p1 => V_if_eq (tgt := 19) dX11_point_5 rfl (w1.2.2 x'1 Z'1 r'1 p1).2.1 (fun c1 => V_msk [false, false, false, false] rfl ((w1.2.2 x'1 Z'1 r'1 p1).2.2.1 c1)) (fun c1 => V_aload_n dX11_point_8 rfl (G_11_7 (w1.2.2 x'1 Z'1 r'1 p1).1.1 (w1.2.2 x'1 Z'1 r'1 p1).1.qR7 lf_11_60 dX11_point_9 (V_iload_n dX11_point_12 rfl (V_callV (k' := 0) (n' := 0) (t := 2) (q := (RX2, TX2, 17)) [i_ v2] [] okX2_hasPoint (w1.2.2 x'1 Z'1 r'1 p1).1.qK7.1 rfl rfl lm_11_182 liX2_hasPoint lqX2_hasPoint (Nat.le_of_ble_eq_true rfl) (Nat.le_of_ble_eq_true rfl) (Nat.le_of_ble_eq_true rfl) (cat_of rfl) (Nat.le_of_ble_eq_true rfl) (Nat.zero_le _) (Nat.zero_le _) rfl dX11_point_13 (sp_X2_hasPoint (w1.2.2 x'1 Z'1 r'1 p1).1.qK7 ((w1.2.2 x'1 Z'1 r'1 p1).2.2.2 c1).1 ((w1.2.2 x'1 Z'1 r'1 p1).2.2.2 c1).2.1 (V_if_ne (tgt := 21) dX11_point_16 rfl ((w1.2.2 x'1 Z'1 r'1 p1).2.2.2 c1).2.2.1 (fun c2 => V_iload_n dX11_point_21 rfl ((by
    rcases sw0_3 v3 with c3 | c4 | c5 | c7
    · exact V_tableIn (tgt := 48) dX11_point_22 (((w1.2.2 x'1 Z'1 r'1 p1).2.2.2 c1).2.2.2.1 c2).1 (by rw [c3]; decide) (by rw [c3]; decide) (by rw [c3]; rfl) rfl (V_aload_n dX11_point_48 rfl (G_11_7 (w1.2.2 x'1 Z'1 r'1 p1).1.1 (w1.2.2 x'1 Z'1 r'1 p1).1.qR7 lf_11_60 dX11_point_49 (G_2_4 (w1.2.2 x'1 Z'1 r'1 p1).1.qK7.1 (w1.2.2 x'1 Z'1 r'1 p1).1.qK7.2.2.2.2.2.1 lf_11_185 dX11_point_52 (V_iload_n dX11_point_55 rfl (V_iald (t := 100) (w1.2.2 x'1 Z'1 r'1 p1).1.qK7.2.2.2.2.2.2.1 (by decide) rfl ((((w1.2.2 x'1 Z'1 r'1 p1).2.2.2 c1).2.2.2.1 c2).2.1 c3).1 ((((w1.2.2 x'1 Z'1 r'1 p1).2.2.2 c1).2.2.2.1 c2).2.1 c3).2.1 (Nat.le_of_ble_eq_true rfl) dX11_point_56 (V_iret (ty := .int) dX11_point_57 rfl rfl ((((w1.2.2 x'1 Z'1 r'1 p1).2.2.2 c1).2.2.2.1 c2).2.1 c3).2.2))))))
    · exact V_tableIn (tgt := 58) dX11_point_22 (((w1.2.2 x'1 Z'1 r'1 p1).2.2.2 c1).2.2.2.1 c2).1 (by rw [c4]; decide) (by rw [c4]; decide) (by rw [c4]; rfl) rfl (V_aload_n dX11_point_58 rfl (G_11_7 (w1.2.2 x'1 Z'1 r'1 p1).1.1 (w1.2.2 x'1 Z'1 r'1 p1).1.qR7 lf_11_60 dX11_point_59 (G_2_5 (w1.2.2 x'1 Z'1 r'1 p1).1.qK7.1 (w1.2.2 x'1 Z'1 r'1 p1).1.qK7.2.2.2.2.2.2.2.1 lf_11_188 dX11_point_62 (V_iload_n dX11_point_65 rfl (V_iald (t := 100) (w1.2.2 x'1 Z'1 r'1 p1).1.qK7.2.2.2.2.2.2.2.2.1 (by decide) rfl ((((w1.2.2 x'1 Z'1 r'1 p1).2.2.2 c1).2.2.2.1 c2).2.2.1 c4).1 ((((w1.2.2 x'1 Z'1 r'1 p1).2.2.2 c1).2.2.2.1 c2).2.2.1 c4).2.1 (Nat.le_of_ble_eq_true rfl) dX11_point_66 (V_iret (ty := .int) dX11_point_67 rfl rfl ((((w1.2.2 x'1 Z'1 r'1 p1).2.2.2 c1).2.2.2.1 c2).2.2.1 c4).2.2))))))
    · exact V_tableIn (tgt := 68) dX11_point_22 (((w1.2.2 x'1 Z'1 r'1 p1).2.2.2 c1).2.2.2.1 c2).1 (by rw [c5]; decide) (by rw [c5]; decide) (by rw [c5]; rfl) rfl (V_aload_n dX11_point_68 rfl (G_11_7 (w1.2.2 x'1 Z'1 r'1 p1).1.1 (w1.2.2 x'1 Z'1 r'1 p1).1.qR7 lf_11_60 dX11_point_69 (V_iload_n dX11_point_72 rfl (Exists.elim ((((w1.2.2 x'1 Z'1 r'1 p1).2.2.2 c1).2.2.2.1 c2).2.2.2.1 c5) (fun g2 w2 => V_callV (k' := 0) (n' := 0) (t := 2) (q := (RX2, TX2, 17)) [i_ v2] [] okX2_isFixed (w1.2.2 x'1 Z'1 r'1 p1).1.qK7.1 rfl rfl lm_11_191 liX2_isFixed lqX2_isFixed (Nat.le_of_ble_eq_true rfl) (Nat.le_of_ble_eq_true rfl) (Nat.le_of_ble_eq_true rfl) (cat_of rfl) (Nat.le_of_ble_eq_true rfl) (Nat.zero_le _) (Nat.zero_le _) rfl dX11_point_73 (sp_X2_isFixed (w1.2.2 x'1 Z'1 r'1 p1).1.qK7 w2.1 w2.2.1 w2.2.2.1 (V_if_eq (tgt := 83) dX11_point_76 rfl w2.2.2.2.1 (fun c6 => V_iconst dX11_point_83 (V_iret (ty := .int) dX11_point_84 rfl rfl (w2.2.2.2.2.1 c6))) (fun c6 => V_iconst dX11_point_79 (V_goto (tgt := 84) dX11_point_80 rfl (V_iret (ty := .int) dX11_point_84 rfl rfl (w2.2.2.2.2.2 c6)))))))))))
    · exact V_tableOut (tgt := 85) dX11_point_22 (((w1.2.2 x'1 Z'1 r'1 p1).2.2.2 c1).2.2.2.1 c2).1 c7 rfl (V_iconst dX11_point_85 (V_iret (ty := .int) dX11_point_86 rfl rfl ((((w1.2.2 x'1 Z'1 r'1 p1).2.2.2 c1).2.2.2.1 c2).2.2.2.2 c7)))))) (fun c2 => V_msk [false, false, false, false] rfl (((w1.2.2 x'1 Z'1 r'1 p1).2.2.2 c1).2.2.2.2 c2)))))))))))))
set_option maxRecDepth 20000 in
theorem b_X11_point_19 {k n : Nat} {x : Wx} {Z : Zt} {Q : Option Value → Wx → Zt → Prop}  
    (h : Q (some (i_ (-1))) x Z) :
    V mX11_point k n 19 [none, none, none, none] [] x Z Q :=
  V_iconst dX11_point_19 (V_iret (ty := .int) dX11_point_20 rfl rfl h)
theorem dX11_gap_0 : decode cX11_gap 0 = .ok (.aload_n 0, 1) := by decide +kernel
theorem dX11_gap_1 : decode cX11_gap 1 = .ok (.iload_n 1, 1) := by decide +kernel
theorem dX11_gap_2 : decode cX11_gap 2 = .ok (.invokevirtual 152, 3) := by decide +kernel
theorem dX11_gap_5 : decode cX11_gap 5 = .ok (.ifCond .eq 29, 3) := by decide +kernel
theorem dX11_gap_8 : decode cX11_gap 8 = .ok (.aload_n 0, 1) := by decide +kernel
theorem dX11_gap_9 : decode cX11_gap 9 = .ok (.getfield 60, 3) := by decide +kernel
theorem dX11_gap_12 : decode cX11_gap 12 = .ok (.iload_n 2, 1) := by decide +kernel
theorem dX11_gap_13 : decode cX11_gap 13 = .ok (.invokevirtual 182, 3) := by decide +kernel
theorem dX11_gap_16 : decode cX11_gap 16 = .ok (.ifCond .eq 18, 3) := by decide +kernel
theorem dX11_gap_19 : decode cX11_gap 19 = .ok (.iload_n 3, 1) := by decide +kernel
theorem dX11_gap_20 : decode cX11_gap 20 = .ok (.ifCond .lt 14, 3) := by decide +kernel
theorem dX11_gap_23 : decode cX11_gap 23 = .ok (.iload_n 3, 1) := by decide +kernel
theorem dX11_gap_24 : decode cX11_gap 24 = .ok (.aload_n 0, 1) := by decide +kernel
theorem dX11_gap_25 : decode cX11_gap 25 = .ok (.getfield 60, 3) := by decide +kernel
theorem dX11_gap_28 : decode cX11_gap 28 = .ok (.getfield 168, 3) := by decide +kernel
theorem dX11_gap_31 : decode cX11_gap 31 = .ok (.if_icmp .lt 5, 3) := by decide +kernel
theorem dX11_gap_34 : decode cX11_gap 34 = .ok (.iconst (-1), 1) := by decide +kernel
theorem dX11_gap_35 : decode cX11_gap 35 = .ok (.ireturn, 1) := by decide +kernel
theorem dX11_gap_36 : decode cX11_gap 36 = .ok (.iload_n 3, 1) := by decide +kernel
theorem dX11_gap_37 : decode cX11_gap 37 = .ok (.iconst 1, 1) := by decide +kernel
theorem dX11_gap_38 : decode cX11_gap 38 = .ok (.if_icmp .ne 18, 3) := by decide +kernel
theorem dX11_gap_41 : decode cX11_gap 41 = .ok (.aload_n 0, 1) := by decide +kernel
theorem dX11_gap_42 : decode cX11_gap 42 = .ok (.getfield 60, 3) := by decide +kernel
theorem dX11_gap_45 : decode cX11_gap 45 = .ok (.iload_n 2, 1) := by decide +kernel
theorem dX11_gap_46 : decode cX11_gap 46 = .ok (.invokevirtual 191, 3) := by decide +kernel
theorem dX11_gap_49 : decode cX11_gap 49 = .ok (.ifCond .eq 7, 3) := by decide +kernel
theorem dX11_gap_52 : decode cX11_gap 52 = .ok (.iconst 3, 1) := by decide +kernel
theorem dX11_gap_53 : decode cX11_gap 53 = .ok (.goto 6, 3) := by decide +kernel
theorem dX11_gap_56 : decode cX11_gap 56 = .ok (.iload_n 3, 1) := by decide +kernel
theorem dX11_gap_57 : decode cX11_gap 57 = .ok (.iconst 1, 1) := by decide +kernel
theorem dX11_gap_58 : decode cX11_gap 58 = .ok (.iadd, 1) := by decide +kernel
theorem dX11_gap_59 : decode cX11_gap 59 = .ok (.ireturn, 1) := by decide +kernel
set_option maxRecDepth 20000 in
theorem b_X11_gap_0 {k n : Nat} {x : Wx} {Z : Zt} {Q : Option Value → Wx → Zt → Prop} {a0 : Nat} {v1 : Int} {v2 : Int} {v3 : Int} (o_a0 : Is11 x a0)
    (h : ∃ g1 : Ab, (OI x Z a0 g1 ∧ Rg v1 ∧ (∀ (x'1 : Wx) (Z'1 : Zt) (r'1 : Int), (OI x'1 Z'1 a0 g1 ∧ Fx a0 x x'1 Z Z'1 ∧ r'1 = bI (decide (0 ≤ v1 ∧ v1 < g1.nw.ct 0)) ∧ ((0 ≤ v1 ∧ v1 < g1.nw.ct 0) → Z'1 a0 14 = v1)) → (Is11 x'1 a0 ∧ (Rg r'1 ∧ (((r'1 = 0) → (V mX11_gap k n 34 [none, none, none, none] [] x'1 Z'1 Q)) ∧ ((r'1 ≠ 0) → (Rg v2 ∧ Rg (Z'1 (a0 + 40) 3) ∧ (Rg (bI (decide (0 ≤ v2 ∧ v2 < Z'1 (a0 + 40) 3))) ∧ (((bI (decide (0 ≤ v2 ∧ v2 < Z'1 (a0 + 40) 3)) = 0) → (V mX11_gap k n 34 [none, none, none, none] [] x'1 Z'1 Q)) ∧ ((bI (decide (0 ≤ v2 ∧ v2 < Z'1 (a0 + 40) 3)) ≠ 0) → (Rg v3 ∧ (((v3 < 0) → (V mX11_gap k n 34 [none, none, none, none] [] x'1 Z'1 Q)) ∧ ((0 ≤ v3) → (Rg (Z'1 (a0 + 40) 2) ∧ (((v3 < Z'1 (a0 + 40) 2) → (((v3 ≠ 1) → (V mX11_gap k n 56 [none, none, none, some (i_ v3)] [] x'1 Z'1 Q)) ∧ ((v3 = 1) → (∃ g2 : List (Int × Int), (PtA Z'1 (a0 + 40) g2 ∧ PtR g2 ∧ (0 ≤ v2 ∧ v2 < g2.length) ∧ (Rg (bI (fxd g2 v2)) ∧ (((bI (fxd g2 v2) = 0) → (V mX11_gap k n 56 [none, none, none, some (i_ v3)] [] x'1 Z'1 Q)) ∧ ((bI (fxd g2 v2) ≠ 0) → (Q (some (i_ 3)) x'1 Z'1))))))))) ∧ ((Z'1 (a0 + 40) 2 ≤ v3) → (V mX11_gap k n 34 [none, none, none, none] [] x'1 Z'1 Q)))))))))))))))))) :
    V mX11_gap k n 0 [some (r_ a0), some (i_ v1), some (i_ v2), some (i_ v3)] [] x Z Q :=
  V_aload_n dX11_gap_0 rfl (V_iload_n dX11_gap_1 rfl (Exists.elim h (fun g1 w1 => V_callV (k' := 0) (n' := 0) (t := 11) (q := (RX11, TX11, 17)) [i_ v1] [] okX11_isReady o_a0.1 rfl rfl lm_11_152 liX11_isReady lqX11_isReady (Nat.le_of_ble_eq_true rfl) (Nat.le_of_ble_eq_true rfl) (Nat.le_of_ble_eq_true rfl) (cat_of rfl) (Nat.le_of_ble_eq_true rfl) (Nat.zero_le _) (Nat.zero_le _) rfl dX11_gap_2 (sp_X11_isReady o_a0 w1.1 w1.2.1 (fun x'1 Z'1 r'1 p1 => V_if_eq (tgt := 34) dX11_gap_5 rfl (w1.2.2 x'1 Z'1 r'1 p1).2.1 (fun c1 => V_msk [false, false, false, false] rfl ((w1.2.2 x'1 Z'1 r'1 p1).2.2.1 c1)) (fun c1 => V_aload_n dX11_gap_8 rfl (G_11_7 (w1.2.2 x'1 Z'1 r'1 p1).1.1 (w1.2.2 x'1 Z'1 r'1 p1).1.qR7 lf_11_60 dX11_gap_9 (V_iload_n dX11_gap_12 rfl (V_callV (k' := 0) (n' := 0) (t := 2) (q := (RX2, TX2, 17)) [i_ v2] [] okX2_hasPoint (w1.2.2 x'1 Z'1 r'1 p1).1.qK7.1 rfl rfl lm_11_182 liX2_hasPoint lqX2_hasPoint (Nat.le_of_ble_eq_true rfl) (Nat.le_of_ble_eq_true rfl) (Nat.le_of_ble_eq_true rfl) (cat_of rfl) (Nat.le_of_ble_eq_true rfl) (Nat.zero_le _) (Nat.zero_le _) rfl dX11_gap_13 (sp_X2_hasPoint (w1.2.2 x'1 Z'1 r'1 p1).1.qK7 ((w1.2.2 x'1 Z'1 r'1 p1).2.2.2 c1).1 ((w1.2.2 x'1 Z'1 r'1 p1).2.2.2 c1).2.1 (V_if_eq (tgt := 34) dX11_gap_16 rfl ((w1.2.2 x'1 Z'1 r'1 p1).2.2.2 c1).2.2.1 (fun c2 => V_msk [false, false, false, false] rfl (((w1.2.2 x'1 Z'1 r'1 p1).2.2.2 c1).2.2.2.1 c2)) (fun c2 => V_iload_n dX11_gap_19 rfl (V_if_lt (tgt := 34) dX11_gap_20 rfl (((w1.2.2 x'1 Z'1 r'1 p1).2.2.2 c1).2.2.2.2 c2).1 (fun c3 => V_msk [false, false, false, false] rfl ((((w1.2.2 x'1 Z'1 r'1 p1).2.2.2 c1).2.2.2.2 c2).2.1 c3)) (fun c3 => V_iload_n dX11_gap_23 rfl (V_aload_n dX11_gap_24 rfl (G_11_7 (w1.2.2 x'1 Z'1 r'1 p1).1.1 (w1.2.2 x'1 Z'1 r'1 p1).1.qR7 lf_11_60 dX11_gap_25 (G_2_2 (w1.2.2 x'1 Z'1 r'1 p1).1.qK7.1 lf_11_168 dX11_gap_28 (V_icmp_lt (tgt := 36) dX11_gap_31 rfl (((w1.2.2 x'1 Z'1 r'1 p1).2.2.2 c1).2.2.2.2 c2).1 ((((w1.2.2 x'1 Z'1 r'1 p1).2.2.2 c1).2.2.2.2 c2).2.2 c3).1 (fun c4 => V_iload_n dX11_gap_36 rfl (V_iconst dX11_gap_37 (V_icmp_ne (tgt := 56) dX11_gap_38 rfl (((w1.2.2 x'1 Z'1 r'1 p1).2.2.2 c1).2.2.2.2 c2).1 (rg_c rfl) (fun c5 => V_msk [false, false, false, true] rfl ((((((w1.2.2 x'1 Z'1 r'1 p1).2.2.2 c1).2.2.2.2 c2).2.2 c3).2.1 c4).1 c5)) (fun c5 => V_aload_n dX11_gap_41 rfl (G_11_7 (w1.2.2 x'1 Z'1 r'1 p1).1.1 (w1.2.2 x'1 Z'1 r'1 p1).1.qR7 lf_11_60 dX11_gap_42 (V_iload_n dX11_gap_45 rfl (Exists.elim ((((((w1.2.2 x'1 Z'1 r'1 p1).2.2.2 c1).2.2.2.2 c2).2.2 c3).2.1 c4).2 c5) (fun g2 w2 => V_callV (k' := 0) (n' := 0) (t := 2) (q := (RX2, TX2, 17)) [i_ v2] [] okX2_isFixed (w1.2.2 x'1 Z'1 r'1 p1).1.qK7.1 rfl rfl lm_11_191 liX2_isFixed lqX2_isFixed (Nat.le_of_ble_eq_true rfl) (Nat.le_of_ble_eq_true rfl) (Nat.le_of_ble_eq_true rfl) (cat_of rfl) (Nat.le_of_ble_eq_true rfl) (Nat.zero_le _) (Nat.zero_le _) rfl dX11_gap_46 (sp_X2_isFixed (w1.2.2 x'1 Z'1 r'1 p1).1.qK7 w2.1 w2.2.1 w2.2.2.1 (V_if_eq (tgt := 56) dX11_gap_49 rfl w2.2.2.2.1 (fun c6 => V_msk [false, false, false, true] rfl (w2.2.2.2.2.1 c6)) (fun c6 => V_iconst dX11_gap_52 (V_goto (tgt := 59) dX11_gap_53 rfl (V_iret (ty := .int) dX11_gap_59 rfl rfl (w2.2.2.2.2.2 c6)))))))))))))) (fun c4 => V_msk [false, false, false, false] rfl (((((w1.2.2 x'1 Z'1 r'1 p1).2.2.2 c1).2.2.2.2 c2).2.2 c3).2.2 c4))))))))))))))))))))
set_option maxRecDepth 20000 in
theorem b_X11_gap_34 {k n : Nat} {x : Wx} {Z : Zt} {Q : Option Value → Wx → Zt → Prop}  
    (h : Q (some (i_ (-1))) x Z) :
    V mX11_gap k n 34 [none, none, none, none] [] x Z Q :=
  V_iconst dX11_gap_34 (V_iret (ty := .int) dX11_gap_35 rfl rfl h)
set_option maxRecDepth 20000 in
theorem b_X11_gap_56 {k n : Nat} {x : Wx} {Z : Zt} {Q : Option Value → Wx → Zt → Prop} {v3 : Int} 
    (h : Q (some (i_ (v3 + 1))) x Z) :
    V mX11_gap k n 56 [none, none, none, some (i_ v3)] [] x Z Q :=
  V_iload_n dX11_gap_56 rfl (V_iconst dX11_gap_57 (V_iadd dX11_gap_58 (V_iret (ty := .int) dX11_gap_59 rfl rfl h)))
theorem dX11_under_0 : decode cX11_under 0 = .ok (.iload_n 3, 1) := by decide +kernel
theorem dX11_under_1 : decode cX11_under 1 = .ok (.ifCond .lt 23, 3) := by decide +kernel
theorem dX11_under_4 : decode cX11_under 4 = .ok (.aload_n 0, 1) := by decide +kernel
theorem dX11_under_5 : decode cX11_under 5 = .ok (.iload_n 1, 1) := by decide +kernel
theorem dX11_under_6 : decode cX11_under 6 = .ok (.iload_n 2, 1) := by decide +kernel
theorem dX11_under_7 : decode cX11_under 7 = .ok (.invokevirtual 227, 3) := by decide +kernel
theorem dX11_under_10 : decode cX11_under 10 = .ok (.ifCond .eq 14, 3) := by decide +kernel
theorem dX11_under_13 : decode cX11_under 13 = .ok (.iload_n 3, 1) := by decide +kernel
theorem dX11_under_14 : decode cX11_under 14 = .ok (.aload_n 0, 1) := by decide +kernel
theorem dX11_under_15 : decode cX11_under 15 = .ok (.getfield 74, 3) := by decide +kernel
theorem dX11_under_18 : decode cX11_under 18 = .ok (.getfield 234, 3) := by decide +kernel
theorem dX11_under_21 : decode cX11_under 21 = .ok (.if_icmp .le 5, 3) := by decide +kernel
theorem dX11_under_24 : decode cX11_under 24 = .ok (.iconst (-1), 1) := by decide +kernel
theorem dX11_under_25 : decode cX11_under 25 = .ok (.ireturn, 1) := by decide +kernel
theorem dX11_under_26 : decode cX11_under 26 = .ok (.aload_n 0, 1) := by decide +kernel
theorem dX11_under_27 : decode cX11_under 27 = .ok (.getfield 74, 3) := by decide +kernel
theorem dX11_under_30 : decode cX11_under 30 = .ok (.getfield 244, 3) := by decide +kernel
theorem dX11_under_33 : decode cX11_under 33 = .ok (.iload_n 3, 1) := by decide +kernel
theorem dX11_under_34 : decode cX11_under 34 = .ok (.iaload, 1) := by decide +kernel
theorem dX11_under_35 : decode cX11_under 35 = .ok (.ireturn, 1) := by decide +kernel
set_option maxRecDepth 20000 in
theorem b_X11_under_0 {k n : Nat} {x : Wx} {Z : Zt} {Q : Option Value → Wx → Zt → Prop} {a0 : Nat} {v1 : Int} {v2 : Int} {v3 : Int} (o_a0 : Is11 x a0)
    (h : Rg v3 ∧ (((v3 < 0) → (V mX11_under k n 24 [none, none, none, none] [] x Z Q)) ∧ ((0 ≤ v3) → (∃ g1 : Ab, (OI x Z a0 g1 ∧ Rg v1 ∧ Rg v2 ∧ (∀ (x'1 : Wx) (Z'1 : Zt) (r'1 : Int), (OI x'1 Z'1 a0 g1 ∧ Fx a0 x x'1 Z Z'1 ∧ r'1 = bI (fitB g1.nw v1 v2) ∧ (fitB g1.nw v1 v2 = true → Z'1 a0 14 = v1 ∧ Z'1 a0 15 = v2)) → (Is11 x'1 a0 ∧ (Rg r'1 ∧ (((r'1 = 0) → (V mX11_under k n 24 [none, none, none, none] [] x'1 Z'1 Q)) ∧ ((r'1 ≠ 0) → (Rg (Z'1 (a0 + 68) 3) ∧ (((v3 ≤ Z'1 (a0 + 68) 3) → (v3 < 41 ∧ (Q (some (i_ (Z'1 (a0 + 69) v3.toNat))) x'1 Z'1))) ∧ ((Z'1 (a0 + 68) 3 < v3) → (V mX11_under k n 24 [none, none, none, none] [] x'1 Z'1 Q)))))))))))))) :
    V mX11_under k n 0 [some (r_ a0), some (i_ v1), some (i_ v2), some (i_ v3)] [] x Z Q :=
  V_iload_n dX11_under_0 rfl (V_if_lt (tgt := 24) dX11_under_1 rfl h.1 (fun c1 => V_msk [false, false, false, false] rfl (h.2.1 c1)) (fun c1 => V_aload_n dX11_under_4 rfl (V_iload_n dX11_under_5 rfl (V_iload_n dX11_under_6 rfl (Exists.elim (h.2.2 c1) (fun g1 w1 => V_callV (k' := 0) (n' := 0) (t := 11) (q := (RX11, TX11, 17)) [i_ v1, i_ v2] [] okX11_isRoomReady o_a0.1 rfl rfl lm_11_227 liX11_isRoomReady lqX11_isRoomReady (Nat.le_of_ble_eq_true rfl) (Nat.le_of_ble_eq_true rfl) (Nat.le_of_ble_eq_true rfl) (cat_of rfl) (Nat.le_of_ble_eq_true rfl) (Nat.zero_le _) (Nat.zero_le _) rfl dX11_under_7 (sp_X11_isRoomReady o_a0 w1.1 w1.2.1 w1.2.2.1 (fun x'1 Z'1 r'1 p1 => V_if_eq (tgt := 24) dX11_under_10 rfl (w1.2.2.2 x'1 Z'1 r'1 p1).2.1 (fun c2 => V_msk [false, false, false, false] rfl ((w1.2.2.2 x'1 Z'1 r'1 p1).2.2.1 c2)) (fun c2 => V_iload_n dX11_under_13 rfl (V_aload_n dX11_under_14 rfl (G_11_9 (w1.2.2.2 x'1 Z'1 r'1 p1).1.1 (w1.2.2.2 x'1 Z'1 r'1 p1).1.qR9 lf_11_74 dX11_under_15 (G_9_3 (w1.2.2.2 x'1 Z'1 r'1 p1).1.qK9.1 lf_11_234 dX11_under_18 (V_icmp_le (tgt := 26) dX11_under_21 rfl h.1 ((w1.2.2.2 x'1 Z'1 r'1 p1).2.2.2 c2).1 (fun c3 => V_aload_n dX11_under_26 rfl (G_11_9 (w1.2.2.2 x'1 Z'1 r'1 p1).1.1 (w1.2.2.2 x'1 Z'1 r'1 p1).1.qR9 lf_11_74 dX11_under_27 (G_9_4 (w1.2.2.2 x'1 Z'1 r'1 p1).1.qK9.1 (w1.2.2.2 x'1 Z'1 r'1 p1).1.qK9.2.1 lf_11_244 dX11_under_30 (V_iload_n dX11_under_33 rfl (V_iald (t := 100) (w1.2.2.2 x'1 Z'1 r'1 p1).1.qK9.2.2.1 (by decide) rfl c1 (((w1.2.2.2 x'1 Z'1 r'1 p1).2.2.2 c2).2.1 c3).1 (Nat.le_of_ble_eq_true rfl) dX11_under_34 (V_iret (ty := .int) dX11_under_35 rfl rfl (((w1.2.2.2 x'1 Z'1 r'1 p1).2.2.2 c2).2.1 c3).2)))))) (fun c3 => V_msk [false, false, false, false] rfl (((w1.2.2.2 x'1 Z'1 r'1 p1).2.2.2 c2).2.2 c3)))))))))))))))
set_option maxRecDepth 20000 in
theorem b_X11_under_24 {k n : Nat} {x : Wx} {Z : Zt} {Q : Option Value → Wx → Zt → Prop}  
    (h : Q (some (i_ (-1))) x Z) :
    V mX11_under k n 24 [none, none, none, none] [] x Z Q :=
  V_iconst dX11_under_24 (V_iret (ty := .int) dX11_under_25 rfl rfl h)
theorem dX11_room_0 : decode cX11_room 0 = .ok (.iload_n 3, 1) := by decide +kernel
theorem dX11_room_1 : decode cX11_room 1 = .ok (.ifCond .lt 17, 3) := by decide +kernel
theorem dX11_room_4 : decode cX11_room 4 = .ok (.iload_n 3, 1) := by decide +kernel
theorem dX11_room_5 : decode cX11_room 5 = .ok (.iconst 3, 1) := by decide +kernel
theorem dX11_room_6 : decode cX11_room 6 = .ok (.if_icmp .gt 12, 3) := by decide +kernel
theorem dX11_room_9 : decode cX11_room 9 = .ok (.aload_n 0, 1) := by decide +kernel
theorem dX11_room_10 : decode cX11_room 10 = .ok (.iload_n 1, 1) := by decide +kernel
theorem dX11_room_11 : decode cX11_room 11 = .ok (.iload_n 2, 1) := by decide +kernel
theorem dX11_room_12 : decode cX11_room 12 = .ok (.invokevirtual 227, 3) := by decide +kernel
theorem dX11_room_15 : decode cX11_room 15 = .ok (.ifCond .ne 7, 3) := by decide +kernel
theorem dX11_room_18 : decode cX11_room 18 = .ok (.sipush (-1000), 3) := by decide +kernel
theorem dX11_room_21 : decode cX11_room 21 = .ok (.ireturn, 1) := by decide +kernel
theorem dX11_room_22 : decode cX11_room 22 = .ok (.iload_n 3, 1) := by decide +kernel
theorem dX11_room_23 : decode cX11_room 23 = .ok (.tableswitch 67 0 2 #[25, 33, 41], 25) := by decide +kernel
theorem dX11_room_48 : decode cX11_room 48 = .ok (.aload_n 0, 1) := by decide +kernel
theorem dX11_room_49 : decode cX11_room 49 = .ok (.getfield 74, 3) := by decide +kernel
theorem dX11_room_52 : decode cX11_room 52 = .ok (.getfield 230, 3) := by decide +kernel
theorem dX11_room_55 : decode cX11_room 55 = .ok (.ireturn, 1) := by decide +kernel
theorem dX11_room_56 : decode cX11_room 56 = .ok (.aload_n 0, 1) := by decide +kernel
theorem dX11_room_57 : decode cX11_room 57 = .ok (.getfield 74, 3) := by decide +kernel
theorem dX11_room_60 : decode cX11_room 60 = .ok (.getfield 231, 3) := by decide +kernel
theorem dX11_room_63 : decode cX11_room 63 = .ok (.ireturn, 1) := by decide +kernel
theorem dX11_room_64 : decode cX11_room 64 = .ok (.aload_n 0, 1) := by decide +kernel
theorem dX11_room_65 : decode cX11_room 65 = .ok (.getfield 74, 3) := by decide +kernel
theorem dX11_room_68 : decode cX11_room 68 = .ok (.getfield 231, 3) := by decide +kernel
theorem dX11_room_71 : decode cX11_room 71 = .ok (.aload_n 0, 1) := by decide +kernel
theorem dX11_room_72 : decode cX11_room 72 = .ok (.getfield 74, 3) := by decide +kernel
theorem dX11_room_75 : decode cX11_room 75 = .ok (.getfield 230, 3) := by decide +kernel
theorem dX11_room_78 : decode cX11_room 78 = .ok (.iconst 1, 1) := by decide +kernel
theorem dX11_room_79 : decode cX11_room 79 = .ok (.iadd, 1) := by decide +kernel
theorem dX11_room_80 : decode cX11_room 80 = .ok (.aload_n 0, 1) := by decide +kernel
theorem dX11_room_81 : decode cX11_room 81 = .ok (.getfield 60, 3) := by decide +kernel
theorem dX11_room_84 : decode cX11_room 84 = .ok (.getfield 168, 3) := by decide +kernel
theorem dX11_room_87 : decode cX11_room 87 = .ok (.isub, 1) := by decide +kernel
theorem dX11_room_88 : decode cX11_room 88 = .ok (.isub, 1) := by decide +kernel
theorem dX11_room_89 : decode cX11_room 89 = .ok (.ireturn, 1) := by decide +kernel
theorem dX11_room_90 : decode cX11_room 90 = .ok (.aload_n 0, 1) := by decide +kernel
theorem dX11_room_91 : decode cX11_room 91 = .ok (.getfield 74, 3) := by decide +kernel
theorem dX11_room_94 : decode cX11_room 94 = .ok (.getfield 234, 3) := by decide +kernel
theorem dX11_room_97 : decode cX11_room 97 = .ok (.ireturn, 1) := by decide +kernel
set_option maxRecDepth 20000 in
theorem b_X11_room_0 {k n : Nat} {x : Wx} {Z : Zt} {Q : Option Value → Wx → Zt → Prop} {a0 : Nat} {v1 : Int} {v2 : Int} {v3 : Int} (o_a0 : Is11 x a0)
    (h : Rg v3 ∧ (((v3 < 0) → (V mX11_room k n 18 [none, none, none, none] [] x Z Q)) ∧ ((0 ≤ v3) → (((3 < v3) → (V mX11_room k n 18 [none, none, none, none] [] x Z Q)) ∧ ((v3 ≤ 3) → (∃ g1 : Ab, (OI x Z a0 g1 ∧ Rg v1 ∧ Rg v2 ∧ (∀ (x'1 : Wx) (Z'1 : Zt) (r'1 : Int), (OI x'1 Z'1 a0 g1 ∧ Fx a0 x x'1 Z Z'1 ∧ r'1 = bI (fitB g1.nw v1 v2) ∧ (fitB g1.nw v1 v2 = true → Z'1 a0 14 = v1 ∧ Z'1 a0 15 = v2)) → (Is11 x'1 a0 ∧ (Rg r'1 ∧ (((r'1 ≠ 0) → ((v3 = 0 → (Q (some (i_ (Z'1 (a0 + 68) 0))) x'1 Z'1)) ∧ (v3 = 1 → (Q (some (i_ (Z'1 (a0 + 68) 1))) x'1 Z'1)) ∧ (v3 = 2 → (Q (some (i_ ((Z'1 (a0 + 68) 1) - (((Z'1 (a0 + 68) 0) + 1) - (Z'1 (a0 + 40) 2))))) x'1 Z'1)) ∧ ((v3 < 0 ∨ 2 < v3) → (Q (some (i_ (Z'1 (a0 + 68) 3))) x'1 Z'1)))) ∧ ((r'1 = 0) → (V mX11_room k n 18 [none, none, none, none] [] x'1 Z'1 Q))))))))))))) :
    V mX11_room k n 0 [some (r_ a0), some (i_ v1), some (i_ v2), some (i_ v3)] [] x Z Q :=
  V_iload_n dX11_room_0 rfl (V_if_lt (tgt := 18) dX11_room_1 rfl h.1 (fun c1 => V_msk [false, false, false, false] rfl (h.2.1 c1)) (fun c1 => V_iload_n dX11_room_4 rfl (V_iconst dX11_room_5 (V_icmp_gt (tgt := 18) dX11_room_6 rfl h.1 (rg_c rfl) (fun c2 => V_msk [false, false, false, false] rfl ((h.2.2 c1).1 c2)) (fun c2 => V_aload_n dX11_room_9 rfl (V_iload_n dX11_room_10 rfl (V_iload_n dX11_room_11 rfl (Exists.elim ((h.2.2 c1).2 c2) (fun g1 w1 => V_callV (k' := 0) (n' := 0) (t := 11) (q := (RX11, TX11, 17)) [i_ v1, i_ v2] [] okX11_isRoomReady o_a0.1 rfl rfl lm_11_227 liX11_isRoomReady lqX11_isRoomReady (Nat.le_of_ble_eq_true rfl) (Nat.le_of_ble_eq_true rfl) (Nat.le_of_ble_eq_true rfl) (cat_of rfl) (Nat.le_of_ble_eq_true rfl) (Nat.zero_le _) (Nat.zero_le _) rfl dX11_room_12 (sp_X11_isRoomReady o_a0 w1.1 w1.2.1 w1.2.2.1 (fun x'1 Z'1 r'1 p1 => V_if_ne (tgt := 22) dX11_room_15 rfl (w1.2.2.2 x'1 Z'1 r'1 p1).2.1 (fun c3 => V_iload_n dX11_room_22 rfl ((by
    rcases sw0_3 v3 with c4 | c5 | c6 | c7
    · exact V_tableIn (tgt := 48) dX11_room_23 h.1 (by rw [c4]; decide) (by rw [c4]; decide) (by rw [c4]; rfl) rfl (V_aload_n dX11_room_48 rfl (G_11_9 (w1.2.2.2 x'1 Z'1 r'1 p1).1.1 (w1.2.2.2 x'1 Z'1 r'1 p1).1.qR9 lf_11_74 dX11_room_49 (G_9_0 (w1.2.2.2 x'1 Z'1 r'1 p1).1.qK9.1 lf_11_230 dX11_room_52 (V_iret (ty := .int) dX11_room_55 rfl rfl (((w1.2.2.2 x'1 Z'1 r'1 p1).2.2.1 c3).1 c4)))))
    · exact V_tableIn (tgt := 56) dX11_room_23 h.1 (by rw [c5]; decide) (by rw [c5]; decide) (by rw [c5]; rfl) rfl (V_aload_n dX11_room_56 rfl (G_11_9 (w1.2.2.2 x'1 Z'1 r'1 p1).1.1 (w1.2.2.2 x'1 Z'1 r'1 p1).1.qR9 lf_11_74 dX11_room_57 (G_9_1 (w1.2.2.2 x'1 Z'1 r'1 p1).1.qK9.1 lf_11_231 dX11_room_60 (V_iret (ty := .int) dX11_room_63 rfl rfl (((w1.2.2.2 x'1 Z'1 r'1 p1).2.2.1 c3).2.1 c5)))))
    · exact V_tableIn (tgt := 64) dX11_room_23 h.1 (by rw [c6]; decide) (by rw [c6]; decide) (by rw [c6]; rfl) rfl (V_aload_n dX11_room_64 rfl (G_11_9 (w1.2.2.2 x'1 Z'1 r'1 p1).1.1 (w1.2.2.2 x'1 Z'1 r'1 p1).1.qR9 lf_11_74 dX11_room_65 (G_9_1 (w1.2.2.2 x'1 Z'1 r'1 p1).1.qK9.1 lf_11_231 dX11_room_68 (V_aload_n dX11_room_71 rfl (G_11_9 (w1.2.2.2 x'1 Z'1 r'1 p1).1.1 (w1.2.2.2 x'1 Z'1 r'1 p1).1.qR9 lf_11_74 dX11_room_72 (G_9_0 (w1.2.2.2 x'1 Z'1 r'1 p1).1.qK9.1 lf_11_230 dX11_room_75 (V_iconst dX11_room_78 (V_iadd dX11_room_79 (V_aload_n dX11_room_80 rfl (G_11_7 (w1.2.2.2 x'1 Z'1 r'1 p1).1.1 (w1.2.2.2 x'1 Z'1 r'1 p1).1.qR7 lf_11_60 dX11_room_81 (G_2_2 (w1.2.2.2 x'1 Z'1 r'1 p1).1.qK7.1 lf_11_168 dX11_room_84 (V_isub dX11_room_87 (V_isub dX11_room_88 (V_iret (ty := .int) dX11_room_89 rfl rfl (((w1.2.2.2 x'1 Z'1 r'1 p1).2.2.1 c3).2.2.1 c6)))))))))))))))
    · exact V_tableOut (tgt := 90) dX11_room_23 h.1 c7 rfl (V_aload_n dX11_room_90 rfl (G_11_9 (w1.2.2.2 x'1 Z'1 r'1 p1).1.1 (w1.2.2.2 x'1 Z'1 r'1 p1).1.qR9 lf_11_74 dX11_room_91 (G_9_3 (w1.2.2.2 x'1 Z'1 r'1 p1).1.qK9.1 lf_11_234 dX11_room_94 (V_iret (ty := .int) dX11_room_97 rfl rfl (((w1.2.2.2 x'1 Z'1 r'1 p1).2.2.1 c3).2.2.2 c7)))))))) (fun c3 => V_msk [false, false, false, false] rfl ((w1.2.2.2 x'1 Z'1 r'1 p1).2.2.2 c3)))))))))))))
set_option maxRecDepth 20000 in
theorem b_X11_room_18 {k n : Nat} {x : Wx} {Z : Zt} {Q : Option Value → Wx → Zt → Prop}  
    (h : Q (some (i_ (-1000))) x Z) :
    V mX11_room k n 18 [none, none, none, none] [] x Z Q :=
  V_sipush dX11_room_18 rfl (V_iret (ty := .int) dX11_room_21 rfl rfl h)
theorem dX11_twist_0 : decode cX11_twist 0 = .ok (.aload_n 0, 1) := by decide +kernel
theorem dX11_twist_1 : decode cX11_twist 1 = .ok (.iload_n 1, 1) := by decide +kernel
theorem dX11_twist_2 : decode cX11_twist 2 = .ok (.invokevirtual 152, 3) := by decide +kernel
theorem dX11_twist_5 : decode cX11_twist 5 = .ok (.ifCond .ne 5, 3) := by decide +kernel
theorem dX11_twist_8 : decode cX11_twist 8 = .ok (.iconst (-1), 1) := by decide +kernel
theorem dX11_twist_9 : decode cX11_twist 9 = .ok (.ireturn, 1) := by decide +kernel
theorem dX11_twist_10 : decode cX11_twist 10 = .ok (.iload_n 2, 1) := by decide +kernel
theorem dX11_twist_11 : decode cX11_twist 11 = .ok (.tableswitch 68 0 2 #[25, 36, 59], 25) := by decide +kernel
theorem dX11_twist_36 : decode cX11_twist 36 = .ok (.aload_n 0, 1) := by decide +kernel
theorem dX11_twist_37 : decode cX11_twist 37 = .ok (.getfield 60, 3) := by decide +kernel
theorem dX11_twist_40 : decode cX11_twist 40 = .ok (.getfield 156, 3) := by decide +kernel
theorem dX11_twist_43 : decode cX11_twist 43 = .ok (.getfield 310, 3) := by decide +kernel
theorem dX11_twist_46 : decode cX11_twist 46 = .ok (.ireturn, 1) := by decide +kernel
theorem dX11_twist_47 : decode cX11_twist 47 = .ok (.iconst 2, 1) := by decide +kernel
theorem dX11_twist_48 : decode cX11_twist 48 = .ok (.aload_n 0, 1) := by decide +kernel
theorem dX11_twist_49 : decode cX11_twist 49 = .ok (.getfield 60, 3) := by decide +kernel
theorem dX11_twist_52 : decode cX11_twist 52 = .ok (.getfield 156, 3) := by decide +kernel
theorem dX11_twist_55 : decode cX11_twist 55 = .ok (.getfield 159, 3) := by decide +kernel
theorem dX11_twist_58 : decode cX11_twist 58 = .ok (.imul, 1) := by decide +kernel
theorem dX11_twist_59 : decode cX11_twist 59 = .ok (.iconst 2, 1) := by decide +kernel
theorem dX11_twist_60 : decode cX11_twist 60 = .ok (.iadd, 1) := by decide +kernel
theorem dX11_twist_61 : decode cX11_twist 61 = .ok (.aload_n 0, 1) := by decide +kernel
theorem dX11_twist_62 : decode cX11_twist 62 = .ok (.getfield 60, 3) := by decide +kernel
theorem dX11_twist_65 : decode cX11_twist 65 = .ok (.getfield 171, 3) := by decide +kernel
theorem dX11_twist_68 : decode cX11_twist 68 = .ok (.isub, 1) := by decide +kernel
theorem dX11_twist_69 : decode cX11_twist 69 = .ok (.ireturn, 1) := by decide +kernel
theorem dX11_twist_70 : decode cX11_twist 70 = .ok (.aload_n 0, 1) := by decide +kernel
theorem dX11_twist_71 : decode cX11_twist 71 = .ok (.getfield 60, 3) := by decide +kernel
theorem dX11_twist_74 : decode cX11_twist 74 = .ok (.iconst (-1), 1) := by decide +kernel
theorem dX11_twist_75 : decode cX11_twist 75 = .ok (.invokevirtual 178, 3) := by decide +kernel
theorem dX11_twist_78 : decode cX11_twist 78 = .ok (.ireturn, 1) := by decide +kernel
theorem dX11_twist_79 : decode cX11_twist 79 = .ok (.iconst (-1), 1) := by decide +kernel
theorem dX11_twist_80 : decode cX11_twist 80 = .ok (.ireturn, 1) := by decide +kernel
set_option maxRecDepth 20000 in
theorem b_X11_twist_0 {k n : Nat} {x : Wx} {Z : Zt} {Q : Option Value → Wx → Zt → Prop} {a0 : Nat} {v1 : Int} {v2 : Int} (o_a0 : Is11 x a0)
    (h : ∃ g1 : Ab, (OI x Z a0 g1 ∧ Rg v1 ∧ (∀ (x'1 : Wx) (Z'1 : Zt) (r'1 : Int), (OI x'1 Z'1 a0 g1 ∧ Fx a0 x x'1 Z Z'1 ∧ r'1 = bI (decide (0 ≤ v1 ∧ v1 < g1.nw.ct 0)) ∧ ((0 ≤ v1 ∧ v1 < g1.nw.ct 0) → Z'1 a0 14 = v1)) → (Is11 x'1 a0 ∧ (Rg r'1 ∧ (((r'1 ≠ 0) → (Rg v2 ∧ ((v2 = 0 → (Q (some (i_ (Z'1 (a0 + 41) 1))) x'1 Z'1)) ∧ (v2 = 1 → (Q (some (i_ (((2 * (Z'1 (a0 + 41) 0)) + 2) - (Z'1 (a0 + 40) 3)))) x'1 Z'1)) ∧ (v2 = 2 → ((1 ≤ Z'1 (a0 + 40) 2 ∧ Z'1 (a0 + 40) 2 ≤ 2) ∧ (Q (some (i_ (shA (Z'1 ((a0 + 40) + 8)) (-1 : Int) (2 * Z'1 (a0 + 40) 2 + 1).toNat 0))) x'1 Z'1))) ∧ ((v2 < 0 ∨ 2 < v2) → (Q (some (i_ (-1))) x'1 Z'1))))) ∧ ((r'1 = 0) → (Q (some (i_ (-1))) x'1 Z'1)))))))) :
    V mX11_twist k n 0 [some (r_ a0), some (i_ v1), some (i_ v2)] [] x Z Q :=
  V_aload_n dX11_twist_0 rfl (V_iload_n dX11_twist_1 rfl (Exists.elim h (fun g1 w1 => V_callV (k' := 0) (n' := 0) (t := 11) (q := (RX11, TX11, 17)) [i_ v1] [] okX11_isReady o_a0.1 rfl rfl lm_11_152 liX11_isReady lqX11_isReady (Nat.le_of_ble_eq_true rfl) (Nat.le_of_ble_eq_true rfl) (Nat.le_of_ble_eq_true rfl) (cat_of rfl) (Nat.le_of_ble_eq_true rfl) (Nat.zero_le _) (Nat.zero_le _) rfl dX11_twist_2 (sp_X11_isReady o_a0 w1.1 w1.2.1 (fun x'1 Z'1 r'1 p1 => V_if_ne (tgt := 10) dX11_twist_5 rfl (w1.2.2 x'1 Z'1 r'1 p1).2.1 (fun c1 => V_iload_n dX11_twist_10 rfl ((by
    rcases sw0_3 v2 with c2 | c3 | c4 | c5
    · exact V_tableIn (tgt := 36) dX11_twist_11 ((w1.2.2 x'1 Z'1 r'1 p1).2.2.1 c1).1 (by rw [c2]; decide) (by rw [c2]; decide) (by rw [c2]; rfl) rfl (V_aload_n dX11_twist_36 rfl (G_11_7 (w1.2.2 x'1 Z'1 r'1 p1).1.1 (w1.2.2 x'1 Z'1 r'1 p1).1.qR7 lf_11_60 dX11_twist_37 (G_2_0 (w1.2.2 x'1 Z'1 r'1 p1).1.qK7.1 (w1.2.2 x'1 Z'1 r'1 p1).1.qK7.2.1 lf_11_156 dX11_twist_40 (G_4_1 (w1.2.2 x'1 Z'1 r'1 p1).1.qK7.2.2.1.1 lf_11_310 dX11_twist_43 (V_iret (ty := .int) dX11_twist_46 rfl rfl (((w1.2.2 x'1 Z'1 r'1 p1).2.2.1 c1).2.1 c2))))))
    · exact V_tableIn (tgt := 47) dX11_twist_11 ((w1.2.2 x'1 Z'1 r'1 p1).2.2.1 c1).1 (by rw [c3]; decide) (by rw [c3]; decide) (by rw [c3]; rfl) rfl (V_iconst dX11_twist_47 (V_aload_n dX11_twist_48 rfl (G_11_7 (w1.2.2 x'1 Z'1 r'1 p1).1.1 (w1.2.2 x'1 Z'1 r'1 p1).1.qR7 lf_11_60 dX11_twist_49 (G_2_0 (w1.2.2 x'1 Z'1 r'1 p1).1.qK7.1 (w1.2.2 x'1 Z'1 r'1 p1).1.qK7.2.1 lf_11_156 dX11_twist_52 (G_4_0 (w1.2.2 x'1 Z'1 r'1 p1).1.qK7.2.2.1.1 lf_11_159 dX11_twist_55 (V_imul dX11_twist_58 (V_iconst dX11_twist_59 (V_iadd dX11_twist_60 (V_aload_n dX11_twist_61 rfl (G_11_7 (w1.2.2 x'1 Z'1 r'1 p1).1.1 (w1.2.2 x'1 Z'1 r'1 p1).1.qR7 lf_11_60 dX11_twist_62 (G_2_3 (w1.2.2 x'1 Z'1 r'1 p1).1.qK7.1 lf_11_171 dX11_twist_65 (V_isub dX11_twist_68 (V_iret (ty := .int) dX11_twist_69 rfl rfl (((w1.2.2 x'1 Z'1 r'1 p1).2.2.1 c1).2.2.1 c3))))))))))))))
    · exact V_tableIn (tgt := 70) dX11_twist_11 ((w1.2.2 x'1 Z'1 r'1 p1).2.2.1 c1).1 (by rw [c4]; decide) (by rw [c4]; decide) (by rw [c4]; rfl) rfl (V_aload_n dX11_twist_70 rfl (G_11_7 (w1.2.2 x'1 Z'1 r'1 p1).1.1 (w1.2.2 x'1 Z'1 r'1 p1).1.qR7 lf_11_60 dX11_twist_71 (V_iconst dX11_twist_74 (V_callV (k' := 0) (n' := 0) (t := 2) (q := (RX2, TX2, 17)) [i_ (-1)] [] okX2_shareAt (w1.2.2 x'1 Z'1 r'1 p1).1.qK7.1 rfl rfl lm_11_178 liX2_shareAt lqX2_shareAt (Nat.le_of_ble_eq_true rfl) (Nat.le_of_ble_eq_true rfl) (Nat.le_of_ble_eq_true rfl) (cat_of rfl) (Nat.le_of_ble_eq_true rfl) (Nat.zero_le _) (Nat.zero_le _) rfl dX11_twist_75 (sp_X2_shareAt (w1.2.2 x'1 Z'1 r'1 p1).1.qK7 (((w1.2.2 x'1 Z'1 r'1 p1).2.2.1 c1).2.2.2.1 c4).1 (V_iret (ty := .int) dX11_twist_78 rfl rfl (((w1.2.2 x'1 Z'1 r'1 p1).2.2.1 c1).2.2.2.1 c4).2))))))
    · exact V_tableOut (tgt := 79) dX11_twist_11 ((w1.2.2 x'1 Z'1 r'1 p1).2.2.1 c1).1 c5 rfl (V_iconst dX11_twist_79 (V_iret (ty := .int) dX11_twist_80 rfl rfl (((w1.2.2 x'1 Z'1 r'1 p1).2.2.1 c1).2.2.2.2 c5)))))) (fun c1 => V_iconst dX11_twist_8 (V_iret (ty := .int) dX11_twist_9 rfl rfl ((w1.2.2 x'1 Z'1 r'1 p1).2.2.2 c1))))))))
theorem dX11_curve_0 : decode cX11_curve 0 = .ok (.aload_n 0, 1) := by decide +kernel
theorem dX11_curve_1 : decode cX11_curve 1 = .ok (.getfield 10, 3) := by decide +kernel
theorem dX11_curve_4 : decode cX11_curve 4 = .ok (.iconst 0, 1) := by decide +kernel
theorem dX11_curve_5 : decode cX11_curve 5 = .ok (.iload_n 1, 1) := by decide +kernel
theorem dX11_curve_6 : decode cX11_curve 6 = .ok (.invokevirtual 129, 3) := by decide +kernel
theorem dX11_curve_9 : decode cX11_curve 9 = .ok (.astore_n 3, 1) := by decide +kernel
theorem dX11_curve_10 : decode cX11_curve 10 = .ok (.aload_n 3, 1) := by decide +kernel
theorem dX11_curve_11 : decode cX11_curve 11 = .ok (.ifnull 11, 3) := by decide +kernel
theorem dX11_curve_14 : decode cX11_curve 14 = .ok (.aload_n 0, 1) := by decide +kernel
theorem dX11_curve_15 : decode cX11_curve 15 = .ok (.iload_n 1, 1) := by decide +kernel
theorem dX11_curve_16 : decode cX11_curve 16 = .ok (.invokevirtual 152, 3) := by decide +kernel
theorem dX11_curve_19 : decode cX11_curve 19 = .ok (.ifCond .ne 5, 3) := by decide +kernel
theorem dX11_curve_22 : decode cX11_curve 22 = .ok (.iconst (-1), 1) := by decide +kernel
theorem dX11_curve_23 : decode cX11_curve 23 = .ok (.ireturn, 1) := by decide +kernel
theorem dX11_curve_24 : decode cX11_curve 24 = .ok (.iload_n 2, 1) := by decide +kernel
theorem dX11_curve_25 : decode cX11_curve 25 = .ok (.tableswitch 110 0 6 #[43, 54, 65, 73, 81, 89, 98], 43) := by decide +kernel
theorem dX11_curve_68 : decode cX11_curve 68 = .ok (.aload_n 0, 1) := by decide +kernel
theorem dX11_curve_69 : decode cX11_curve 69 = .ok (.getfield 60, 3) := by decide +kernel
theorem dX11_curve_72 : decode cX11_curve 72 = .ok (.getfield 156, 3) := by decide +kernel
theorem dX11_curve_75 : decode cX11_curve 75 = .ok (.getfield 159, 3) := by decide +kernel
theorem dX11_curve_78 : decode cX11_curve 78 = .ok (.ireturn, 1) := by decide +kernel
theorem dX11_curve_79 : decode cX11_curve 79 = .ok (.aload_n 0, 1) := by decide +kernel
theorem dX11_curve_80 : decode cX11_curve 80 = .ok (.getfield 60, 3) := by decide +kernel
theorem dX11_curve_83 : decode cX11_curve 83 = .ok (.getfield 162, 3) := by decide +kernel
theorem dX11_curve_86 : decode cX11_curve 86 = .ok (.getfield 165, 3) := by decide +kernel
theorem dX11_curve_89 : decode cX11_curve 89 = .ok (.ireturn, 1) := by decide +kernel
theorem dX11_curve_90 : decode cX11_curve 90 = .ok (.aload_n 0, 1) := by decide +kernel
theorem dX11_curve_91 : decode cX11_curve 91 = .ok (.getfield 60, 3) := by decide +kernel
theorem dX11_curve_94 : decode cX11_curve 94 = .ok (.getfield 168, 3) := by decide +kernel
theorem dX11_curve_97 : decode cX11_curve 97 = .ok (.ireturn, 1) := by decide +kernel
theorem dX11_curve_98 : decode cX11_curve 98 = .ok (.aload_n 0, 1) := by decide +kernel
theorem dX11_curve_99 : decode cX11_curve 99 = .ok (.getfield 60, 3) := by decide +kernel
theorem dX11_curve_102 : decode cX11_curve 102 = .ok (.getfield 171, 3) := by decide +kernel
theorem dX11_curve_105 : decode cX11_curve 105 = .ok (.ireturn, 1) := by decide +kernel
theorem dX11_curve_106 : decode cX11_curve 106 = .ok (.aload_n 0, 1) := by decide +kernel
theorem dX11_curve_107 : decode cX11_curve 107 = .ok (.getfield 60, 3) := by decide +kernel
theorem dX11_curve_110 : decode cX11_curve 110 = .ok (.invokevirtual 174, 3) := by decide +kernel
theorem dX11_curve_113 : decode cX11_curve 113 = .ok (.ireturn, 1) := by decide +kernel
theorem dX11_curve_114 : decode cX11_curve 114 = .ok (.aload_n 0, 1) := by decide +kernel
theorem dX11_curve_115 : decode cX11_curve 115 = .ok (.getfield 60, 3) := by decide +kernel
theorem dX11_curve_118 : decode cX11_curve 118 = .ok (.iconst 1, 1) := by decide +kernel
theorem dX11_curve_119 : decode cX11_curve 119 = .ok (.invokevirtual 178, 3) := by decide +kernel
theorem dX11_curve_122 : decode cX11_curve 122 = .ok (.ireturn, 1) := by decide +kernel
theorem dX11_curve_123 : decode cX11_curve 123 = .ok (.iconst 2, 1) := by decide +kernel
theorem dX11_curve_124 : decode cX11_curve 124 = .ok (.aload_n 0, 1) := by decide +kernel
theorem dX11_curve_125 : decode cX11_curve 125 = .ok (.getfield 60, 3) := by decide +kernel
theorem dX11_curve_128 : decode cX11_curve 128 = .ok (.getfield 168, 3) := by decide +kernel
theorem dX11_curve_131 : decode cX11_curve 131 = .ok (.imul, 1) := by decide +kernel
theorem dX11_curve_132 : decode cX11_curve 132 = .ok (.iconst 2, 1) := by decide +kernel
theorem dX11_curve_133 : decode cX11_curve 133 = .ok (.iadd, 1) := by decide +kernel
theorem dX11_curve_134 : decode cX11_curve 134 = .ok (.ireturn, 1) := by decide +kernel
theorem dX11_curve_135 : decode cX11_curve 135 = .ok (.iload_n 2, 1) := by decide +kernel
theorem dX11_curve_136 : decode cX11_curve 136 = .ok (.bipush 10, 2) := by decide +kernel
theorem dX11_curve_138 : decode cX11_curve 138 = .ok (.if_icmp .lt 20, 3) := by decide +kernel
theorem dX11_curve_141 : decode cX11_curve 141 = .ok (.iload_n 2, 1) := by decide +kernel
theorem dX11_curve_142 : decode cX11_curve 142 = .ok (.bipush 10, 2) := by decide +kernel
theorem dX11_curve_144 : decode cX11_curve 144 = .ok (.aload_n 0, 1) := by decide +kernel
theorem dX11_curve_145 : decode cX11_curve 145 = .ok (.getfield 60, 3) := by decide +kernel
theorem dX11_curve_148 : decode cX11_curve 148 = .ok (.getfield 162, 3) := by decide +kernel
theorem dX11_curve_151 : decode cX11_curve 151 = .ok (.getfield 165, 3) := by decide +kernel
theorem dX11_curve_154 : decode cX11_curve 154 = .ok (.iadd, 1) := by decide +kernel
theorem dX11_curve_155 : decode cX11_curve 155 = .ok (.if_icmp .le 5, 3) := by decide +kernel
theorem dX11_curve_158 : decode cX11_curve 158 = .ok (.iconst (-1), 1) := by decide +kernel
theorem dX11_curve_159 : decode cX11_curve 159 = .ok (.ireturn, 1) := by decide +kernel
theorem dX11_curve_160 : decode cX11_curve 160 = .ok (.aload_n 3, 1) := by decide +kernel
theorem dX11_curve_161 : decode cX11_curve 161 = .ok (.iconst 2, 1) := by decide +kernel
theorem dX11_curve_162 : decode cX11_curve 162 = .ok (.iload_n 2, 1) := by decide +kernel
theorem dX11_curve_163 : decode cX11_curve 163 = .ok (.iadd, 1) := by decide +kernel
theorem dX11_curve_164 : decode cX11_curve 164 = .ok (.bipush 10, 2) := by decide +kernel
theorem dX11_curve_166 : decode cX11_curve 166 = .ok (.isub, 1) := by decide +kernel
theorem dX11_curve_167 : decode cX11_curve 167 = .ok (.iaload, 1) := by decide +kernel
theorem dX11_curve_168 : decode cX11_curve 168 = .ok (.ireturn, 1) := by decide +kernel
set_option maxRecDepth 20000 in
theorem b_X11_curve_0 {k n : Nat} {x : Wx} {Z : Zt} {Q : Option Value → Wx → Zt → Prop} {a0 : Nat} {v1 : Int} {v2 : Int} (o_a0 : Is11 x a0)
    (h : KS x ∧ KW x Z ∧ (0 ≤ (0 : Int) ∧ (0 : Int) < 3) ∧ Rg v1 ∧ (0 ≤ Z ((a0 + 1) + 2) (Int.toNat (0 : Int)) ∧ Z ((a0 + 1) + 2) (Int.toNat (0 : Int)) ≤ mstr (0 : Int)) ∧ (((rowQ (a0 + 1) (0 : Int) v1 (Z ((a0 + 1) + 2) (Int.toNat (0 : Int))) = none → (V mX11_curve k n 22 [none, none, none, none] [] x Z Q)) ∧ (∀ b1, rowQ (a0 + 1) (0 : Int) v1 (Z ((a0 + 1) + 2) (Int.toNat (0 : Int))) = some b1 → (x.1 b1 = some (100, 26) ∧ (∃ g1 : Ab, (OI x Z a0 g1 ∧ Rg v1 ∧ (∀ (x'1 : Wx) (Z'1 : Zt) (r'1 : Int), (OI x'1 Z'1 a0 g1 ∧ Fx a0 x x'1 Z Z'1 ∧ r'1 = bI (decide (0 ≤ v1 ∧ v1 < g1.nw.ct 0)) ∧ ((0 ≤ v1 ∧ v1 < g1.nw.ct 0) → Z'1 a0 14 = v1)) → (Is11 x'1 a0 ∧ x'1.1 b1 = some (100, 26) ∧ (Rg r'1 ∧ (((r'1 ≠ 0) → (Rg v2 ∧ ((v2 = 0 → (Q (some (i_ (Z'1 (a0 + 41) 0))) x'1 Z'1)) ∧ (v2 = 1 → (Q (some (i_ (Z'1 (a0 + 44) 0))) x'1 Z'1)) ∧ (v2 = 2 → (Q (some (i_ (Z'1 (a0 + 40) 2))) x'1 Z'1)) ∧ (v2 = 3 → (Q (some (i_ (Z'1 (a0 + 40) 3))) x'1 Z'1)) ∧ (v2 = 4 → (∃ g2 : List (Int × Int), (PtA Z'1 (a0 + 40) g2 ∧ PtR g2 ∧ (Q (some (i_ (fxn g2 g2.length))) x'1 Z'1)))) ∧ (v2 = 5 → ((1 ≤ Z'1 (a0 + 40) 2 ∧ Z'1 (a0 + 40) 2 ≤ 2) ∧ (Q (some (i_ (shA (Z'1 ((a0 + 40) + 8)) (1 : Int) (2 * Z'1 (a0 + 40) 2 + 1).toNat 0))) x'1 Z'1))) ∧ (v2 = 6 → (Q (some (i_ ((2 * (Z'1 (a0 + 40) 2)) + 2))) x'1 Z'1)) ∧ ((v2 < 0 ∨ 6 < v2) → (((v2 < 10) → (V mX11_curve k n 158 [none, none, none, none] [] x'1 Z'1 Q)) ∧ ((10 ≤ v2) → (Rg (10 + (Z'1 (a0 + 44) 0)) ∧ (((v2 ≤ 10 + (Z'1 (a0 + 44) 0)) → (0 ≤ (2 + v2) - 10 ∧ (2 + v2) - 10 < 26 ∧ (Q (some (i_ (Z'1 b1 ((2 + v2) - 10).toNat))) x'1 Z'1))) ∧ ((10 + (Z'1 (a0 + 44) 0) < v2) → (V mX11_curve k n 158 [none, none, none, none] [] x'1 Z'1 Q)))))))))) ∧ ((r'1 = 0) → (V mX11_curve k n 22 [none, none, none, none] [] x'1 Z'1 Q))))))))))))) :
    V mX11_curve k n 0 [some (r_ a0), some (i_ v1), some (i_ v2), none] [] x Z Q :=
  V_aload_n dX11_curve_0 rfl (G_11_0 o_a0.1 o_a0.qR0 lf_11_10 dX11_curve_1 (V_iconst dX11_curve_4 (V_iload_n dX11_curve_5 rfl (V_callV (k' := 0) (n' := 0) (t := 10) (q := (RX10, TX10, 6)) [i_ 0, i_ v1] [] okX10_row o_a0.qK0.1 rfl rfl lm_11_129 liX10_row lqX10_row (Nat.le_of_ble_eq_true rfl) (Nat.le_of_ble_eq_true rfl) (Nat.le_of_ble_eq_true rfl) (cat_of rfl) (Nat.le_of_ble_eq_true rfl) (Nat.zero_le _) (Nat.zero_le _) rfl dX11_curve_6 (sp_X10_row2 o_a0.qK0 h.1 h.2.1 h.2.2.1 h.2.2.2.1 h.2.2.2.2.1 (V_q (fun c1 => V_astoreq_n (r := none) (lv' := [some (r_ a0), some (i_ v1), some (i_ v2), some (Value.null)]) dX11_curve_9 (Nat.le_of_ble_eq_true rfl) rfl (V_aloadq_n (r := none) dX11_curve_10 rfl (V_ifnull_n (tgt := 22) dX11_curve_11 rfl (V_msk [false, false, false, false] rfl (h.2.2.2.2.2.1 c1))))) (fun b1 c2 => have s1 := (h.2.2.2.2.2.2 b1 c2).1; V_astore_n (lv' := [some (r_ a0), some (i_ v1), some (i_ v2), some (r_ b1)]) dX11_curve_9 (Nat.le_of_ble_eq_true rfl) rfl (V_aload_n dX11_curve_10 rfl (V_ifnull_r dX11_curve_11 (V_aload_n dX11_curve_14 rfl (V_iload_n dX11_curve_15 rfl (Exists.elim (h.2.2.2.2.2.2 b1 c2).2 (fun g1 w1 => V_callV (k' := 0) (n' := 0) (t := 11) (q := (RX11, TX11, 17)) [i_ v1] [] okX11_isReady o_a0.1 rfl rfl lm_11_152 liX11_isReady lqX11_isReady (Nat.le_of_ble_eq_true rfl) (Nat.le_of_ble_eq_true rfl) (Nat.le_of_ble_eq_true rfl) (cat_of rfl) (Nat.le_of_ble_eq_true rfl) (Nat.zero_le _) (Nat.zero_le _) rfl dX11_curve_16 (sp_X11_isReady o_a0 w1.1 w1.2.1 (fun x'1 Z'1 r'1 p1 => V_if_ne (tgt := 24) dX11_curve_19 rfl (w1.2.2 x'1 Z'1 r'1 p1).2.2.1 (fun c3 => V_iload_n dX11_curve_24 rfl ((by
    rcases sw0_7 v2 with c4 | c5 | c6 | c7 | c8 | c9 | c10 | c11
    · exact V_tableIn (tgt := 68) dX11_curve_25 ((w1.2.2 x'1 Z'1 r'1 p1).2.2.2.1 c3).1 (by rw [c4]; decide) (by rw [c4]; decide) (by rw [c4]; rfl) rfl (V_aload_n dX11_curve_68 rfl (G_11_7 (w1.2.2 x'1 Z'1 r'1 p1).1.1 (w1.2.2 x'1 Z'1 r'1 p1).1.qR7 lf_11_60 dX11_curve_69 (G_2_0 (w1.2.2 x'1 Z'1 r'1 p1).1.qK7.1 (w1.2.2 x'1 Z'1 r'1 p1).1.qK7.2.1 lf_11_156 dX11_curve_72 (G_4_0 (w1.2.2 x'1 Z'1 r'1 p1).1.qK7.2.2.1.1 lf_11_159 dX11_curve_75 (V_iret (ty := .int) dX11_curve_78 rfl rfl (((w1.2.2 x'1 Z'1 r'1 p1).2.2.2.1 c3).2.1 c4))))))
    · exact V_tableIn (tgt := 79) dX11_curve_25 ((w1.2.2 x'1 Z'1 r'1 p1).2.2.2.1 c3).1 (by rw [c5]; decide) (by rw [c5]; decide) (by rw [c5]; rfl) rfl (V_aload_n dX11_curve_79 rfl (G_11_7 (w1.2.2 x'1 Z'1 r'1 p1).1.1 (w1.2.2 x'1 Z'1 r'1 p1).1.qR7 lf_11_60 dX11_curve_80 (G_2_1 (w1.2.2 x'1 Z'1 r'1 p1).1.qK7.1 (w1.2.2 x'1 Z'1 r'1 p1).1.qK7.2.2.2.1 lf_11_162 dX11_curve_83 (G_7_0 (w1.2.2 x'1 Z'1 r'1 p1).1.qK7.2.2.2.2.1.1 lf_11_165 dX11_curve_86 (V_iret (ty := .int) dX11_curve_89 rfl rfl (((w1.2.2 x'1 Z'1 r'1 p1).2.2.2.1 c3).2.2.1 c5))))))
    · exact V_tableIn (tgt := 90) dX11_curve_25 ((w1.2.2 x'1 Z'1 r'1 p1).2.2.2.1 c3).1 (by rw [c6]; decide) (by rw [c6]; decide) (by rw [c6]; rfl) rfl (V_aload_n dX11_curve_90 rfl (G_11_7 (w1.2.2 x'1 Z'1 r'1 p1).1.1 (w1.2.2 x'1 Z'1 r'1 p1).1.qR7 lf_11_60 dX11_curve_91 (G_2_2 (w1.2.2 x'1 Z'1 r'1 p1).1.qK7.1 lf_11_168 dX11_curve_94 (V_iret (ty := .int) dX11_curve_97 rfl rfl (((w1.2.2 x'1 Z'1 r'1 p1).2.2.2.1 c3).2.2.2.1 c6)))))
    · exact V_tableIn (tgt := 98) dX11_curve_25 ((w1.2.2 x'1 Z'1 r'1 p1).2.2.2.1 c3).1 (by rw [c7]; decide) (by rw [c7]; decide) (by rw [c7]; rfl) rfl (V_aload_n dX11_curve_98 rfl (G_11_7 (w1.2.2 x'1 Z'1 r'1 p1).1.1 (w1.2.2 x'1 Z'1 r'1 p1).1.qR7 lf_11_60 dX11_curve_99 (G_2_3 (w1.2.2 x'1 Z'1 r'1 p1).1.qK7.1 lf_11_171 dX11_curve_102 (V_iret (ty := .int) dX11_curve_105 rfl rfl (((w1.2.2 x'1 Z'1 r'1 p1).2.2.2.1 c3).2.2.2.2.1 c7)))))
    · exact V_tableIn (tgt := 106) dX11_curve_25 ((w1.2.2 x'1 Z'1 r'1 p1).2.2.2.1 c3).1 (by rw [c8]; decide) (by rw [c8]; decide) (by rw [c8]; rfl) rfl (V_aload_n dX11_curve_106 rfl (G_11_7 (w1.2.2 x'1 Z'1 r'1 p1).1.1 (w1.2.2 x'1 Z'1 r'1 p1).1.qR7 lf_11_60 dX11_curve_107 (Exists.elim (((w1.2.2 x'1 Z'1 r'1 p1).2.2.2.1 c3).2.2.2.2.2.1 c8) (fun g2 w2 => V_callV (k' := 0) (n' := 0) (t := 2) (q := (RX2, TX2, 17)) [] [] okX2_fixedPoints (w1.2.2 x'1 Z'1 r'1 p1).1.qK7.1 rfl rfl lm_11_174 liX2_fixedPoints lqX2_fixedPoints (Nat.le_of_ble_eq_true rfl) (Nat.le_of_ble_eq_true rfl) (Nat.le_of_ble_eq_true rfl) (cat_of rfl) (Nat.le_of_ble_eq_true rfl) (Nat.zero_le _) (Nat.zero_le _) rfl dX11_curve_110 (sp_X2_fixedPoints (w1.2.2 x'1 Z'1 r'1 p1).1.qK7 w2.1 w2.2.1 (V_iret (ty := .int) dX11_curve_113 rfl rfl w2.2.2))))))
    · exact V_tableIn (tgt := 114) dX11_curve_25 ((w1.2.2 x'1 Z'1 r'1 p1).2.2.2.1 c3).1 (by rw [c9]; decide) (by rw [c9]; decide) (by rw [c9]; rfl) rfl (V_aload_n dX11_curve_114 rfl (G_11_7 (w1.2.2 x'1 Z'1 r'1 p1).1.1 (w1.2.2 x'1 Z'1 r'1 p1).1.qR7 lf_11_60 dX11_curve_115 (V_iconst dX11_curve_118 (V_callV (k' := 0) (n' := 0) (t := 2) (q := (RX2, TX2, 17)) [i_ 1] [] okX2_shareAt (w1.2.2 x'1 Z'1 r'1 p1).1.qK7.1 rfl rfl lm_11_178 liX2_shareAt lqX2_shareAt (Nat.le_of_ble_eq_true rfl) (Nat.le_of_ble_eq_true rfl) (Nat.le_of_ble_eq_true rfl) (cat_of rfl) (Nat.le_of_ble_eq_true rfl) (Nat.zero_le _) (Nat.zero_le _) rfl dX11_curve_119 (sp_X2_shareAt (w1.2.2 x'1 Z'1 r'1 p1).1.qK7 (((w1.2.2 x'1 Z'1 r'1 p1).2.2.2.1 c3).2.2.2.2.2.2.1 c9).1 (V_iret (ty := .int) dX11_curve_122 rfl rfl (((w1.2.2 x'1 Z'1 r'1 p1).2.2.2.1 c3).2.2.2.2.2.2.1 c9).2))))))
    · exact V_tableIn (tgt := 123) dX11_curve_25 ((w1.2.2 x'1 Z'1 r'1 p1).2.2.2.1 c3).1 (by rw [c10]; decide) (by rw [c10]; decide) (by rw [c10]; rfl) rfl (V_iconst dX11_curve_123 (V_aload_n dX11_curve_124 rfl (G_11_7 (w1.2.2 x'1 Z'1 r'1 p1).1.1 (w1.2.2 x'1 Z'1 r'1 p1).1.qR7 lf_11_60 dX11_curve_125 (G_2_2 (w1.2.2 x'1 Z'1 r'1 p1).1.qK7.1 lf_11_168 dX11_curve_128 (V_imul dX11_curve_131 (V_iconst dX11_curve_132 (V_iadd dX11_curve_133 (V_iret (ty := .int) dX11_curve_134 rfl rfl (((w1.2.2 x'1 Z'1 r'1 p1).2.2.2.1 c3).2.2.2.2.2.2.2.1 c10)))))))))
    · exact V_tableOut (tgt := 135) dX11_curve_25 ((w1.2.2 x'1 Z'1 r'1 p1).2.2.2.1 c3).1 c11 rfl (V_iload_n dX11_curve_135 rfl (V_bipush dX11_curve_136 rfl (V_icmp_lt (tgt := 158) dX11_curve_138 rfl ((w1.2.2 x'1 Z'1 r'1 p1).2.2.2.1 c3).1 (rg_c rfl) (fun c12 => V_msk [false, false, false, false] rfl ((((w1.2.2 x'1 Z'1 r'1 p1).2.2.2.1 c3).2.2.2.2.2.2.2.2 c11).1 c12)) (fun c12 => V_iload_n dX11_curve_141 rfl (V_bipush dX11_curve_142 rfl (V_aload_n dX11_curve_144 rfl (G_11_7 (w1.2.2 x'1 Z'1 r'1 p1).1.1 (w1.2.2 x'1 Z'1 r'1 p1).1.qR7 lf_11_60 dX11_curve_145 (G_2_1 (w1.2.2 x'1 Z'1 r'1 p1).1.qK7.1 (w1.2.2 x'1 Z'1 r'1 p1).1.qK7.2.2.2.1 lf_11_162 dX11_curve_148 (G_7_0 (w1.2.2 x'1 Z'1 r'1 p1).1.qK7.2.2.2.2.1.1 lf_11_165 dX11_curve_151 (V_iadd dX11_curve_154 (V_icmp_le (tgt := 160) dX11_curve_155 rfl ((w1.2.2 x'1 Z'1 r'1 p1).2.2.2.1 c3).1 ((((w1.2.2 x'1 Z'1 r'1 p1).2.2.2.1 c3).2.2.2.2.2.2.2.2 c11).2 c12).1 (fun c13 => V_aload_n dX11_curve_160 rfl (V_iconst dX11_curve_161 (V_iload_n dX11_curve_162 rfl (V_iadd dX11_curve_163 (V_bipush dX11_curve_164 rfl (V_isub dX11_curve_166 (V_iald (t := 100) (w1.2.2 x'1 Z'1 r'1 p1).2.1 (by decide) rfl (((((w1.2.2 x'1 Z'1 r'1 p1).2.2.2.1 c3).2.2.2.2.2.2.2.2 c11).2 c12).2.1 c13).1 (((((w1.2.2 x'1 Z'1 r'1 p1).2.2.2.1 c3).2.2.2.2.2.2.2.2 c11).2 c12).2.1 c13).2.1 (Nat.le_of_ble_eq_true rfl) dX11_curve_167 (V_iret (ty := .int) dX11_curve_168 rfl rfl (((((w1.2.2 x'1 Z'1 r'1 p1).2.2.2.1 c3).2.2.2.2.2.2.2.2 c11).2 c12).2.1 c13).2.2)))))))) (fun c13 => V_msk [false, false, false, false] rfl (((((w1.2.2 x'1 Z'1 r'1 p1).2.2.2.1 c3).2.2.2.2.2.2.2.2 c11).2 c12).2.2 c13)))))))))))))))) (fun c3 => V_msk [false, false, false, false] rfl ((w1.2.2 x'1 Z'1 r'1 p1).2.2.2.2 c3)))))))))))))))))
set_option maxRecDepth 20000 in
theorem b_X11_curve_22 {k n : Nat} {x : Wx} {Z : Zt} {Q : Option Value → Wx → Zt → Prop}  
    (h : Q (some (i_ (-1))) x Z) :
    V mX11_curve k n 22 [none, none, none, none] [] x Z Q :=
  V_iconst dX11_curve_22 (V_iret (ty := .int) dX11_curve_23 rfl rfl h)
set_option maxRecDepth 20000 in
theorem b_X11_curve_158 {k n : Nat} {x : Wx} {Z : Zt} {Q : Option Value → Wx → Zt → Prop}  
    (h : Q (some (i_ (-1))) x Z) :
    V mX11_curve k n 158 [none, none, none, none] [] x Z Q :=
  V_iconst dX11_curve_158 (V_iret (ty := .int) dX11_curve_159 rfl rfl h)
theorem dX11_count_0 : decode cX11_count 0 = .ok (.iload_n 1, 1) := by decide +kernel
theorem dX11_count_1 : decode cX11_count 1 = .ok (.ifCond .lt 8, 3) := by decide +kernel
theorem dX11_count_4 : decode cX11_count 4 = .ok (.iload_n 1, 1) := by decide +kernel
theorem dX11_count_5 : decode cX11_count 5 = .ok (.iconst 3, 1) := by decide +kernel
theorem dX11_count_6 : decode cX11_count 6 = .ok (.if_icmp .lt 8, 3) := by decide +kernel
theorem dX11_count_9 : decode cX11_count 9 = .ok (.bipush (-2), 2) := by decide +kernel
theorem dX11_count_11 : decode cX11_count 11 = .ok (.goto 12, 3) := by decide +kernel
theorem dX11_count_14 : decode cX11_count 14 = .ok (.aload_n 0, 1) := by decide +kernel
theorem dX11_count_15 : decode cX11_count 15 = .ok (.getfield 10, 3) := by decide +kernel
theorem dX11_count_18 : decode cX11_count 18 = .ok (.getfield 122, 3) := by decide +kernel
theorem dX11_count_21 : decode cX11_count 21 = .ok (.iload_n 1, 1) := by decide +kernel
theorem dX11_count_22 : decode cX11_count 22 = .ok (.iaload, 1) := by decide +kernel
theorem dX11_count_23 : decode cX11_count 23 = .ok (.ireturn, 1) := by decide +kernel
set_option maxRecDepth 20000 in
theorem b_X11_count_0 {k n : Nat} {x : Wx} {Z : Zt} {Q : Option Value → Wx → Zt → Prop} {a0 : Nat} {v1 : Int} (o_a0 : Is11 x a0)
    (h : Rg v1 ∧ (((v1 < 0) → (V mX11_count k n 9 [none, none] [] x Z Q)) ∧ ((0 ≤ v1) → (((v1 < 3) → (Q (some (i_ (Z (a0 + 3) v1.toNat))) x Z)) ∧ ((3 ≤ v1) → (V mX11_count k n 9 [none, none] [] x Z Q)))))) :
    V mX11_count k n 0 [some (r_ a0), some (i_ v1)] [] x Z Q :=
  V_iload_n dX11_count_0 rfl (V_if_lt (tgt := 9) dX11_count_1 rfl h.1 (fun c1 => V_msk [false, false] rfl (h.2.1 c1)) (fun c1 => V_iload_n dX11_count_4 rfl (V_iconst dX11_count_5 (V_icmp_lt (tgt := 14) dX11_count_6 rfl h.1 (rg_c rfl) (fun c2 => V_aload_n dX11_count_14 rfl (G_11_0 o_a0.1 o_a0.qR0 lf_11_10 dX11_count_15 (G_10_4 o_a0.qK0.1 o_a0.qK0.2.2.2.1 lf_11_122 dX11_count_18 (V_iload_n dX11_count_21 rfl (V_iald (t := 100) o_a0.qK0.2.2.2.2.1 (by decide) rfl c1 c2 (Nat.le_of_ble_eq_true rfl) dX11_count_22 (V_iret (ty := .int) dX11_count_23 rfl rfl ((h.2.2 c1).1 c2))))))) (fun c2 => V_msk [false, false] rfl ((h.2.2 c1).2 c2))))))
set_option maxRecDepth 20000 in
theorem b_X11_count_9 {k n : Nat} {x : Wx} {Z : Zt} {Q : Option Value → Wx → Zt → Prop}  
    (h : Q (some (i_ (-2))) x Z) :
    V mX11_count k n 9 [none, none] [] x Z Q :=
  V_bipush dX11_count_9 rfl (V_goto (tgt := 23) dX11_count_11 rfl (V_iret (ty := .int) dX11_count_23 rfl rfl h))
/-! ===== CurveShares: the answers ===== -/
/-- a call that asks: it answers r, and the object keeps S -/
def RAn (a : Nat) (S : Ab) (x : Wx) (Z : Zt) (Q : Option Value → Wx → Zt → Prop) (r : Int) : Prop := ∀ (x' : Wx) (Z' : Zt), OI x' Z' a S → Fx a x x' Z Z' → Q (some (i_ r)) x' Z'
theorem shA_ext {s s' : Nat → Int} {t : Int} : ∀ {m : Nat} {v : Int}, (∀ i : Nat, i < m → s i = s' i) → shA s t m v = shA s' t m v
  | 0, _, _ => rfl
  | m + 1, v, h => by
    unfold shA
    rw [h m (by omega)]
    exact shA_ext (fun i hi => h i (by omega))
def ans1 (T : Td) (c : Int) : Prop := 0 ≤ c ∧ c < T.ct 0
theorem ShV {Z : Zt} {a : Nat} {p : Int} {F : Nat → Int} (h : CvA Z a p F) (t : Int) : shA (Z (a + 8)) t (2 * Z a 2 + 1).toNat 0 = shA (shF p F) t (2 * gen F + 1).toNat 0 := by
  have hg := gen_rg F
  rw [h.2.2.2.1]
  exact shA_ext (fun i hi => h.2.2.2.2.1 i (by omega))
def aShare (T : Td) (c i : Int) : Int := if (0 ≤ c ∧ c < T.ct 0) ∧ -1 ≤ i ∧ i ≤ 2 * gen (T.F c.toNat) then (if i = -1 then shA (shF (T.p c.toNat) (T.F c.toNat)) 1 (2 * gen (T.F c.toNat) + 1).toNat 0 else shF (T.p c.toNat) (T.F c.toNat) i.toNat) else -1000000
theorem sp_X11_share {k n : Nat} {x : Wx} {Z : Zt} {Q : Option Value → Wx → Zt → Prop} {a : Nat} {v i : Int} (o : Is11 x a) {S : Ab} (hI : OI x Z a S) (hv : Rg v) (hi : Rg i) (h : RAn a S x Z Q (aShare S.nw v i)) : V mX11_share k n 0 [some (r_ a), some (i_ v), some (i_ i)] [] x Z Q := by
  unfold aShare at h
  have no : ∀ (x' : Wx) (Z' : Zt), OI x' Z' a S → Fx a x x' Z Z' → ¬ ((0 ≤ v ∧ v < S.nw.ct 0) ∧ -1 ≤ i ∧ i ≤ 2 * gen (S.nw.F v.toNat)) → V mX11_share k n 26 [none, none, none] [] x' Z' Q := fun x' Z' h1 h2 h3 => b_X11_share_26 (by rw [if_neg h3] at h; exact h x' Z' h1 h2)
  refine b_X11_share_0 o ⟨hi, fun c => no x Z hI Fx.rf (by omega), fun c => ⟨S, hI, hv, fun x1 Z1 r1 hq => ?_⟩⟩
  obtain ⟨q1, q2, q3, q4⟩ := hq
  subst q3
  refine ⟨q1.1, bI_rg _, fun c1 => no x1 Z1 q1 q2 (fun e => of_decide_eq_false (bI_0 c1) e.1), fun c1 => ?_⟩
  have hc := of_decide_eq_true (bI_1 c1)
  obtain ⟨d, hd⟩ : ∃ d : Nat, v = (d : Int) := ⟨v.toNat, by omega⟩
  obtain ⟨g1, g2, g3, g4, g5, g6⟩ := q1.cv (c := d) (by rw [q4 hc, hd])
  have hg := gen_rg (S.nw.F d)
  rw [hd, Int.toNat_natCast] at h no
  rw [hd] at hc
  rw [ShV g4, g4.2.2.2.1]
  refine ⟨⟨by omega, by omega⟩, fun c2 => ⟨fun c3 => ⟨by omega, by omega, ?_⟩, fun c3 => ⟨⟨by omega, by omega⟩, ?_⟩⟩, fun c2 => no x1 Z1 q1 q2 (by omega)⟩
  · rw [if_pos ⟨hc, by omega, by omega⟩, if_neg c3] at h
    rw [g4.2.2.2.2.1 i.toNat (by omega)]; exact h x1 Z1 q1 q2
  · rw [if_pos ⟨hc, by omega, by omega⟩, if_pos c3] at h
    exact h x1 Z1 q1 q2
def aPoint (T : Td) (c k w : Int) : Int := if (0 ≤ c ∧ c < T.ct 0) ∧ 0 ≤ k ∧ k < (T.L c.toNat).length then (if w = 0 then ((T.L c.toNat).getD k.toNat (0, 0)).1 else if w = 1 then ((T.L c.toNat).getD k.toNat (0, 0)).2 else if w = 2 then bI (fxd (T.L c.toNat) k) else -1) else -1
theorem sp_X11_point {k n : Nat} {x : Wx} {Z : Zt} {Q : Option Value → Wx → Zt → Prop} {a : Nat} {v i w : Int} (o : Is11 x a) {S : Ab} (hI : OI x Z a S) (hv : Rg v) (hi : Rg i) (hw : Rg w) (h : RAn a S x Z Q (aPoint S.nw v i w)) : V mX11_point k n 0 [some (r_ a), some (i_ v), some (i_ i), some (i_ w)] [] x Z Q := by
  unfold aPoint at h
  have no : ∀ (x' : Wx) (Z' : Zt), OI x' Z' a S → Fx a x x' Z Z' → ¬ ((0 ≤ v ∧ v < S.nw.ct 0) ∧ 0 ≤ i ∧ i < (S.nw.L v.toNat).length) → V mX11_point k n 19 [none, none, none, none] [] x' Z' Q := fun x' Z' h1 h2 h3 => b_X11_point_19 (by rw [if_neg h3] at h; exact h x' Z' h1 h2)
  refine b_X11_point_0 o ⟨S, hI, hv, fun x1 Z1 r1 hq => ?_⟩
  obtain ⟨q1, q2, q3, q4⟩ := hq
  subst q3
  refine ⟨q1.1, bI_rg _, fun c1 => no x1 Z1 q1 q2 (fun e => of_decide_eq_false (bI_0 c1) e.1), fun c1 => ?_⟩
  have hc := of_decide_eq_true (bI_1 c1)
  obtain ⟨d, hd⟩ : ∃ d : Nat, v = (d : Int) := ⟨v.toNat, by omega⟩
  obtain ⟨g1, g2, g3, g4, g5, g6⟩ := q1.cv (c := d) (by rw [q4 hc, hd])
  rw [hd, Int.toNat_natCast] at h no
  rw [hd] at hc
  have hPr : PtR (S.nw.L d) := pall_rg g3 _
  have hP : PtA Z1 (a + 40) (S.nw.L d) := g4.2.2.1
  have hl := hPr.1
  rw [hP.1]
  refine ⟨hi, ⟨by omega, by omega⟩, bI_rg _, fun c2 => ⟨hw, ?_⟩, fun c2 => no x1 Z1 q1 q2 (fun e => of_decide_eq_false (bI_0 c2) e.2)⟩
  have hk := of_decide_eq_true (bI_1 c2)
  have hpt := hP.2 i.toNat (by omega)
  rw [if_pos ⟨hc, hk⟩] at h
  refine ⟨fun c3 => ⟨hk.1, by omega, ?_⟩, fun c3 => ⟨hk.1, by omega, ?_⟩, fun c3 => ⟨S.nw.L d, hP, hPr, hk, bI_rg _, fun c4 => ?_, fun c4 => ?_⟩, fun c3 => ?_⟩
  · rw [if_pos c3] at h
    rw [show Z1 (a + 46) i.toNat = _ from hpt.1]; exact h x1 Z1 q1 q2
  · rw [if_neg (by omega), if_pos c3] at h
    rw [show Z1 (a + 47) i.toNat = _ from hpt.2]; exact h x1 Z1 q1 q2
  · rw [if_neg (by omega), if_neg (by omega), if_pos c3, c4] at h; exact h x1 Z1 q1 q2
  · rw [if_neg (by omega), if_neg (by omega), if_pos c3, bI_1 c4] at h; exact h x1 Z1 q1 q2
  · rw [if_neg (by omega), if_neg (by omega), if_neg (by omega)] at h; exact h x1 Z1 q1 q2
def aGap (T : Td) (c k i : Int) : Int := if (0 ≤ c ∧ c < T.ct 0) ∧ (0 ≤ k ∧ k < (T.L c.toNat).length) ∧ 0 ≤ i ∧ i < gen (T.F c.toNat) then (if i = 1 ∧ fxd (T.L c.toNat) k = true then 3 else i + 1) else -1
theorem sp_X11_gap {k n : Nat} {x : Wx} {Z : Zt} {Q : Option Value → Wx → Zt → Prop} {a : Nat} {v i w : Int} (o : Is11 x a) {S : Ab} (hI : OI x Z a S) (hv : Rg v) (hi : Rg i) (hw : Rg w) (h : RAn a S x Z Q (aGap S.nw v i w)) : V mX11_gap k n 0 [some (r_ a), some (i_ v), some (i_ i), some (i_ w)] [] x Z Q := by
  unfold aGap at h
  have no : ∀ (x' : Wx) (Z' : Zt), OI x' Z' a S → Fx a x x' Z Z' → ¬ ((0 ≤ v ∧ v < S.nw.ct 0) ∧ (0 ≤ i ∧ i < (S.nw.L v.toNat).length) ∧ 0 ≤ w ∧ w < gen (S.nw.F v.toNat)) → V mX11_gap k n 34 [none, none, none, none] [] x' Z' Q := fun x' Z' h1 h2 h3 => b_X11_gap_34 (by rw [if_neg h3] at h; exact h x' Z' h1 h2)
  refine b_X11_gap_0 o ⟨S, hI, hv, fun x1 Z1 r1 hq => ?_⟩
  obtain ⟨q1, q2, q3, q4⟩ := hq
  subst q3
  refine ⟨q1.1, bI_rg _, fun c1 => no x1 Z1 q1 q2 (fun e => of_decide_eq_false (bI_0 c1) e.1), fun c1 => ?_⟩
  have hc := of_decide_eq_true (bI_1 c1)
  obtain ⟨d, hd⟩ : ∃ d : Nat, v = (d : Int) := ⟨v.toNat, by omega⟩
  obtain ⟨g1, g2, g3, g4, g5, g6⟩ := q1.cv (c := d) (by rw [q4 hc, hd])
  rw [hd, Int.toNat_natCast] at h no
  rw [hd] at hc
  have hPr : PtR (S.nw.L d) := pall_rg g3 _
  have hP : PtA Z1 (a + 40) (S.nw.L d) := g4.2.2.1
  have hl := hPr.1
  have hg := gen_rg (S.nw.F d)
  rw [hP.1, g4.2.2.2.1]
  refine ⟨hi, ⟨by omega, by omega⟩, bI_rg _, fun c2 => no x1 Z1 q1 q2 (fun e => of_decide_eq_false (bI_0 c2) e.2.1), fun c2 => ⟨hw, fun c3 => no x1 Z1 q1 q2 (by omega), fun c3 => ⟨⟨by omega, by omega⟩, fun c4 => ?_, fun c4 => no x1 Z1 q1 q2 (by omega)⟩⟩⟩
  have hk := of_decide_eq_true (bI_1 c2)
  rw [if_pos ⟨hc, hk, by omega, by omega⟩] at h
  refine ⟨fun c5 => b_X11_gap_56 ?_, fun c5 => ⟨S.nw.L d, hP, hPr, hk, bI_rg _, fun c6 => b_X11_gap_56 ?_, fun c6 => ?_⟩⟩
  · rw [if_neg (fun e => c5 e.1)] at h; exact h x1 Z1 q1 q2
  · rw [if_neg (fun e => by rw [bI_0 c6] at e; cases e.2)] at h; exact h x1 Z1 q1 q2
  · rw [if_pos ⟨c5, bI_1 c6⟩] at h; exact h x1 Z1 q1 q2
def aTwist (T : Td) (c w : Int) : Int := if 0 ≤ c ∧ c < T.ct 0 then (if w = 0 then nsq (T.p c.toNat) else if w = 1 then 2 * T.p c.toNat + 2 - (T.L c.toNat).length else if w = 2 then shA (shF (T.p c.toNat) (T.F c.toNat)) (-1) (2 * gen (T.F c.toNat) + 1).toNat 0 else -1) else -1
theorem sp_X11_twist {k n : Nat} {x : Wx} {Z : Zt} {Q : Option Value → Wx → Zt → Prop} {a : Nat} {v w : Int} (o : Is11 x a) {S : Ab} (hI : OI x Z a S) (hv : Rg v) (hw : Rg w) (h : RAn a S x Z Q (aTwist S.nw v w)) : V mX11_twist k n 0 [some (r_ a), some (i_ v), some (i_ w)] [] x Z Q := by
  unfold aTwist at h
  refine b_X11_twist_0 o ⟨S, hI, hv, fun x1 Z1 r1 hq => ?_⟩
  obtain ⟨q1, q2, q3, q4⟩ := hq
  subst q3
  refine ⟨q1.1, bI_rg _, fun c1 => ?_, fun c1 => ?_⟩
  · have hc := of_decide_eq_true (bI_1 c1)
    obtain ⟨d, hd⟩ : ∃ d : Nat, v = (d : Int) := ⟨v.toNat, by omega⟩
    obtain ⟨g1, g2, g3, g4, g5, g6⟩ := q1.cv (c := d) (by rw [q4 hc, hd])
    rw [if_pos hc, hd, Int.toNat_natCast] at h
    have hP : PtA Z1 (a + 40) (S.nw.L d) := g4.2.2.1
    have hg := gen_rg (S.nw.F d)
    rw [ShV g4, g4.2.2.2.1, hP.1, show Z1 (a + 41) 0 = S.nw.p d from g4.1.1, show Z1 (a + 41) 1 = nsq (S.nw.p d) from g4.1.2.1]
    refine ⟨hw, fun c3 => ?_, fun c3 => ?_, fun c3 => ⟨⟨by omega, by omega⟩, ?_⟩, fun c3 => ?_⟩
    · rw [if_pos c3] at h; exact h x1 Z1 q1 q2
    · rw [if_neg (by omega), if_pos c3] at h; exact h x1 Z1 q1 q2
    · rw [if_neg (by omega), if_neg (by omega), if_pos c3] at h; exact h x1 Z1 q1 q2
    · rw [if_neg (by omega), if_neg (by omega), if_neg (by omega)] at h; exact h x1 Z1 q1 q2
  · rw [if_neg (of_decide_eq_false (bI_0 c1))] at h; exact h x1 Z1 q1 q2
def aCounted (T : Td) (c m y : Int) : Int := if (0 ≤ c ∧ c < T.ct 0) ∧ 1 ≤ m ∧ m ≤ 12 then (if y = 0 then ctV (T.p c.toNat) (shF (T.p c.toNat) (T.F c.toNat)) (gen (T.F c.toNat)) m.toNat else plT (ctV (T.p c.toNat) (shF (T.p c.toNat) (T.F c.toNat)) (gen (T.F c.toNat))) 12 m.toNat) else -1
theorem sp_X11_counted {k n : Nat} {x : Wx} {Z : Zt} {Q : Option Value → Wx → Zt → Prop} {a : Nat} {v m y : Int} (o : Is11 x a) {S : Ab} (hI : OI x Z a S) (hv : Rg v) (hm : Rg m) (hy : Rg y) (h : ∀ (x' : Wx) (Z' : Zt), OI x' Z' a S → Fx a x x' Z Z' → Q (some (l_ (aCounted S.nw v m y))) x' Z') : V mX11_counted k n 0 [some (r_ a), some (i_ v), some (i_ m), some (i_ y)] [] x Z Q := by
  unfold aCounted at h
  have no : ∀ (x' : Wx) (Z' : Zt), OI x' Z' a S → Fx a x x' Z Z' → ¬ ((0 ≤ v ∧ v < S.nw.ct 0) ∧ 1 ≤ m ∧ m ≤ 12) → V mX11_counted k n 19 [none, none, none, none] [] x' Z' Q := fun x' Z' h1 h2 h3 => b_X11_counted_19 (by rw [if_neg h3] at h; exact h x' Z' h1 h2)
  refine b_X11_counted_0 o ⟨hm, fun c => no x Z hI Fx.rf (by omega), fun c => ⟨fun c0 => no x Z hI Fx.rf (by omega), fun c0 => ⟨S, hI, hv, fun x1 Z1 r1 hq => ?_⟩⟩⟩
  obtain ⟨q1, q2, q3, q4⟩ := hq
  subst q3
  refine ⟨q1.1, bI_rg _, fun c1 => ?_, fun c1 => no x1 Z1 q1 q2 (fun e => of_decide_eq_false (bI_0 c1) e.1)⟩
  have hc := of_decide_eq_true (bI_1 c1)
  obtain ⟨d, hd⟩ : ∃ d : Nat, v = (d : Int) := ⟨v.toNat, by omega⟩
  obtain ⟨g1, g2, g3, g4, g5, g6⟩ := q1.cv (c := d) (by rw [q4 hc, hd])
  rw [if_pos ⟨hc, c, c0⟩, hd, Int.toNat_natCast] at h
  refine ⟨hy, fun c2 => ⟨by omega, by omega, ?_⟩, fun c2 => ⟨by omega, by omega, ?_⟩⟩
  · rw [if_pos c2] at h
    rw [show Z1 (a + 49) m.toNat = _ from g4.2.2.2.2.2.1 m.toNat (by omega) (by omega)]; exact h x1 Z1 q1 q2
  · rw [if_neg c2] at h
    rw [show Z1 (a + 50) m.toNat = _ from g4.2.2.2.2.2.2 m.toNat (by omega) (by omega)]; exact h x1 Z1 q1 q2
theorem sp_X11_fits {k n : Nat} {x : Wx} {Z : Zt} {Q : Option Value → Wx → Zt → Prop} {a : Nat} {v s : Int} (o : Is11 x a) {S : Ab} (hI : OI x Z a S) (hv : Rg v) (hs : Rg s) (h : RAn a S x Z Q (bI (fitB S.nw v s))) : V mX11_fits k n 0 [some (r_ a), some (i_ v), some (i_ s)] [] x Z Q := by
  refine b_X11_fits_0 o ⟨S, hI, hv, hs, fun x1 Z1 r1 hq => ?_⟩
  obtain ⟨q1, q2, q3, q4⟩ := hq
  subst q3
  exact ⟨bI_01 _, h x1 Z1 q1 q2⟩
def aFault (T : Td) (w : Int) : Int := if w = 0 then T.fl else if w = 1 then T.pc else -1
theorem sp_X11_fault {k n : Nat} {x : Wx} {Z : Zt} {Q : Option Value → Wx → Zt → Prop} {a : Nat} {w : Int} (o : Is11 x a) {S : Ab} (hI : OI x Z a S) (hw : Rg w) (h : RAn a S x Z Q (aFault S.nw w)) : V mX11_fault k n 0 [some (r_ a), some (i_ w)] [] x Z Q := by
  unfold aFault at h
  have ht := hI.2.2.2.1.2.1
  refine b_X11_fault_0 o ?_
  rw [ht.2.1, ht.2.2]
  refine ⟨hw, fun c => ⟨fun c2 => ?_, fun c2 => ?_⟩, fun c => ?_⟩
  · rw [if_neg c, if_neg c2] at h; exact h x Z hI Fx.rf
  · rw [if_neg c, if_pos c2] at h; exact h x Z hI Fx.rf
  · rw [if_pos c] at h; exact h x Z hI Fx.rf
def aUnder (T : Td) (c s i : Int) : Int := if fitB T c s = true ∧ 0 ≤ i ∧ i ≤ (rmU (T.p c.toNat) (T.F c.toNat) (T.rw (2 + s.toNat))).1 then (rmU (T.p c.toNat) (T.F c.toNat) (T.rw (2 + s.toNat))).2 i.toNat else -1
theorem sp_X11_under {k n : Nat} {x : Wx} {Z : Zt} {Q : Option Value → Wx → Zt → Prop} {a : Nat} {v s i : Int} (o : Is11 x a) {S : Ab} (hI : OI x Z a S) (hv : Rg v) (hs : Rg s) (hi : Rg i) (h : RAn a S x Z Q (aUnder S.nw v s i)) : V mX11_under k n 0 [some (r_ a), some (i_ v), some (i_ s), some (i_ i)] [] x Z Q := by
  unfold aUnder at h
  have no : ∀ (x' : Wx) (Z' : Zt), OI x' Z' a S → Fx a x x' Z Z' → ¬ (fitB S.nw v s = true ∧ 0 ≤ i ∧ i ≤ (rmU (S.nw.p v.toNat) (S.nw.F v.toNat) (S.nw.rw (2 + s.toNat))).1) → V mX11_under k n 24 [none, none, none, none] [] x' Z' Q := fun x' Z' h1 h2 h3 => b_X11_under_24 (by rw [if_neg h3] at h; exact h x' Z' h1 h2)
  refine b_X11_under_0 o ⟨hi, fun c => no x Z hI Fx.rf (by omega), fun c => ⟨S, hI, hv, hs, fun x1 Z1 r1 hq => ?_⟩⟩
  obtain ⟨q1, q2, q3, q4⟩ := hq
  subst q3
  refine ⟨q1.1, bI_rg _, fun c1 => no x1 Z1 q1 q2 (fun e => by rw [bI_0 c1] at e; cases e.1), fun c1 => ?_⟩
  have hf := bI_1 c1
  have hft := fitB_t hf
  obtain ⟨d, hd⟩ : ∃ d : Nat, v = (d : Int) := ⟨v.toNat, by omega⟩
  obtain ⟨t, ht⟩ : ∃ t : Nat, s = (t : Int) := ⟨s.toNat, by omega⟩
  obtain ⟨g1, g2, g3, g4, g5, g6⟩ := q1.cv (c := d) (by rw [(q4 hf).1, hd])
  obtain ⟨w1, w2, w3, σ, w4, w5⟩ := q1.rm (c := d) (s := t) (by rw [(q4 hf).1, hd]) (by rw [(q4 hf).2, ht])
  have h40 := rmU_40 g3 (F := S.nw.F d) w2
  rw [hd, ht, Int.toNat_natCast, Int.toNat_natCast] at h no
  rw [hd, ht] at hf
  rw [w4.2.1.2.2.2]
  refine ⟨⟨by omega, by omega⟩, fun c2 => ⟨by omega, ?_⟩, fun c2 => no x1 Z1 q1 q2 (by omega)⟩
  rw [if_pos ⟨hf, c, c2⟩] at h
  rw [show Z1 (a + 69) i.toNat = _ from w4.2.2.1 i.toNat (by omega)]; exact h x1 Z1 q1 q2
def aRoom (T : Td) (c s w : Int) : Int := if fitB T c s = true ∧ 0 ≤ w ∧ w ≤ 3 then (if w = 0 then sdeg (T.rw (2 + s.toNat)) (T.rw (2 + s.toNat) 0).toNat else if w = 1 then ((rmS (T.p c.toNat) (T.F c.toNat) (T.rw (2 + s.toNat))).2.2.2.2 : Nat) else if w = 2 then ((rmS (T.p c.toNat) (T.F c.toNat) (T.rw (2 + s.toNat))).2.2.2.2 : Nat) - (sdeg (T.rw (2 + s.toNat)) (T.rw (2 + s.toNat) 0).toNat + 1 - gen (T.F c.toNat)) else ((rmU (T.p c.toNat) (T.F c.toNat) (T.rw (2 + s.toNat))).1 : Nat)) else -1000
theorem sp_X11_room {k n : Nat} {x : Wx} {Z : Zt} {Q : Option Value → Wx → Zt → Prop} {a : Nat} {v s i : Int} (o : Is11 x a) {S : Ab} (hI : OI x Z a S) (hv : Rg v) (hs : Rg s) (hi : Rg i) (h : RAn a S x Z Q (aRoom S.nw v s i)) : V mX11_room k n 0 [some (r_ a), some (i_ v), some (i_ s), some (i_ i)] [] x Z Q := by
  unfold aRoom at h
  have no : ∀ (x' : Wx) (Z' : Zt), OI x' Z' a S → Fx a x x' Z Z' → ¬ (fitB S.nw v s = true ∧ 0 ≤ i ∧ i ≤ 3) → V mX11_room k n 18 [none, none, none, none] [] x' Z' Q := fun x' Z' h1 h2 h3 => b_X11_room_18 (by rw [if_neg h3] at h; exact h x' Z' h1 h2)
  refine b_X11_room_0 o ⟨hi, fun c => no x Z hI Fx.rf (by omega), fun c => ⟨fun c0 => no x Z hI Fx.rf (by omega), fun c0 => ⟨S, hI, hv, hs, fun x1 Z1 r1 hq => ?_⟩⟩⟩
  obtain ⟨q1, q2, q3, q4⟩ := hq
  subst q3
  refine ⟨q1.1, bI_rg _, fun c1 => ?_, fun c1 => no x1 Z1 q1 q2 (fun e => by rw [bI_0 c1] at e; cases e.1)⟩
  have hf := bI_1 c1
  have hft := fitB_t hf
  obtain ⟨d, hd⟩ : ∃ d : Nat, v = (d : Int) := ⟨v.toNat, by omega⟩
  obtain ⟨t, ht⟩ : ∃ t : Nat, s = (t : Int) := ⟨s.toNat, by omega⟩
  obtain ⟨g1, g2, g3, g4, g5, g6⟩ := q1.cv (c := d) (by rw [(q4 hf).1, hd])
  obtain ⟨w1, w2, w3, σ, w4, w5⟩ := q1.rm (c := d) (s := t) (by rw [(q4 hf).1, hd]) (by rw [(q4 hf).2, ht])
  rw [hd, ht, Int.toNat_natCast, Int.toNat_natCast] at h
  rw [hd, ht] at hf
  rw [if_pos ⟨hf, c, c0⟩] at h
  rw [w4.2.1.1, w4.2.1.2.1, w4.2.1.2.2.2, g4.2.2.2.1]
  refine ⟨fun c2 => ?_, fun c2 => ?_, fun c2 => ?_, fun c2 => ?_⟩
  · rw [if_pos c2] at h; exact h x1 Z1 q1 q2
  · rw [if_neg (by omega), if_pos c2] at h; exact h x1 Z1 q1 q2
  · rw [if_neg (by omega), if_neg (by omega), if_pos c2] at h; exact h x1 Z1 q1 q2
  · rw [if_neg (by omega), if_neg (by omega), if_neg (by omega)] at h; exact h x1 Z1 q1 q2
def aCurve (T : Td) (c w : Int) : Int := if 0 ≤ c ∧ c < T.ct 0 then (if w = 0 then T.p c.toNat else if w = 1 then pd (T.F c.toNat) else if w = 2 then gen (T.F c.toNat) else if w = 3 then (T.L c.toNat).length else if w = 4 then fxn (T.L c.toNat) (T.L c.toNat).length else if w = 5 then shA (shF (T.p c.toNat) (T.F c.toNat)) 1 (2 * gen (T.F c.toNat) + 1).toNat 0 else if w = 6 then 2 * gen (T.F c.toNat) + 2 else if 10 ≤ w ∧ w ≤ 10 + pd (T.F c.toNat) then T.rw c.toNat (2 + w - 10).toNat else -1) else -1
theorem sp_X11_curve {k n : Nat} {x : Wx} {Z : Zt} {Q : Option Value → Wx → Zt → Prop} {a : Nat} {v w : Int} (o : Is11 x a) {S : Ab} (hI : OI x Z a S) (hv : Rg v) (hw : Rg w) (h : RAn a S x Z Q (aCurve S.nw v w)) : V mX11_curve k n 0 [some (r_ a), some (i_ v), some (i_ w), none] [] x Z Q := by
  unfold aCurve at h
  obtain ⟨_, hk, _, _, _, hV, _⟩ := id hI
  have hct := hI.ct
  have hcr := hV.1.2.2.2.2.1
  refine b_X11_curve_0 o ?_
  rw [show Z (a + 1 + 2) (Int.toNat (0 : Int)) = S.nw.ct 0 from hct.1]
  refine ⟨hk.1, hk.2.1, by decide, hv, ⟨by omega, by show S.nw.ct 0 ≤ 2; omega⟩, fun hn => b_X11_curve_22 ?_, fun b hb => ?_⟩
  · rw [if_neg (rqn hn)] at h; exact h x Z hI Fx.rf
  · obtain ⟨hc, hb1⟩ := rqs hb
    obtain ⟨d, hd⟩ : ∃ d : Nat, v = (d : Int) := ⟨v.toNat, by omega⟩
    have hbe : b = a + 1 + 4 + d := by rw [hb1, hd]; show a + 1 + 4 + (0 + (d : Int)).toNat = _; omega
    have hrow := hI.row (r := d) (by omega)
    rw [hbe]
    refine ⟨hrow.1, S, hI, hv, fun x1 Z1 r1 hq => ?_⟩
    obtain ⟨q1, q2, q3, q4⟩ := hq
    subst q3
    refine ⟨q1.1, by rw [q2.1]; exact hrow.1, bI_rg _, fun c1 => ⟨hw, ?_⟩, fun c1 => absurd hc (of_decide_eq_false (bI_0 c1))⟩
    obtain ⟨g1, g2, g3, g4, g5, g6⟩ := q1.cv (c := d) (by rw [q4 hc, hd])
    have hrow1 := (q1.row (r := d) (by omega)).2
    have hpd := (crvR_pd g2).2
    have hdg := g2.2.1
    have e44 : Z1 (a + 44) 0 = pd (S.nw.F d) := g4.2.1.deg
    have hpd' : pd (S.nw.F d) = S.nw.rw d 1 := hpd
    have hPr : PtR (S.nw.L d) := pall_rg g3 _
    have hP : PtA Z1 (a + 40) (S.nw.L d) := g4.2.2.1
    have hg := gen_rg (S.nw.F d)
    rw [if_pos hc, hd, Int.toNat_natCast] at h
    rw [ShV g4, hrow1, e44, g4.2.2.2.1, hP.1, show Z1 (a + 41) 0 = S.nw.p d from g4.1.1]
    have no : ¬ (10 ≤ w ∧ w ≤ 10 + pd (S.nw.F d)) → (w < 0 ∨ 6 < w) → V mX11_curve k n 158 [none, none, none, none] [] x1 Z1 Q := fun h3 h4 => b_X11_curve_158 (by
      rw [if_neg (by omega), if_neg (by omega), if_neg (by omega), if_neg (by omega), if_neg (by omega), if_neg (by omega), if_neg (by omega), if_neg h3] at h
      exact h x1 Z1 q1 q2)
    refine ⟨fun c2 => ?_, fun c2 => ?_, fun c2 => ?_, fun c2 => ?_, fun c2 => ⟨S.nw.L d, hP, hPr, ?_⟩, fun c2 => ⟨⟨by omega, by omega⟩, ?_⟩, fun c2 => ?_, fun c2 => ⟨fun c3 => no (by omega) c2, fun c3 => ⟨⟨by omega, by omega⟩, fun c4 => ⟨by omega, by omega, ?_⟩, fun c4 => no (by omega) c2⟩⟩⟩
    · rw [if_pos c2] at h; exact h x1 Z1 q1 q2
    · rw [if_neg (by omega), if_pos c2] at h; exact h x1 Z1 q1 q2
    · rw [if_neg (by omega), if_neg (by omega), if_pos c2] at h; exact h x1 Z1 q1 q2
    · rw [if_neg (by omega), if_neg (by omega), if_neg (by omega), if_pos c2] at h; exact h x1 Z1 q1 q2
    · rw [if_neg (by omega), if_neg (by omega), if_neg (by omega), if_neg (by omega), if_pos c2] at h; exact h x1 Z1 q1 q2
    · rw [if_neg (by omega), if_neg (by omega), if_neg (by omega), if_neg (by omega), if_neg (by omega), if_pos c2] at h; exact h x1 Z1 q1 q2
    · rw [if_neg (by omega), if_neg (by omega), if_neg (by omega), if_neg (by omega), if_neg (by omega), if_neg (by omega), if_pos c2] at h; exact h x1 Z1 q1 q2
    · rw [if_neg (by omega), if_neg (by omega), if_neg (by omega), if_neg (by omega), if_neg (by omega), if_neg (by omega), if_neg (by omega), if_pos ⟨c3, c4⟩] at h; exact h x1 Z1 q1 q2
