theorem dX2_fixedPoints_0 : decode cX2_fixedPoints 0 = .ok (.iconst 0, 1) := by decide +kernel
theorem dX2_fixedPoints_1 : decode cX2_fixedPoints 1 = .ok (.istore_n 1, 1) := by decide +kernel
theorem dX2_fixedPoints_2 : decode cX2_fixedPoints 2 = .ok (.iconst 0, 1) := by decide +kernel
theorem dX2_fixedPoints_3 : decode cX2_fixedPoints 3 = .ok (.istore_n 2, 1) := by decide +kernel
theorem dX2_fixedPoints_4 : decode cX2_fixedPoints 4 = .ok (.iload_n 2, 1) := by decide +kernel
theorem dX2_fixedPoints_5 : decode cX2_fixedPoints 5 = .ok (.aload_n 0, 1) := by decide +kernel
theorem dX2_fixedPoints_6 : decode cX2_fixedPoints 6 = .ok (.getfield 89, 3) := by decide +kernel
theorem dX2_fixedPoints_9 : decode cX2_fixedPoints 9 = .ok (.if_icmp .ge 25, 3) := by decide +kernel
theorem dX2_fixedPoints_12 : decode cX2_fixedPoints 12 = .ok (.iload_n 1, 1) := by decide +kernel
theorem dX2_fixedPoints_13 : decode cX2_fixedPoints 13 = .ok (.aload_n 0, 1) := by decide +kernel
theorem dX2_fixedPoints_14 : decode cX2_fixedPoints 14 = .ok (.iload_n 2, 1) := by decide +kernel
theorem dX2_fixedPoints_15 : decode cX2_fixedPoints 15 = .ok (.invokevirtual 95, 3) := by decide +kernel
theorem dX2_fixedPoints_18 : decode cX2_fixedPoints 18 = .ok (.ifCond .eq 7, 3) := by decide +kernel
theorem dX2_fixedPoints_21 : decode cX2_fixedPoints 21 = .ok (.iconst 1, 1) := by decide +kernel
theorem dX2_fixedPoints_22 : decode cX2_fixedPoints 22 = .ok (.goto 4, 3) := by decide +kernel
theorem dX2_fixedPoints_25 : decode cX2_fixedPoints 25 = .ok (.iconst 0, 1) := by decide +kernel
theorem dX2_fixedPoints_26 : decode cX2_fixedPoints 26 = .ok (.iadd, 1) := by decide +kernel
theorem dX2_fixedPoints_27 : decode cX2_fixedPoints 27 = .ok (.istore_n 1, 1) := by decide +kernel
theorem dX2_fixedPoints_28 : decode cX2_fixedPoints 28 = .ok (.iinc 2 1, 3) := by decide +kernel
theorem dX2_fixedPoints_31 : decode cX2_fixedPoints 31 = .ok (.goto (-27), 3) := by decide +kernel
theorem dX2_fixedPoints_34 : decode cX2_fixedPoints 34 = .ok (.iload_n 1, 1) := by decide +kernel
theorem dX2_fixedPoints_35 : decode cX2_fixedPoints 35 = .ok (.ireturn, 1) := by decide +kernel
set_option maxRecDepth 20000 in
theorem b_X2_fixedPoints_0 {k n : Nat} {x : Wx} {Z : Zt} {Q : Option Value → Wx → Zt → Prop} {a0 : Nat} 
    (h : V mX2_fixedPoints k n 4 [some (r_ a0), some (i_ 0), some (i_ 0)] [] x Z Q) :
    V mX2_fixedPoints k n 0 [some (r_ a0), none, none] [] x Z Q :=
  V_iconst dX2_fixedPoints_0 (V_istore_n (lv' := [some (r_ a0), some (i_ 0), none]) dX2_fixedPoints_1 (Nat.le_of_ble_eq_true rfl) rfl (V_iconst dX2_fixedPoints_2 (V_istore_n (lv' := [some (r_ a0), some (i_ 0), some (i_ 0)]) dX2_fixedPoints_3 (Nat.le_of_ble_eq_true rfl) rfl (V_msk [true, true, true] rfl h))))
set_option maxRecDepth 20000 in
theorem b_X2_fixedPoints_4 {k n : Nat} {x : Wx} {Z : Zt} {Q : Option Value → Wx → Zt → Prop} {a0 : Nat} {v1 : Int} {v2 : Int} (o_a0 : Is2 x a0)
    (h : Rg v2 ∧ Rg (Z a0 3) ∧ (((Z a0 3 ≤ v2) → (Q (some (i_ v1)) x Z)) ∧ ((v2 < Z a0 3) → (∃ g1 : List (Int × Int), (PtA Z a0 g1 ∧ PtR g1 ∧ (0 ≤ v2 ∧ v2 < g1.length) ∧ (Rg (bI (fxd g1 v2)) ∧ (((bI (fxd g1 v2) = 0) → (V mX2_fixedPoints k n 26 [some (r_ a0), none, some (i_ v2)] [i_ 0, i_ v1] x Z Q)) ∧ ((bI (fxd g1 v2) ≠ 0) → (V mX2_fixedPoints k n 26 [some (r_ a0), none, some (i_ v2)] [i_ 1, i_ v1] x Z Q))))))))) :
    V mX2_fixedPoints k n 4 [some (r_ a0), some (i_ v1), some (i_ v2)] [] x Z Q :=
  V_iload_n dX2_fixedPoints_4 rfl (V_aload_n dX2_fixedPoints_5 rfl (G_2_3 o_a0.1 lf_2_89 dX2_fixedPoints_6 (V_icmp_ge (tgt := 34) dX2_fixedPoints_9 rfl h.1 h.2.1 (fun c1 => V_iload_n dX2_fixedPoints_34 rfl (V_iret (ty := .int) dX2_fixedPoints_35 rfl rfl (h.2.2.1 c1))) (fun c1 => V_iload_n dX2_fixedPoints_12 rfl (V_aload_n dX2_fixedPoints_13 rfl (V_iload_n dX2_fixedPoints_14 rfl (Exists.elim (h.2.2.2 c1) (fun g1 w1 => V_callV (k' := 0) (n' := 0) (t := 2) (q := (RX2, TX2, 17)) [i_ v2] [i_ v1] okX2_isFixed o_a0.1 rfl rfl lm_2_95 liX2_isFixed lqX2_isFixed (Nat.le_of_ble_eq_true rfl) (Nat.le_of_ble_eq_true rfl) (Nat.le_of_ble_eq_true rfl) (cat_of rfl) (Nat.le_of_ble_eq_true rfl) (Nat.zero_le _) (Nat.zero_le _) rfl dX2_fixedPoints_15 (sp_X2_isFixed o_a0 w1.1 w1.2.1 w1.2.2.1 (V_if_eq (tgt := 25) dX2_fixedPoints_18 rfl w1.2.2.2.1 (fun c2 => V_iconst dX2_fixedPoints_25 (V_msk [true, false, true] rfl (w1.2.2.2.2.1 c2))) (fun c2 => V_iconst dX2_fixedPoints_21 (V_goto (tgt := 26) dX2_fixedPoints_22 rfl (V_msk [true, false, true] rfl (w1.2.2.2.2.2 c2))))))))))))))
set_option maxRecDepth 20000 in
theorem b_X2_fixedPoints_26 {k n : Nat} {x : Wx} {Z : Zt} {Q : Option Value → Wx → Zt → Prop} {a0 : Nat} {v2 : Int} {t0 : Int} {t1 : Int} 
    (h : V mX2_fixedPoints k n 4 [some (r_ a0), some (i_ (t0 + t1)), some (i_ (v2 + 1))] [] x Z Q) :
    V mX2_fixedPoints k n 26 [some (r_ a0), none, some (i_ v2)] [i_ t1, i_ t0] x Z Q :=
  V_iadd dX2_fixedPoints_26 (V_istore_n (lv' := [some (r_ a0), some (i_ (t0 + t1)), some (i_ v2)]) dX2_fixedPoints_27 (Nat.le_of_ble_eq_true rfl) rfl (V_iinc (lv' := [some (r_ a0), some (i_ (t0 + t1)), some (i_ (v2 + 1))]) dX2_fixedPoints_28 rfl (Nat.le_of_ble_eq_true rfl) rfl (V_goto (tgt := 4) dX2_fixedPoints_31 rfl (V_msk [true, true, true] rfl h))))
theorem dX2_pointsOfSquareField_0 : decode cX2_pointsOfSquareField 0 = .ok (.iconst 1, 1) := by decide +kernel
theorem dX2_pointsOfSquareField_1 : decode cX2_pointsOfSquareField 1 = .ok (.istore_n 1, 1) := by decide +kernel
theorem dX2_pointsOfSquareField_2 : decode cX2_pointsOfSquareField 2 = .ok (.iconst 0, 1) := by decide +kernel
theorem dX2_pointsOfSquareField_3 : decode cX2_pointsOfSquareField 3 = .ok (.istore_n 2, 1) := by decide +kernel
theorem dX2_pointsOfSquareField_4 : decode cX2_pointsOfSquareField 4 = .ok (.iload_n 2, 1) := by decide +kernel
theorem dX2_pointsOfSquareField_5 : decode cX2_pointsOfSquareField 5 = .ok (.aload_n 0, 1) := by decide +kernel
theorem dX2_pointsOfSquareField_6 : decode cX2_pointsOfSquareField 6 = .ok (.getfield 12, 3) := by decide +kernel
theorem dX2_pointsOfSquareField_9 : decode cX2_pointsOfSquareField 9 = .ok (.getfield 102, 3) := by decide +kernel
theorem dX2_pointsOfSquareField_12 : decode cX2_pointsOfSquareField 12 = .ok (.if_icmp .ge 37, 3) := by decide +kernel
theorem dX2_pointsOfSquareField_15 : decode cX2_pointsOfSquareField 15 = .ok (.iconst 0, 1) := by decide +kernel
theorem dX2_pointsOfSquareField_16 : decode cX2_pointsOfSquareField 16 = .ok (.istore_n 3, 1) := by decide +kernel
theorem dX2_pointsOfSquareField_17 : decode cX2_pointsOfSquareField 17 = .ok (.iload_n 3, 1) := by decide +kernel
theorem dX2_pointsOfSquareField_18 : decode cX2_pointsOfSquareField 18 = .ok (.aload_n 0, 1) := by decide +kernel
theorem dX2_pointsOfSquareField_19 : decode cX2_pointsOfSquareField 19 = .ok (.getfield 12, 3) := by decide +kernel
theorem dX2_pointsOfSquareField_22 : decode cX2_pointsOfSquareField 22 = .ok (.getfield 102, 3) := by decide +kernel
theorem dX2_pointsOfSquareField_25 : decode cX2_pointsOfSquareField 25 = .ok (.if_icmp .ge 18, 3) := by decide +kernel
theorem dX2_pointsOfSquareField_28 : decode cX2_pointsOfSquareField 28 = .ok (.iload_n 1, 1) := by decide +kernel
theorem dX2_pointsOfSquareField_29 : decode cX2_pointsOfSquareField 29 = .ok (.aload_n 0, 1) := by decide +kernel
theorem dX2_pointsOfSquareField_30 : decode cX2_pointsOfSquareField 30 = .ok (.iload_n 2, 1) := by decide +kernel
theorem dX2_pointsOfSquareField_31 : decode cX2_pointsOfSquareField 31 = .ok (.iload_n 3, 1) := by decide +kernel
theorem dX2_pointsOfSquareField_32 : decode cX2_pointsOfSquareField 32 = .ok (.invokevirtual 118, 3) := by decide +kernel
theorem dX2_pointsOfSquareField_35 : decode cX2_pointsOfSquareField 35 = .ok (.iadd, 1) := by decide +kernel
theorem dX2_pointsOfSquareField_36 : decode cX2_pointsOfSquareField 36 = .ok (.istore_n 1, 1) := by decide +kernel
theorem dX2_pointsOfSquareField_37 : decode cX2_pointsOfSquareField 37 = .ok (.iinc 3 1, 3) := by decide +kernel
theorem dX2_pointsOfSquareField_40 : decode cX2_pointsOfSquareField 40 = .ok (.goto (-23), 3) := by decide +kernel
theorem dX2_pointsOfSquareField_43 : decode cX2_pointsOfSquareField 43 = .ok (.iinc 2 1, 3) := by decide +kernel
theorem dX2_pointsOfSquareField_46 : decode cX2_pointsOfSquareField 46 = .ok (.goto (-42), 3) := by decide +kernel
theorem dX2_pointsOfSquareField_49 : decode cX2_pointsOfSquareField 49 = .ok (.iload_n 1, 1) := by decide +kernel
theorem dX2_pointsOfSquareField_50 : decode cX2_pointsOfSquareField 50 = .ok (.ireturn, 1) := by decide +kernel
set_option maxRecDepth 20000 in
theorem b_X2_pointsOfSquareField_0 {k n : Nat} {x : Wx} {Z : Zt} {Q : Option Value → Wx → Zt → Prop} {a0 : Nat} 
    (h : V mX2_pointsOfSquareField k n 4 [some (r_ a0), some (i_ 1), some (i_ 0), none] [] x Z Q) :
    V mX2_pointsOfSquareField k n 0 [some (r_ a0), none, none, none] [] x Z Q :=
  V_iconst dX2_pointsOfSquareField_0 (V_istore_n (lv' := [some (r_ a0), some (i_ 1), none, none]) dX2_pointsOfSquareField_1 (Nat.le_of_ble_eq_true rfl) rfl (V_iconst dX2_pointsOfSquareField_2 (V_istore_n (lv' := [some (r_ a0), some (i_ 1), some (i_ 0), none]) dX2_pointsOfSquareField_3 (Nat.le_of_ble_eq_true rfl) rfl (V_msk [true, true, true, false] rfl h))))
set_option maxRecDepth 20000 in
theorem b_X2_pointsOfSquareField_4 {k n : Nat} {x : Wx} {Z : Zt} {Q : Option Value → Wx → Zt → Prop} {a0 : Nat} {v1 : Int} {v2 : Int} (o_a0 : Is2 x a0)
    (h : Rg v2 ∧ Rg (Z (a0 + 1) 0) ∧ (((Z (a0 + 1) 0 ≤ v2) → (Q (some (i_ v1)) x Z)) ∧ ((v2 < Z (a0 + 1) 0) → (V mX2_pointsOfSquareField k n 17 [some (r_ a0), some (i_ v1), some (i_ v2), some (i_ 0)] [] x Z Q)))) :
    V mX2_pointsOfSquareField k n 4 [some (r_ a0), some (i_ v1), some (i_ v2), none] [] x Z Q :=
  V_iload_n dX2_pointsOfSquareField_4 rfl (V_aload_n dX2_pointsOfSquareField_5 rfl (G_2_0 o_a0.1 o_a0.2.1 lf_2_12 dX2_pointsOfSquareField_6 (G_4_0 o_a0.2.2.1.1 lf_2_102 dX2_pointsOfSquareField_9 (V_icmp_ge (tgt := 49) dX2_pointsOfSquareField_12 rfl h.1 h.2.1 (fun c1 => V_iload_n dX2_pointsOfSquareField_49 rfl (V_iret (ty := .int) dX2_pointsOfSquareField_50 rfl rfl (h.2.2.1 c1))) (fun c1 => V_iconst dX2_pointsOfSquareField_15 (V_istore_n (lv' := [some (r_ a0), some (i_ v1), some (i_ v2), some (i_ 0)]) dX2_pointsOfSquareField_16 (Nat.le_of_ble_eq_true rfl) rfl (V_msk [true, true, true, true] rfl (h.2.2.2 c1))))))))
set_option maxRecDepth 20000 in
theorem b_X2_pointsOfSquareField_17 {k n : Nat} {x : Wx} {Z : Zt} {Q : Option Value → Wx → Zt → Prop} {a0 : Nat} {v1 : Int} {v2 : Int} {v3 : Int} (o_a0 : Is2 x a0)
    (h : Rg v3 ∧ Rg (Z (a0 + 1) 0) ∧ (((Z (a0 + 1) 0 ≤ v3) → (V mX2_pointsOfSquareField k n 4 [some (r_ a0), some (i_ v1), some (i_ (v2 + 1)), none] [] x Z Q)) ∧ ((v3 < Z (a0 + 1) 0) → (∃ g1 : Int, (∃ g2 : Nat → Int, (IsP g1 ∧ FA Z (a0 + 1) g1 ∧ PA Z (a0 + 4) g1 g2 ∧ (0 ≤ v2 ∧ v2 < g1) ∧ (0 ≤ v3 ∧ v3 < g1) ∧ (V mX2_pointsOfSquareField k n 17 [some (r_ a0), some (i_ (v1 + (pov g1 g2 v2 v3))), some (i_ v2), some (i_ (v3 + 1))] [] x Z Q))))))) :
    V mX2_pointsOfSquareField k n 17 [some (r_ a0), some (i_ v1), some (i_ v2), some (i_ v3)] [] x Z Q :=
  V_iload_n dX2_pointsOfSquareField_17 rfl (V_aload_n dX2_pointsOfSquareField_18 rfl (G_2_0 o_a0.1 o_a0.2.1 lf_2_12 dX2_pointsOfSquareField_19 (G_4_0 o_a0.2.2.1.1 lf_2_102 dX2_pointsOfSquareField_22 (V_icmp_ge (tgt := 43) dX2_pointsOfSquareField_25 rfl h.1 h.2.1 (fun c1 => V_iinc (lv' := [some (r_ a0), some (i_ v1), some (i_ (v2 + 1)), some (i_ v3)]) dX2_pointsOfSquareField_43 rfl (Nat.le_of_ble_eq_true rfl) rfl (V_goto (tgt := 4) dX2_pointsOfSquareField_46 rfl (V_msk [true, true, true, false] rfl (h.2.2.1 c1)))) (fun c1 => V_iload_n dX2_pointsOfSquareField_28 rfl (V_aload_n dX2_pointsOfSquareField_29 rfl (V_iload_n dX2_pointsOfSquareField_30 rfl (V_iload_n dX2_pointsOfSquareField_31 rfl (Exists.elim (h.2.2.2 c1) (fun g1 w1 => Exists.elim w1 (fun g2 w2 => V_callV (k' := 0) (n' := 0) (t := 2) (q := (RX2, TX2, 17)) [i_ v2, i_ v3] [i_ v1] okX2_pointsOver o_a0.1 rfl rfl lm_2_118 liX2_pointsOver lqX2_pointsOver (Nat.le_of_ble_eq_true rfl) (Nat.le_of_ble_eq_true rfl) (Nat.le_of_ble_eq_true rfl) (cat_of rfl) (Nat.le_of_ble_eq_true rfl) (Nat.zero_le _) (Nat.zero_le _) rfl dX2_pointsOfSquareField_32 (sp_X2_pointsOver o_a0 w2.1 w2.2.1 w2.2.2.1 w2.2.2.2.1 w2.2.2.2.2.1 (V_iadd dX2_pointsOfSquareField_35 (V_istore_n (lv' := [some (r_ a0), some (i_ (v1 + (pov g1 g2 v2 v3))), some (i_ v2), some (i_ v3)]) dX2_pointsOfSquareField_36 (Nat.le_of_ble_eq_true rfl) rfl (V_iinc (lv' := [some (r_ a0), some (i_ (v1 + (pov g1 g2 v2 v3))), some (i_ v2), some (i_ (v3 + 1))]) dX2_pointsOfSquareField_37 rfl (Nat.le_of_ble_eq_true rfl) rfl (V_goto (tgt := 17) dX2_pointsOfSquareField_40 rfl (V_msk [true, true, true, true] rfl w2.2.2.2.2.2)))))))))))))))))
theorem dX2_findCounts_0 : decode cX2_findCounts 0 = .ok (.lconst 1, 1) := by decide +kernel
theorem dX2_findCounts_1 : decode cX2_findCounts 1 = .ok (.lstore_n 1, 1) := by decide +kernel
theorem dX2_findCounts_2 : decode cX2_findCounts 2 = .ok (.iconst 1, 1) := by decide +kernel
theorem dX2_findCounts_3 : decode cX2_findCounts 3 = .ok (.istore_n 3, 1) := by decide +kernel
theorem dX2_findCounts_4 : decode cX2_findCounts 4 = .ok (.iload_n 3, 1) := by decide +kernel
theorem dX2_findCounts_5 : decode cX2_findCounts 5 = .ok (.bipush 12, 2) := by decide +kernel
theorem dX2_findCounts_7 : decode cX2_findCounts 7 = .ok (.if_icmp .gt 116, 3) := by decide +kernel
theorem dX2_findCounts_10 : decode cX2_findCounts 10 = .ok (.iload_n 3, 1) := by decide +kernel
theorem dX2_findCounts_11 : decode cX2_findCounts 11 = .ok (.iconst 2, 1) := by decide +kernel
theorem dX2_findCounts_12 : decode cX2_findCounts 12 = .ok (.aload_n 0, 1) := by decide +kernel
theorem dX2_findCounts_13 : decode cX2_findCounts 13 = .ok (.getfield 69, 3) := by decide +kernel
theorem dX2_findCounts_16 : decode cX2_findCounts 16 = .ok (.imul, 1) := by decide +kernel
theorem dX2_findCounts_17 : decode cX2_findCounts 17 = .ok (.if_icmp .gt 16, 3) := by decide +kernel
theorem dX2_findCounts_20 : decode cX2_findCounts 20 = .ok (.iload_n 3, 1) := by decide +kernel
theorem dX2_findCounts_21 : decode cX2_findCounts 21 = .ok (.i2l, 1) := by decide +kernel
theorem dX2_findCounts_22 : decode cX2_findCounts 22 = .ok (.aload_n 0, 1) := by decide +kernel
theorem dX2_findCounts_23 : decode cX2_findCounts 23 = .ok (.getfield 32, 3) := by decide +kernel
theorem dX2_findCounts_26 : decode cX2_findCounts 26 = .ok (.iload_n 3, 1) := by decide +kernel
theorem dX2_findCounts_27 : decode cX2_findCounts 27 = .ok (.iaload, 1) := by decide +kernel
theorem dX2_findCounts_28 : decode cX2_findCounts 28 = .ok (.i2l, 1) := by decide +kernel
theorem dX2_findCounts_29 : decode cX2_findCounts 29 = .ok (.lmul, 1) := by decide +kernel
theorem dX2_findCounts_30 : decode cX2_findCounts 30 = .ok (.goto 4, 3) := by decide +kernel
theorem dX2_findCounts_33 : decode cX2_findCounts 33 = .ok (.lconst 0, 1) := by decide +kernel
theorem dX2_findCounts_34 : decode cX2_findCounts 34 = .ok (.lstore 4, 2) := by decide +kernel
theorem dX2_findCounts_36 : decode cX2_findCounts 36 = .ok (.iconst 1, 1) := by decide +kernel
theorem dX2_findCounts_37 : decode cX2_findCounts 37 = .ok (.istore 6, 2) := by decide +kernel
theorem dX2_findCounts_39 : decode cX2_findCounts 39 = .ok (.iload 6, 2) := by decide +kernel
theorem dX2_findCounts_41 : decode cX2_findCounts 41 = .ok (.iload_n 3, 1) := by decide +kernel
theorem dX2_findCounts_42 : decode cX2_findCounts 42 = .ok (.if_icmp .ge 43, 3) := by decide +kernel
theorem dX2_findCounts_45 : decode cX2_findCounts 45 = .ok (.iload 6, 2) := by decide +kernel
theorem dX2_findCounts_47 : decode cX2_findCounts 47 = .ok (.iconst 2, 1) := by decide +kernel
theorem dX2_findCounts_48 : decode cX2_findCounts 48 = .ok (.aload_n 0, 1) := by decide +kernel
theorem dX2_findCounts_49 : decode cX2_findCounts 49 = .ok (.getfield 69, 3) := by decide +kernel
theorem dX2_findCounts_52 : decode cX2_findCounts 52 = .ok (.imul, 1) := by decide +kernel
theorem dX2_findCounts_53 : decode cX2_findCounts 53 = .ok (.if_icmp .gt 32, 3) := by decide +kernel
theorem dX2_findCounts_56 : decode cX2_findCounts 56 = .ok (.lload 4, 2) := by decide +kernel
theorem dX2_findCounts_58 : decode cX2_findCounts 58 = .ok (.aload_n 0, 1) := by decide +kernel
theorem dX2_findCounts_59 : decode cX2_findCounts 59 = .ok (.getfield 32, 3) := by decide +kernel
theorem dX2_findCounts_62 : decode cX2_findCounts 62 = .ok (.iload 6, 2) := by decide +kernel
theorem dX2_findCounts_64 : decode cX2_findCounts 64 = .ok (.iaload, 1) := by decide +kernel
theorem dX2_findCounts_65 : decode cX2_findCounts 65 = .ok (.i2l, 1) := by decide +kernel
theorem dX2_findCounts_66 : decode cX2_findCounts 66 = .ok (.aload_n 0, 1) := by decide +kernel
theorem dX2_findCounts_67 : decode cX2_findCounts 67 = .ok (.getfield 42, 3) := by decide +kernel
theorem dX2_findCounts_70 : decode cX2_findCounts 70 = .ok (.iload_n 3, 1) := by decide +kernel
theorem dX2_findCounts_71 : decode cX2_findCounts 71 = .ok (.iload 6, 2) := by decide +kernel
theorem dX2_findCounts_73 : decode cX2_findCounts 73 = .ok (.isub, 1) := by decide +kernel
theorem dX2_findCounts_74 : decode cX2_findCounts 74 = .ok (.laload, 1) := by decide +kernel
theorem dX2_findCounts_75 : decode cX2_findCounts 75 = .ok (.lmul, 1) := by decide +kernel
theorem dX2_findCounts_76 : decode cX2_findCounts 76 = .ok (.ladd, 1) := by decide +kernel
theorem dX2_findCounts_77 : decode cX2_findCounts 77 = .ok (.lstore 4, 2) := by decide +kernel
theorem dX2_findCounts_79 : decode cX2_findCounts 79 = .ok (.iinc 6 1, 3) := by decide +kernel
theorem dX2_findCounts_82 : decode cX2_findCounts 82 = .ok (.goto (-43), 3) := by decide +kernel
theorem dX2_findCounts_85 : decode cX2_findCounts 85 = .ok (.aload_n 0, 1) := by decide +kernel
theorem dX2_findCounts_86 : decode cX2_findCounts 86 = .ok (.getfield 42, 3) := by decide +kernel
theorem dX2_findCounts_89 : decode cX2_findCounts 89 = .ok (.iload_n 3, 1) := by decide +kernel
theorem dX2_findCounts_90 : decode cX2_findCounts 90 = .ok (.lload 4, 2) := by decide +kernel
theorem dX2_findCounts_92 : decode cX2_findCounts 92 = .ok (.lneg, 1) := by decide +kernel
theorem dX2_findCounts_93 : decode cX2_findCounts 93 = .ok (.lastore, 1) := by decide +kernel
theorem dX2_findCounts_94 : decode cX2_findCounts 94 = .ok (.lload_n 1, 1) := by decide +kernel
theorem dX2_findCounts_95 : decode cX2_findCounts 95 = .ok (.aload_n 0, 1) := by decide +kernel
theorem dX2_findCounts_96 : decode cX2_findCounts 96 = .ok (.getfield 12, 3) := by decide +kernel
theorem dX2_findCounts_99 : decode cX2_findCounts 99 = .ok (.getfield 102, 3) := by decide +kernel
theorem dX2_findCounts_102 : decode cX2_findCounts 102 = .ok (.i2l, 1) := by decide +kernel
theorem dX2_findCounts_103 : decode cX2_findCounts 103 = .ok (.lmul, 1) := by decide +kernel
theorem dX2_findCounts_104 : decode cX2_findCounts 104 = .ok (.lstore_n 1, 1) := by decide +kernel
theorem dX2_findCounts_105 : decode cX2_findCounts 105 = .ok (.aload_n 0, 1) := by decide +kernel
theorem dX2_findCounts_106 : decode cX2_findCounts 106 = .ok (.getfield 35, 3) := by decide +kernel
theorem dX2_findCounts_109 : decode cX2_findCounts 109 = .ok (.iload_n 3, 1) := by decide +kernel
theorem dX2_findCounts_110 : decode cX2_findCounts 110 = .ok (.lload_n 1, 1) := by decide +kernel
theorem dX2_findCounts_111 : decode cX2_findCounts 111 = .ok (.lconst 1, 1) := by decide +kernel
theorem dX2_findCounts_112 : decode cX2_findCounts 112 = .ok (.ladd, 1) := by decide +kernel
theorem dX2_findCounts_113 : decode cX2_findCounts 113 = .ok (.lload 4, 2) := by decide +kernel
theorem dX2_findCounts_115 : decode cX2_findCounts 115 = .ok (.ladd, 1) := by decide +kernel
theorem dX2_findCounts_116 : decode cX2_findCounts 116 = .ok (.lastore, 1) := by decide +kernel
theorem dX2_findCounts_117 : decode cX2_findCounts 117 = .ok (.iinc 3 1, 3) := by decide +kernel
theorem dX2_findCounts_120 : decode cX2_findCounts 120 = .ok (.goto (-116), 3) := by decide +kernel
theorem dX2_findCounts_123 : decode cX2_findCounts 123 = .ok (.return_, 1) := by decide +kernel
set_option maxRecDepth 20000 in
theorem b_X2_findCounts_0 {k n : Nat} {x : Wx} {Z : Zt} {Q : Option Value → Wx → Zt → Prop} {a0 : Nat} 
    (h : V mX2_findCounts k n 4 [some (r_ a0), some (l_ 1), none, some (i_ 1), none, none, none] [] x Z Q) :
    V mX2_findCounts k n 0 [some (r_ a0), none, none, none, none, none, none] [] x Z Q :=
  V_lconst (z := 1) dX2_findCounts_0 rfl (V_lstore_n (lv' := [some (r_ a0), some (l_ 1), none, none, none, none, none]) dX2_findCounts_1 (Nat.le_of_ble_eq_true rfl) rfl (V_iconst dX2_findCounts_2 (V_istore_n (lv' := [some (r_ a0), some (l_ 1), none, some (i_ 1), none, none, none]) dX2_findCounts_3 (Nat.le_of_ble_eq_true rfl) rfl (V_msk [true, true, false, true, false, false, false] rfl h))))
set_option maxRecDepth 20000 in
theorem b_X2_findCounts_4 {k n : Nat} {x : Wx} {Z : Zt} {Q : Option Value → Wx → Zt → Prop} {a0 : Nat} {v1 : Int} {v3 : Int} (o_a0 : Is2 x a0)
    (h : Rg v3 ∧ (((12 < v3) → (Q none x Z)) ∧ ((v3 ≤ 12) → (Rg (2 * (Z a0 2)) ∧ (((2 * (Z a0 2) < v3) → (V mX2_findCounts k n 34 [some (r_ a0), some (l_ v1), none, some (i_ v3), none, none, none] [l_ 0] x Z Q)) ∧ ((v3 ≤ 2 * (Z a0 2)) → (0 ≤ v3 ∧ v3 < 5 ∧ (Rg (Z (a0 + 8) v3.toNat) ∧ (V mX2_findCounts k n 34 [some (r_ a0), some (l_ v1), none, some (i_ v3), none, none, none] [l_ (v3 * (Z (a0 + 8) v3.toNat))] x Z Q))))))))) :
    V mX2_findCounts k n 4 [some (r_ a0), some (l_ v1), none, some (i_ v3), none, none, none] [] x Z Q :=
  V_iload_n dX2_findCounts_4 rfl (V_bipush dX2_findCounts_5 rfl (V_icmp_gt (tgt := 123) dX2_findCounts_7 rfl h.1 (rg_c rfl) (fun c1 => V_ret dX2_findCounts_123 rfl (h.2.1 c1)) (fun c1 => V_iload_n dX2_findCounts_10 rfl (V_iconst dX2_findCounts_11 (V_aload_n dX2_findCounts_12 rfl (G_2_2 o_a0.1 lf_2_69 dX2_findCounts_13 (V_imul dX2_findCounts_16 (V_icmp_gt (tgt := 33) dX2_findCounts_17 rfl h.1 (h.2.2 c1).1 (fun c2 => V_lconst (z := 0) dX2_findCounts_33 rfl (V_msk [true, true, false, true, false, false, false] rfl ((h.2.2 c1).2.1 c2))) (fun c2 => V_iload_n dX2_findCounts_20 rfl (V_i2l dX2_findCounts_21 h.1 (V_aload_n dX2_findCounts_22 rfl (G_2_6 o_a0.1 o_a0.2.2.2.2.2.2.2.2.2.1 lf_2_32 dX2_findCounts_23 (V_iload_n dX2_findCounts_26 rfl (V_iald (t := 100) o_a0.2.2.2.2.2.2.2.2.2.2.1 (by decide) rfl ((h.2.2 c1).2.2 c2).1 ((h.2.2 c1).2.2 c2).2.1 (Nat.le_of_ble_eq_true rfl) dX2_findCounts_27 (V_i2l dX2_findCounts_28 ((h.2.2 c1).2.2 c2).2.2.1 (V_lmul dX2_findCounts_29 (V_goto (tgt := 34) dX2_findCounts_30 rfl (V_msk [true, true, false, true, false, false, false] rfl ((h.2.2 c1).2.2 c2).2.2.2))))))))))))))))))
set_option maxRecDepth 20000 in
theorem b_X2_findCounts_34 {k n : Nat} {x : Wx} {Z : Zt} {Q : Option Value → Wx → Zt → Prop} {a0 : Nat} {v1 : Int} {v3 : Int} {t0 : Int} 
    (h : V mX2_findCounts k n 39 [some (r_ a0), some (l_ v1), none, some (i_ v3), some (l_ t0), none, some (i_ 1)] [] x Z Q) :
    V mX2_findCounts k n 34 [some (r_ a0), some (l_ v1), none, some (i_ v3), none, none, none] [l_ t0] x Z Q :=
  V_lstore (lv' := [some (r_ a0), some (l_ v1), none, some (i_ v3), some (l_ t0), none, none]) dX2_findCounts_34 (Nat.le_of_ble_eq_true rfl) rfl (V_iconst dX2_findCounts_36 (V_istore (lv' := [some (r_ a0), some (l_ v1), none, some (i_ v3), some (l_ t0), none, some (i_ 1)]) dX2_findCounts_37 (Nat.le_of_ble_eq_true rfl) rfl (V_msk [true, true, false, true, true, false, true] rfl h)))
set_option maxRecDepth 20000 in
theorem b_X2_findCounts_39 {k n : Nat} {x : Wx} {Z : Zt} {Q : Option Value → Wx → Zt → Prop} {a0 : Nat} {v1 : Int} {v3 : Int} {v4 : Int} {v6 : Int} (o_a0 : Is2 x a0)
    (h : Rg v6 ∧ Rg v3 ∧ (((v3 ≤ v6) → (V mX2_findCounts k n 85 [some (r_ a0), some (l_ v1), none, some (i_ v3), some (l_ v4), none, none] [] x Z Q)) ∧ ((v6 < v3) → (Rg (2 * (Z a0 2)) ∧ (((2 * (Z a0 2) < v6) → (V mX2_findCounts k n 85 [some (r_ a0), some (l_ v1), none, some (i_ v3), some (l_ v4), none, none] [] x Z Q)) ∧ ((v6 ≤ 2 * (Z a0 2)) → (0 ≤ v6 ∧ v6 < 5 ∧ (Rg (Z (a0 + 8) v6.toNat) ∧ (0 ≤ v3 - v6 ∧ v3 - v6 < 13 ∧ (V mX2_findCounts k n 39 [some (r_ a0), some (l_ v1), none, some (i_ v3), some (l_ (v4 + ((Z (a0 + 8) v6.toNat) * (Z (a0 + 11) (v3 - v6).toNat)))), none, some (i_ (v6 + 1))] [] x Z Q)))))))))) :
    V mX2_findCounts k n 39 [some (r_ a0), some (l_ v1), none, some (i_ v3), some (l_ v4), none, some (i_ v6)] [] x Z Q :=
  V_iload dX2_findCounts_39 rfl (V_iload_n dX2_findCounts_41 rfl (V_icmp_ge (tgt := 85) dX2_findCounts_42 rfl h.1 h.2.1 (fun c1 => V_msk [true, true, false, true, true, false, false] rfl (h.2.2.1 c1)) (fun c1 => V_iload dX2_findCounts_45 rfl (V_iconst dX2_findCounts_47 (V_aload_n dX2_findCounts_48 rfl (G_2_2 o_a0.1 lf_2_69 dX2_findCounts_49 (V_imul dX2_findCounts_52 (V_icmp_gt (tgt := 85) dX2_findCounts_53 rfl h.1 (h.2.2.2 c1).1 (fun c2 => V_msk [true, true, false, true, true, false, false] rfl ((h.2.2.2 c1).2.1 c2)) (fun c2 => V_lload dX2_findCounts_56 rfl (V_aload_n dX2_findCounts_58 rfl (G_2_6 o_a0.1 o_a0.2.2.2.2.2.2.2.2.2.1 lf_2_32 dX2_findCounts_59 (V_iload dX2_findCounts_62 rfl (V_iald (t := 100) o_a0.2.2.2.2.2.2.2.2.2.2.1 (by decide) rfl ((h.2.2.2 c1).2.2 c2).1 ((h.2.2.2 c1).2.2 c2).2.1 (Nat.le_of_ble_eq_true rfl) dX2_findCounts_64 (V_i2l dX2_findCounts_65 ((h.2.2.2 c1).2.2 c2).2.2.1 (V_aload_n dX2_findCounts_66 rfl (G_2_9 o_a0.1 o_a0.2.2.2.2.2.2.2.2.2.2.2.2.2.2.2.1 lf_2_42 dX2_findCounts_67 (V_iload_n dX2_findCounts_70 rfl (V_iload dX2_findCounts_71 rfl (V_isub dX2_findCounts_73 (V_lald (t := 103) o_a0.2.2.2.2.2.2.2.2.2.2.2.2.2.2.2.2.1 (by decide) rfl ((h.2.2.2 c1).2.2 c2).2.2.2.1 ((h.2.2.2 c1).2.2 c2).2.2.2.2.1 (Nat.le_of_ble_eq_true rfl) dX2_findCounts_74 (V_lmul dX2_findCounts_75 (V_ladd dX2_findCounts_76 (V_lstore (lv' := [some (r_ a0), some (l_ v1), none, some (i_ v3), some (l_ (v4 + ((Z (a0 + 8) v6.toNat) * (Z (a0 + 11) (v3 - v6).toNat)))), none, some (i_ v6)]) dX2_findCounts_77 (Nat.le_of_ble_eq_true rfl) rfl (V_iinc (lv' := [some (r_ a0), some (l_ v1), none, some (i_ v3), some (l_ (v4 + ((Z (a0 + 8) v6.toNat) * (Z (a0 + 11) (v3 - v6).toNat)))), none, some (i_ (v6 + 1))]) dX2_findCounts_79 rfl (Nat.le_of_ble_eq_true rfl) rfl (V_goto (tgt := 39) dX2_findCounts_82 rfl (V_msk [true, true, false, true, true, false, true] rfl ((h.2.2.2 c1).2.2 c2).2.2.2.2.2))))))))))))))))))))))))))
set_option maxRecDepth 20000 in
theorem b_X2_findCounts_85 {k n : Nat} {x : Wx} {Z : Zt} {Q : Option Value → Wx → Zt → Prop} {a0 : Nat} {v1 : Int} {v3 : Int} {v4 : Int} (o_a0 : Is2 x a0)
    (h : 0 ≤ v3 ∧ v3 < 13 ∧ (∀ Z1 : Zt, Z1 = up Z (a0 + 11) v3.toNat (-v4) → (Rg (Z1 (a0 + 1) 0) ∧ (∀ Z2 : Zt, Z2 = up Z1 (a0 + 9) v3.toNat (((v1 * (Z1 (a0 + 1) 0)) + 1) + v4) → (V mX2_findCounts k n 4 [some (r_ a0), some (l_ (v1 * (Z1 (a0 + 1) 0))), none, some (i_ (v3 + 1)), none, none, none] [] x Z2 Q))))) :
    V mX2_findCounts k n 85 [some (r_ a0), some (l_ v1), none, some (i_ v3), some (l_ v4), none, none] [] x Z Q :=
  V_aload_n dX2_findCounts_85 rfl (G_2_9 o_a0.1 o_a0.2.2.2.2.2.2.2.2.2.2.2.2.2.2.2.1 lf_2_42 dX2_findCounts_86 (V_iload_n dX2_findCounts_89 rfl (V_lload dX2_findCounts_90 rfl (V_lneg dX2_findCounts_92 (V_last (t := 103) o_a0.2.2.2.2.2.2.2.2.2.2.2.2.2.2.2.2.1 (by decide) (by decide) rfl h.1 h.2.1 (Nat.le_of_ble_eq_true rfl) dX2_findCounts_93 (V_nmZ (fun Z1 eZ1 => V_lload_n dX2_findCounts_94 rfl (V_aload_n dX2_findCounts_95 rfl (G_2_0 o_a0.1 o_a0.2.1 lf_2_12 dX2_findCounts_96 (G_4_0 o_a0.2.2.1.1 lf_2_102 dX2_findCounts_99 (V_i2l dX2_findCounts_102 (h.2.2 Z1 eZ1).1 (V_lmul dX2_findCounts_103 (V_lstore_n (lv' := [some (r_ a0), some (l_ (v1 * (Z1 (a0 + 1) 0))), none, some (i_ v3), some (l_ v4), none, none]) dX2_findCounts_104 (Nat.le_of_ble_eq_true rfl) rfl (V_aload_n dX2_findCounts_105 rfl (G_2_7 o_a0.1 o_a0.2.2.2.2.2.2.2.2.2.2.2.1 lf_2_35 dX2_findCounts_106 (V_iload_n dX2_findCounts_109 rfl (V_lload_n dX2_findCounts_110 rfl (V_lconst (z := 1) dX2_findCounts_111 rfl (V_ladd dX2_findCounts_112 (V_lload dX2_findCounts_113 rfl (V_ladd dX2_findCounts_115 (V_last (t := 103) o_a0.2.2.2.2.2.2.2.2.2.2.2.2.1 (by decide) (by decide) rfl h.1 h.2.1 (Nat.le_of_ble_eq_true rfl) dX2_findCounts_116 (V_nmZ (fun Z2 eZ2 => V_iinc (lv' := [some (r_ a0), some (l_ (v1 * (Z1 (a0 + 1) 0))), none, some (i_ (v3 + 1)), some (l_ v4), none, none]) dX2_findCounts_117 rfl (Nat.le_of_ble_eq_true rfl) rfl (V_goto (tgt := 4) dX2_findCounts_120 rfl (V_msk [true, true, false, true, false, false, false] rfl ((h.2.2 Z1 eZ1).2 Z2 eZ2)))))))))))))))))))))))))))
theorem dX2_findPlaces_0 : decode cX2_findPlaces 0 = .ok (.iconst 1, 1) := by decide +kernel
theorem dX2_findPlaces_1 : decode cX2_findPlaces 1 = .ok (.istore_n 1, 1) := by decide +kernel
theorem dX2_findPlaces_2 : decode cX2_findPlaces 2 = .ok (.iload_n 1, 1) := by decide +kernel
theorem dX2_findPlaces_3 : decode cX2_findPlaces 3 = .ok (.bipush 12, 2) := by decide +kernel
theorem dX2_findPlaces_5 : decode cX2_findPlaces 5 = .ok (.if_icmp .gt 62, 3) := by decide +kernel
theorem dX2_findPlaces_8 : decode cX2_findPlaces 8 = .ok (.aload_n 0, 1) := by decide +kernel
theorem dX2_findPlaces_9 : decode cX2_findPlaces 9 = .ok (.getfield 35, 3) := by decide +kernel
theorem dX2_findPlaces_12 : decode cX2_findPlaces 12 = .ok (.iload_n 1, 1) := by decide +kernel
theorem dX2_findPlaces_13 : decode cX2_findPlaces 13 = .ok (.laload, 1) := by decide +kernel
theorem dX2_findPlaces_14 : decode cX2_findPlaces 14 = .ok (.lstore_n 2, 1) := by decide +kernel
theorem dX2_findPlaces_15 : decode cX2_findPlaces 15 = .ok (.iconst 1, 1) := by decide +kernel
theorem dX2_findPlaces_16 : decode cX2_findPlaces 16 = .ok (.istore 4, 2) := by decide +kernel
theorem dX2_findPlaces_18 : decode cX2_findPlaces 18 = .ok (.iload 4, 2) := by decide +kernel
theorem dX2_findPlaces_20 : decode cX2_findPlaces 20 = .ok (.iload_n 1, 1) := by decide +kernel
theorem dX2_findPlaces_21 : decode cX2_findPlaces 21 = .ok (.if_icmp .ge 30, 3) := by decide +kernel
theorem dX2_findPlaces_24 : decode cX2_findPlaces 24 = .ok (.iload_n 1, 1) := by decide +kernel
theorem dX2_findPlaces_25 : decode cX2_findPlaces 25 = .ok (.iload 4, 2) := by decide +kernel
theorem dX2_findPlaces_27 : decode cX2_findPlaces 27 = .ok (.irem, 1) := by decide +kernel
theorem dX2_findPlaces_28 : decode cX2_findPlaces 28 = .ok (.ifCond .ne 17, 3) := by decide +kernel
theorem dX2_findPlaces_31 : decode cX2_findPlaces 31 = .ok (.lload_n 2, 1) := by decide +kernel
theorem dX2_findPlaces_32 : decode cX2_findPlaces 32 = .ok (.iload 4, 2) := by decide +kernel
theorem dX2_findPlaces_34 : decode cX2_findPlaces 34 = .ok (.i2l, 1) := by decide +kernel
theorem dX2_findPlaces_35 : decode cX2_findPlaces 35 = .ok (.aload_n 0, 1) := by decide +kernel
theorem dX2_findPlaces_36 : decode cX2_findPlaces 36 = .ok (.getfield 39, 3) := by decide +kernel
theorem dX2_findPlaces_39 : decode cX2_findPlaces 39 = .ok (.iload 4, 2) := by decide +kernel
theorem dX2_findPlaces_41 : decode cX2_findPlaces 41 = .ok (.laload, 1) := by decide +kernel
theorem dX2_findPlaces_42 : decode cX2_findPlaces 42 = .ok (.lmul, 1) := by decide +kernel
theorem dX2_findPlaces_43 : decode cX2_findPlaces 43 = .ok (.lsub, 1) := by decide +kernel
theorem dX2_findPlaces_44 : decode cX2_findPlaces 44 = .ok (.lstore_n 2, 1) := by decide +kernel
theorem dX2_findPlaces_45 : decode cX2_findPlaces 45 = .ok (.iinc 4 1, 3) := by decide +kernel
theorem dX2_findPlaces_48 : decode cX2_findPlaces 48 = .ok (.goto (-30), 3) := by decide +kernel
theorem dX2_findPlaces_51 : decode cX2_findPlaces 51 = .ok (.aload_n 0, 1) := by decide +kernel
theorem dX2_findPlaces_52 : decode cX2_findPlaces 52 = .ok (.getfield 39, 3) := by decide +kernel
theorem dX2_findPlaces_55 : decode cX2_findPlaces 55 = .ok (.iload_n 1, 1) := by decide +kernel
theorem dX2_findPlaces_56 : decode cX2_findPlaces 56 = .ok (.lload_n 2, 1) := by decide +kernel
theorem dX2_findPlaces_57 : decode cX2_findPlaces 57 = .ok (.iload_n 1, 1) := by decide +kernel
theorem dX2_findPlaces_58 : decode cX2_findPlaces 58 = .ok (.i2l, 1) := by decide +kernel
theorem dX2_findPlaces_59 : decode cX2_findPlaces 59 = .ok (.ldiv, 1) := by decide +kernel
theorem dX2_findPlaces_60 : decode cX2_findPlaces 60 = .ok (.lastore, 1) := by decide +kernel
theorem dX2_findPlaces_61 : decode cX2_findPlaces 61 = .ok (.iinc 1 1, 3) := by decide +kernel
theorem dX2_findPlaces_64 : decode cX2_findPlaces 64 = .ok (.goto (-62), 3) := by decide +kernel
theorem dX2_findPlaces_67 : decode cX2_findPlaces 67 = .ok (.return_, 1) := by decide +kernel
set_option maxRecDepth 20000 in
theorem b_X2_findPlaces_0 {k n : Nat} {x : Wx} {Z : Zt} {Q : Option Value → Wx → Zt → Prop} {a0 : Nat} 
    (h : V mX2_findPlaces k n 2 [some (r_ a0), some (i_ 1), none, none, none] [] x Z Q) :
    V mX2_findPlaces k n 0 [some (r_ a0), none, none, none, none] [] x Z Q :=
  V_iconst dX2_findPlaces_0 (V_istore_n (lv' := [some (r_ a0), some (i_ 1), none, none, none]) dX2_findPlaces_1 (Nat.le_of_ble_eq_true rfl) rfl (V_msk [true, true, false, false, false] rfl h))
set_option maxRecDepth 20000 in
theorem b_X2_findPlaces_2 {k n : Nat} {x : Wx} {Z : Zt} {Q : Option Value → Wx → Zt → Prop} {a0 : Nat} {v1 : Int} (o_a0 : Is2 x a0)
    (h : Rg v1 ∧ (((12 < v1) → (Q none x Z)) ∧ ((v1 ≤ 12) → (0 ≤ v1 ∧ v1 < 13 ∧ (V mX2_findPlaces k n 18 [some (r_ a0), some (i_ v1), some (l_ (Z (a0 + 9) v1.toNat)), none, some (i_ 1)] [] x Z Q))))) :
    V mX2_findPlaces k n 2 [some (r_ a0), some (i_ v1), none, none, none] [] x Z Q :=
  V_iload_n dX2_findPlaces_2 rfl (V_bipush dX2_findPlaces_3 rfl (V_icmp_gt (tgt := 67) dX2_findPlaces_5 rfl h.1 (rg_c rfl) (fun c1 => V_ret dX2_findPlaces_67 rfl (h.2.1 c1)) (fun c1 => V_aload_n dX2_findPlaces_8 rfl (G_2_7 o_a0.1 o_a0.2.2.2.2.2.2.2.2.2.2.2.1 lf_2_35 dX2_findPlaces_9 (V_iload_n dX2_findPlaces_12 rfl (V_lald (t := 103) o_a0.2.2.2.2.2.2.2.2.2.2.2.2.1 (by decide) rfl (h.2.2 c1).1 (h.2.2 c1).2.1 (Nat.le_of_ble_eq_true rfl) dX2_findPlaces_13 (V_lstore_n (lv' := [some (r_ a0), some (i_ v1), some (l_ (Z (a0 + 9) v1.toNat)), none, none]) dX2_findPlaces_14 (Nat.le_of_ble_eq_true rfl) rfl (V_iconst dX2_findPlaces_15 (V_istore (lv' := [some (r_ a0), some (i_ v1), some (l_ (Z (a0 + 9) v1.toNat)), none, some (i_ 1)]) dX2_findPlaces_16 (Nat.le_of_ble_eq_true rfl) rfl (V_msk [true, true, true, false, true] rfl (h.2.2 c1).2.2))))))))))
set_option maxRecDepth 20000 in
theorem b_X2_findPlaces_18 {k n : Nat} {x : Wx} {Z : Zt} {Q : Option Value → Wx → Zt → Prop} {a0 : Nat} {v1 : Int} {v2 : Int} {v4 : Int} (o_a0 : Is2 x a0)
    (h : Rg v4 ∧ Rg v1 ∧ (((v1 ≤ v4) → (Rl v2 ∧ Rl v1 ∧ 0 < v1 ∧ (0 ≤ v1 ∧ v1 < 13 ∧ (∀ Z1 : Zt, Z1 = up Z (a0 + 10) v1.toNat (Int.tdiv v2 v1) → (V mX2_findPlaces k n 2 [some (r_ a0), some (i_ (v1 + 1)), none, none, none] [] x Z1 Q))))) ∧ ((v4 < v1) → (0 < v4 ∧ (Rg (Int.tmod v1 v4) ∧ (((Int.tmod v1 v4 ≠ 0) → (V mX2_findPlaces k n 45 [some (r_ a0), some (i_ v1), some (l_ v2), none, some (i_ v4)] [] x Z Q)) ∧ ((Int.tmod v1 v4 = 0) → (0 ≤ v4 ∧ v4 < 13 ∧ (V mX2_findPlaces k n 45 [some (r_ a0), some (i_ v1), some (l_ (v2 - (v4 * (Z (a0 + 10) v4.toNat)))), none, some (i_ v4)] [] x Z Q))))))))) :
    V mX2_findPlaces k n 18 [some (r_ a0), some (i_ v1), some (l_ v2), none, some (i_ v4)] [] x Z Q :=
  V_iload dX2_findPlaces_18 rfl (V_iload_n dX2_findPlaces_20 rfl (V_icmp_ge (tgt := 51) dX2_findPlaces_21 rfl h.1 h.2.1 (fun c1 => V_aload_n dX2_findPlaces_51 rfl (G_2_8 o_a0.1 o_a0.2.2.2.2.2.2.2.2.2.2.2.2.2.1 lf_2_39 dX2_findPlaces_52 (V_iload_n dX2_findPlaces_55 rfl (V_lload_n dX2_findPlaces_56 rfl (V_iload_n dX2_findPlaces_57 rfl (V_i2l dX2_findPlaces_58 h.2.1 (V_ldiv dX2_findPlaces_59 (h.2.2.1 c1).1 (h.2.2.1 c1).2.1 (h.2.2.1 c1).2.2.1 (V_last (t := 103) o_a0.2.2.2.2.2.2.2.2.2.2.2.2.2.2.1 (by decide) (by decide) rfl (h.2.2.1 c1).2.2.2.1 (h.2.2.1 c1).2.2.2.2.1 (Nat.le_of_ble_eq_true rfl) dX2_findPlaces_60 (V_nmZ (fun Z1 eZ1 => V_iinc (lv' := [some (r_ a0), some (i_ (v1 + 1)), some (l_ v2), none, some (i_ v4)]) dX2_findPlaces_61 rfl (Nat.le_of_ble_eq_true rfl) rfl (V_goto (tgt := 2) dX2_findPlaces_64 rfl (V_msk [true, true, false, false, false] rfl ((h.2.2.1 c1).2.2.2.2.2 Z1 eZ1))))))))))))) (fun c1 => V_iload_n dX2_findPlaces_24 rfl (V_iload dX2_findPlaces_25 rfl (V_irem dX2_findPlaces_27 h.2.1 h.1 (h.2.2.2 c1).1 (V_if_ne (tgt := 45) dX2_findPlaces_28 rfl (h.2.2.2 c1).2.1 (fun c2 => V_msk [true, true, true, false, true] rfl ((h.2.2.2 c1).2.2.1 c2)) (fun c2 => V_lload_n dX2_findPlaces_31 rfl (V_iload dX2_findPlaces_32 rfl (V_i2l dX2_findPlaces_34 h.1 (V_aload_n dX2_findPlaces_35 rfl (G_2_8 o_a0.1 o_a0.2.2.2.2.2.2.2.2.2.2.2.2.2.1 lf_2_39 dX2_findPlaces_36 (V_iload dX2_findPlaces_39 rfl (V_lald (t := 103) o_a0.2.2.2.2.2.2.2.2.2.2.2.2.2.2.1 (by decide) rfl ((h.2.2.2 c1).2.2.2 c2).1 ((h.2.2.2 c1).2.2.2 c2).2.1 (Nat.le_of_ble_eq_true rfl) dX2_findPlaces_41 (V_lmul dX2_findPlaces_42 (V_lsub dX2_findPlaces_43 (V_lstore_n (lv' := [some (r_ a0), some (i_ v1), some (l_ (v2 - (v4 * (Z (a0 + 10) v4.toNat)))), none, some (i_ v4)]) dX2_findPlaces_44 (Nat.le_of_ble_eq_true rfl) rfl (V_msk [true, true, true, false, true] rfl ((h.2.2.2 c1).2.2.2 c2).2.2)))))))))))))))))
set_option maxRecDepth 20000 in
theorem b_X2_findPlaces_45 {k n : Nat} {x : Wx} {Z : Zt} {Q : Option Value → Wx → Zt → Prop} {a0 : Nat} {v1 : Int} {v2 : Int} {v4 : Int} 
    (h : V mX2_findPlaces k n 18 [some (r_ a0), some (i_ v1), some (l_ v2), none, some (i_ (v4 + 1))] [] x Z Q) :
    V mX2_findPlaces k n 45 [some (r_ a0), some (i_ v1), some (l_ v2), none, some (i_ v4)] [] x Z Q :=
  V_iinc (lv' := [some (r_ a0), some (i_ v1), some (l_ v2), none, some (i_ (v4 + 1))]) dX2_findPlaces_45 rfl (Nat.le_of_ble_eq_true rfl) rfl (V_goto (tgt := 18) dX2_findPlaces_48 rfl (V_msk [true, true, true, false, true] rfl h))
/-! ===== Curve: COUNTS and PLACES ===== -/
theorem sp_X2_fixedPoints {k n : Nat} {x : Wx} {Z : Zt} {Q : Option Value → Wx → Zt → Prop} {a : Nat} (o : Is2 x a) {L : List (Int × Int)} (hL : PtA Z a L) (hr : PtR L) (h : Q (some (i_ (fxn L L.length))) x Z) : V mX2_fixedPoints k n 0 [some (r_ a), none, none] [] x Z Q := by
  have h3 := hL.1
  have hl := hr.1
  have lp : ∀ (m i : Nat) (w : Int), w = i → i + m = L.length → V mX2_fixedPoints k n 4 [some (r_ a), some (i_ (fxn L i)), some (i_ w)] [] x Z Q := by
    intro m
    induction m with
    | zero =>
      intro i w hw hm
      refine b_X2_fixedPoints_4 o ⟨⟨by omega, by omega⟩, ⟨by omega, by omega⟩, fun _ => ?_, fun c => by omega⟩
      rw [show i = L.length by omega]; exact h
    | succ m ih =>
      intro i w hw hm
      have nx := ih (i + 1) (w + 1) (by omega) (by omega)
      have e : fxn L (i + 1) = fxn L i + bI (fxd L w) := by rw [hw]; rfl
      rw [e] at nx
      refine b_X2_fixedPoints_4 o ⟨⟨by omega, by omega⟩, ⟨by omega, by omega⟩, fun c => by omega, fun _ => ⟨L, hL, hr, ⟨by omega, by omega⟩, bI_rg _, fun c => b_X2_fixedPoints_26 ?_, fun c => b_X2_fixedPoints_26 ?_⟩⟩
      · rw [c] at nx; exact nx
      · rw [show bI (fxd L w) = 1 by rw [bI_1 c]; rfl] at nx; exact nx
  exact b_X2_fixedPoints_0 (lp L.length 0 0 rfl (by omega))
def sqT (p : Int) (F : Nat → Int) (s : Int) : Nat → Int → Int
  | 0, _ => 0
  | m + 1, t => pov p F s t + sqT p F s m (t + 1)
def sqS (p : Int) (F : Nat → Int) : Nat → Int → Int
  | 0, _ => 0
  | m + 1, s => sqT p F s p.toNat 0 + sqS p F m (s + 1)
/-- how many POINTS there are over the field of two -/
def sqf (p : Int) (F : Nat → Int) : Int := 1 + sqS p F p.toNat 0
theorem sqT_rg (p : Int) (F : Nat → Int) (s : Int) : ∀ (m : Nat) (t : Int), 0 ≤ sqT p F s m t ∧ sqT p F s m t ≤ 2 * m
  | 0, _ => ⟨by show (0 : Int) ≤ 0; decide, by show (0 : Int) ≤ 0; decide⟩
  | m + 1, t => by
    unfold sqT
    have h1 := sqT_rg p F s m (t + 1)
    have h2 := pov_rg p F s t
    omega
theorem sqS_rg (p : Int) (F : Nat → Int) : ∀ (m : Nat) (s : Int), 0 ≤ sqS p F m s ∧ sqS p F m s ≤ 2 * ((m : Int) * p.toNat)
  | 0, _ => ⟨by show (0 : Int) ≤ 0; decide, by show (0 : Int) ≤ 2 * (((0 : Nat) : Int) * p.toNat); rw [show ((0 : Nat) : Int) = 0 from rfl, Int.zero_mul]; decide⟩
  | m + 1, s => by
    unfold sqS
    have h1 := sqS_rg p F m (s + 1)
    have h2 := sqT_rg p F s p.toNat 0
    rw [show ((m + 1 : Nat) : Int) * (p.toNat : Int) = (m : Int) * p.toNat + p.toNat by rw [show ((m + 1 : Nat) : Int) = (m : Int) + 1 from rfl, Int.add_mul, Int.one_mul]]
    omega
theorem sqf_rg {p : Int} (hp : IsP p) (F : Nat → Int) : 1 ≤ sqf p F ∧ sqf p F ≤ 1 + 2 * (p * p) := by
  have := sqS_rg p F p.toNat 0
  have hpr := hp.rg
  rw [show ((p.toNat : Nat) : Int) = p by omega] at this
  unfold sqf
  omega
theorem sp_X2_pointsOfSquareField {k n : Nat} {x : Wx} {Z : Zt} {Q : Option Value → Wx → Zt → Prop} {a : Nat} (o : Is2 x a) {p : Int} {F : Nat → Int} (hp : IsP p) (hfl : FA Z (a + 1) p) (hF : PA Z (a + 4) p F) (h : Q (some (i_ (sqf p F))) x Z) : V mX2_pointsOfSquareField k n 0 [some (r_ a), none, none, none] [] x Z Q := by
  have hpr := hp.rg
  have lp2 : ∀ (m : Nat) (v s t : Int), (0 ≤ s ∧ s < p) → 0 ≤ t → t + m = p → V mX2_pointsOfSquareField k n 4 [some (r_ a), some (i_ (v + sqT p F s m t)), some (i_ (s + 1)), none] [] x Z Q → V mX2_pointsOfSquareField k n 17 [some (r_ a), some (i_ v), some (i_ s), some (i_ t)] [] x Z Q := by
    intro m
    induction m with
    | zero =>
      intro v s t hs ht hm hn
      refine b_X2_pointsOfSquareField_17 o ?_
      rw [hfl.1]
      refine ⟨⟨by omega, by omega⟩, ⟨by omega, by omega⟩, fun _ => ?_, fun c => by omega⟩
      unfold sqT at hn
      rw [Int.add_zero] at hn
      exact hn
    | succ m ih =>
      intro v s t hs ht hm hn
      refine b_X2_pointsOfSquareField_17 o ?_
      rw [hfl.1]
      refine ⟨⟨by omega, by omega⟩, ⟨by omega, by omega⟩, fun c => by omega, fun _ => ⟨p, F, hp, hfl, hF, hs, ⟨by omega, by omega⟩, ih _ s _ hs (by omega) (by omega) ?_⟩⟩
      unfold sqT at hn
      rw [← Int.add_assoc] at hn
      exact hn
  have lp1 : ∀ (m : Nat) (v s : Int), 0 ≤ s → s + m = p → Q (some (i_ (v + sqS p F m s))) x Z → V mX2_pointsOfSquareField k n 4 [some (r_ a), some (i_ v), some (i_ s), none] [] x Z Q := by
    intro m
    induction m with
    | zero =>
      intro v s hs hm hn
      refine b_X2_pointsOfSquareField_4 o ?_
      rw [hfl.1]
      refine ⟨⟨by omega, by omega⟩, ⟨by omega, by omega⟩, fun _ => ?_, fun c => by omega⟩
      unfold sqS at hn
      rw [Int.add_zero] at hn
      exact hn
    | succ m ih =>
      intro v s hs hm hn
      refine b_X2_pointsOfSquareField_4 o ?_
      rw [hfl.1]
      refine ⟨⟨by omega, by omega⟩, ⟨by omega, by omega⟩, fun c => by omega, fun _ => lp2 p.toNat v s 0 ⟨hs, by omega⟩ (by decide) (by omega) (ih _ _ (by omega) (by omega) ?_)⟩
      unfold sqS at hn
      rw [← Int.add_assoc] at hn
      exact hn
  exact b_X2_pointsOfSquareField_0 (lp1 p.toNat 1 0 (by decide) (by omega) h)
def cSum (s : Nat → Int) (g : Int) (P : Nat → Int) (n : Nat) : Nat → Nat → Int → Int
  | 0, _, v => v
  | m + 1, i, v => if i < n ∧ (i : Int) ≤ 2 * g then cSum s g P n m (i + 1) (v + s i * P (n - i)) else v
def ctS (s : Nat → Int) (g : Int) (P : Nat → Int) (n : Nat) : Int := cSum s g P n n 1 (if (n : Int) ≤ 2 * g then (n : Int) * s n else 0)
/-- the sums of powers, told up to m -/
def psT (s : Nat → Int) (g : Int) : Nat → Nat → Int
  | 0 => fun _ => 0
  | m + 1 => upf (psT s g m) (m + 1) (-(ctS s g (psT s g m) (m + 1)))
/-- COUNT over the field of n -/
def ctV (p : Int) (s : Nat → Int) (g : Int) (n : Nat) : Int := p ^ n + 1 + ctS s g (psT s g (n - 1)) n
theorem cSum_ext {s r : Nat → Int} {g : Int} (hsr : ∀ i : Nat, 1 ≤ i → (i : Int) ≤ 2 * g → s i = r i) {P P' : Nat → Int} {n : Nat} (h : ∀ j : Nat, 1 ≤ j → j < n → P j = P' j) : ∀ (m i : Nat) (v : Int), 1 ≤ i → cSum s g P n m i v = cSum r g P' n m i v
  | 0, _, _, _ => rfl
  | m + 1, i, v, hi => by
    unfold cSum
    by_cases c : i < n ∧ (i : Int) ≤ 2 * g
    · rw [if_pos c, if_pos c, h (n - i) (by omega) (by omega), hsr i hi c.2]
      exact cSum_ext hsr h m (i + 1) _ (by omega)
    · rw [if_neg c, if_neg c]
theorem ctS_ext {s r : Nat → Int} {g : Int} (hsr : ∀ i : Nat, 1 ≤ i → (i : Int) ≤ 2 * g → s i = r i) {P P' : Nat → Int} {n : Nat} (hn : 1 ≤ n) (h : ∀ j : Nat, 1 ≤ j → j < n → P j = P' j) : ctS s g P n = ctS r g P' n := by
  unfold ctS
  have e : (if (n : Int) ≤ 2 * g then (n : Int) * s n else 0) = (if (n : Int) ≤ 2 * g then (n : Int) * r n else 0) := by
    by_cases c : (n : Int) ≤ 2 * g
    · rw [if_pos c, if_pos c, hsr n hn c]
    · rw [if_neg c, if_neg c]
  rw [e]
  exact cSum_ext hsr h n 1 _ (Nat.le_refl 1)
theorem psT_ext {s r : Nat → Int} {g : Int} (hsr : ∀ i : Nat, 1 ≤ i → (i : Int) ≤ 2 * g → s i = r i) : ∀ m : Nat, psT s g m = psT r g m
  | 0 => rfl
  | m + 1 => by
    unfold psT
    rw [psT_ext hsr m, ctS_ext hsr (by omega) (fun _ _ _ => rfl)]
theorem ctV_ext {s r : Nat → Int} {g : Int} (hsr : ∀ i : Nat, 1 ≤ i → (i : Int) ≤ 2 * g → s i = r i) {p : Int} {n : Nat} (hn : 1 ≤ n) : ctV p s g n = ctV p r g n := by
  unfold ctV
  rw [psT_ext hsr, ctS_ext hsr hn (fun _ _ _ => rfl)]
theorem sp_X2_findCounts {k n : Nat} {x : Wx} {Z : Zt} {Q : Option Value → Wx → Zt → Prop} {a : Nat} (o : Is2 x a) {p : Int} (hp : IsP p) (hfl : Z (a + 1) 0 = p) (hg : 1 ≤ Z a 2 ∧ Z a 2 ≤ 2) (hs : ∀ i : Nat, i < 5 → Rg (Z (a + 8) i)) (h : ∀ Z' : Zt, ((∀ j : Nat, 1 ≤ j → j ≤ 12 → Z' (a + 9) j = ctV p (Z (a + 8)) (Z a 2) j) ∧ Oth Z Z' (fun b => b = a + 9 ∨ b = a + 11)) → Q none x Z') : V mX2_findCounts k n 0 [some (r_ a), none, none, none, none, none, none] [] x Z Q := by
  have hpr := hp.rg
  have lp2 : ∀ (m i : Nat) (c : Nat) (u v w : Int) (Z1 : Zt), w = i → 1 ≤ i → i + m = c + 1 → c ≤ 12 → Z1 (a + 8) = Z (a + 8) → Z1 a = Z a → V mX2_findCounts k n 85 [some (r_ a), some (l_ u), none, some (i_ c), some (l_ (cSum (Z (a + 8)) (Z a 2) (Z1 (a + 11)) c m i v)), none, none] [] x Z1 Q → V mX2_findCounts k n 39 [some (r_ a), some (l_ u), none, some (i_ c), some (l_ v), none, some (i_ w)] [] x Z1 Q := by
    intro m
    induction m with
    | zero =>
      intro i c u v w Z1 hw hi hm hc h8 ha hn
      exact b_X2_findCounts_39 o ⟨⟨by omega, by omega⟩, ⟨by omega, by omega⟩, fun _ => hn, fun c2 => by omega⟩
    | succ m ih =>
      intro i c u v w Z1 hw hi hm hc h8 ha hn
      unfold cSum at hn
      refine b_X2_findCounts_39 o ?_
      rw [h8, ha]
      refine ⟨⟨by omega, by omega⟩, ⟨by omega, by omega⟩, fun c2 => ?_, fun c2 => ⟨⟨by omega, by omega⟩, fun c3 => ?_, fun c3 => ⟨by omega, by omega, hs _ (by omega), by omega, by omega, ih (i + 1) c u _ _ Z1 (by omega) (by omega) (by omega) hc h8 ha ?_⟩⟩⟩
      · rw [if_neg (by omega)] at hn; exact hn
      · rw [if_neg (by omega)] at hn; exact hn
      · rw [if_pos (by omega)] at hn
        rw [show w.toNat = i by omega, show ((c : Int) - w).toNat = c - i by omega]
        exact hn
  have lp1 : ∀ (m c : Nat) (w : Int) (Z1 : Zt), w = (c + 1 : Nat) → c + m = 12 → (∀ j : Nat, 1 ≤ j → j ≤ c → Z1 (a + 11) j = psT (Z (a + 8)) (Z a 2) c j) → (∀ j : Nat, 1 ≤ j → j ≤ c → Z1 (a + 9) j = ctV p (Z (a + 8)) (Z a 2) j) → Oth Z Z1 (fun b => b = a + 9 ∨ b = a + 11) → V mX2_findCounts k n 4 [some (r_ a), some (l_ (p ^ c)), none, some (i_ w), none, none, none] [] x Z1 Q := by
    intro m
    induction m with
    | zero =>
      intro c w Z1 hw hm h1 h2 h3
      exact b_X2_findCounts_4 o ⟨⟨by omega, by omega⟩, fun _ => h Z1 ⟨fun j hj hj2 => h2 j hj (by omega), h3⟩, fun c2 => by omega⟩
    | succ m ih =>
      intro c w Z1 hw hm h1 h2 h3
      have h8 : Z1 (a + 8) = Z (a + 8) := h3 _ (by omega)
      have ha : Z1 a = Z a := h3 _ (by omega)
      have hfl1 : Z1 (a + 1) 0 = p := by rw [h3 (a + 1) (by omega)]; exact hfl
      have hctS : ctS (Z (a + 8)) (Z a 2) (Z1 (a + 11)) (c + 1) = ctS (Z (a + 8)) (Z a 2) (psT (Z (a + 8)) (Z a 2) c) (c + 1) := ctS_ext (fun _ _ _ => rfl) (by omega) (fun j hj1 hj2 => h1 j hj1 (by omega))
      have tail : ∀ v0 : Int, v0 = (if ((c + 1 : Nat) : Int) ≤ 2 * Z a 2 then ((c + 1 : Nat) : Int) * Z (a + 8) (c + 1) else 0) → V mX2_findCounts k n 34 [some (r_ a), some (l_ (p ^ c)), none, some (i_ w), none, none, none] [l_ v0] x Z1 Q := by
        intro v0 hv0
        rw [hw]
        refine b_X2_findCounts_34 (lp2 (c + 1) 1 (c + 1) (p ^ c) v0 1 Z1 rfl (by omega) (by omega) (by omega) h8 ha ?_)
        have e0 : cSum (Z (a + 8)) (Z a 2) (Z1 (a + 11)) (c + 1) (c + 1) 1 v0 = ctS (Z (a + 8)) (Z a 2) (psT (Z (a + 8)) (Z a 2) c) (c + 1) := by
          rw [← hctS]; unfold ctS; rw [← hv0]
        rw [e0]
        refine b_X2_findCounts_85 o ⟨by omega, by omega, fun Z2 e2 => ?_⟩
        have hfl2 : Z2 (a + 1) 0 = p := by rw [e2, up_row _ _ _ _ _ (by omega)]; exact hfl1
        rw [hfl2]
        refine ⟨⟨by omega, by omega⟩, fun Z3 e3 => ?_⟩
        have ht : (((c + 1 : Nat) : Int)).toNat = c + 1 := by omega
        rw [ht] at e2 e3
        have := ih (c + 1) (((c + 1 : Nat) : Int) + 1) Z3 (by omega) (by omega) (fun j hj1 hj2 => ?_) (fun j hj1 hj2 => ?_) (fun b hb => ?_)
        · rw [show p ^ c * p = p ^ (c + 1) from (Int.pow_succ p c).symm]
          exact this
        · rw [e3, up_row _ _ _ _ _ (by omega), e2, up_at]
          show _ = upf (psT (Z (a + 8)) (Z a 2) c) (c + 1) _ j
          unfold upf
          by_cases c2 : j = c + 1
          · rw [if_pos c2, if_pos c2]
          · rw [if_neg c2, if_neg c2]; exact h1 j hj1 (by omega)
        · rw [e3, up_at]
          by_cases c2 : j = c + 1
          · rw [if_pos c2, c2]
            unfold ctV
            rw [Nat.add_sub_cancel, Int.pow_succ]
          · rw [if_neg c2, e2, up_row _ _ _ _ _ (by omega)]; exact h2 j hj1 (by omega)
        · have hb1 : b ≠ a + 9 := fun e => hb (Or.inl e)
          have hb2 : b ≠ a + 11 := fun e => hb (Or.inr e)
          rw [e3, up_row _ _ _ _ _ hb1, e2, up_row _ _ _ _ _ hb2]
          exact h3 b hb
      refine b_X2_findCounts_4 o ?_
      rw [h8, ha]
      refine ⟨⟨by omega, by omega⟩, fun c2 => by omega, fun _ => ⟨⟨by omega, by omega⟩, fun c3 => tail 0 ?_, fun c3 => ⟨by omega, by omega, hs _ (by omega), tail _ ?_⟩⟩⟩
      · rw [if_neg (by omega)]
      · rw [if_pos (by omega), hw, show (((c + 1 : Nat) : Int)).toNat = c + 1 by omega]
  refine b_X2_findCounts_0 ?_
  have := lp1 12 0 1 Z rfl rfl (fun j h1 h2 => by omega) (fun j h1 h2 => by omega) (fun b _ => rfl)
  rw [Int.pow_zero] at this
  exact this
