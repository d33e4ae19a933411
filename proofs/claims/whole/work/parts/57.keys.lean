theorem dX0_begin_0 : decode cX0_begin 0 = .ok (.aload_n 0, 1) := by decide +kernel
theorem dX0_begin_1 : decode cX0_begin 1 = .ok (.aload_n 1, 1) := by decide +kernel
theorem dX0_begin_2 : decode cX0_begin 2 = .ok (.getfield 77, 3) := by decide +kernel
theorem dX0_begin_5 : decode cX0_begin 5 = .ok (.putfield 12, 3) := by decide +kernel
theorem dX0_begin_8 : decode cX0_begin 8 = .ok (.aload_n 0, 1) := by decide +kernel
theorem dX0_begin_9 : decode cX0_begin 9 = .ok (.aload_n 1, 1) := by decide +kernel
theorem dX0_begin_10 : decode cX0_begin 10 = .ok (.getfield 80, 3) := by decide +kernel
theorem dX0_begin_13 : decode cX0_begin 13 = .ok (.putfield 21, 3) := by decide +kernel
theorem dX0_begin_16 : decode cX0_begin 16 = .ok (.aload_n 0, 1) := by decide +kernel
theorem dX0_begin_17 : decode cX0_begin 17 = .ok (.aload_n 1, 1) := by decide +kernel
theorem dX0_begin_18 : decode cX0_begin 18 = .ok (.getfield 81, 3) := by decide +kernel
theorem dX0_begin_21 : decode cX0_begin 21 = .ok (.putfield 25, 3) := by decide +kernel
theorem dX0_begin_24 : decode cX0_begin 24 = .ok (.aload_n 0, 1) := by decide +kernel
theorem dX0_begin_25 : decode cX0_begin 25 = .ok (.iconst 0, 1) := by decide +kernel
theorem dX0_begin_26 : decode cX0_begin 26 = .ok (.putfield 82, 3) := by decide +kernel
theorem dX0_begin_29 : decode cX0_begin 29 = .ok (.return_, 1) := by decide +kernel
set_option maxRecDepth 20000 in
theorem b_X0_begin_0 {k n : Nat} {x : Wx} {Z : Zt} {Q : Option Value → Wx → Zt → Prop} {a0 : Nat} {a1 : Nat} (o_a1 : Is2 x a1) (o_a0 : Is0 x a0)
    (h : ∀ x1 : Wx, x1 = (x.1, upR x.2.1 a0 1 (some (a1 + 1)), x.2.2) → (Is2 x1 a1 ∧ Is0 x1 a0 ∧ (∀ x2 : Wx, x2 = (x1.1, upR x1.2.1 a0 2 (some (a1 + 4)), x1.2.2) → (Is2 x2 a1 ∧ Is0 x2 a0 ∧ (∀ Z1 : Zt, Z1 = up Z a0 3 (Z a1 2) → (∀ Z2 : Zt, Z2 = up Z1 a0 0 0 → (Q none x2 Z2))))))) :
    V mX0_begin k n 0 [some (r_ a0), some (r_ a1)] [] x Z Q :=
  V_aload_n dX0_begin_0 rfl (V_aload_n dX0_begin_1 rfl (G_2_0 o_a1.1 o_a1.2.1 lf_0_77 dX0_begin_2 (P_0_1 o_a0.1 lf_0_12 dX0_begin_5 (V_nmx (fun x1 ex1 => V_aload_n dX0_begin_8 rfl (V_aload_n dX0_begin_9 rfl (G_2_1 (h x1 ex1).1.1 (h x1 ex1).1.2.2.2.1 lf_0_80 dX0_begin_10 (P_0_2 (h x1 ex1).2.1.1 lf_0_21 dX0_begin_13 (V_nmx (fun x2 ex2 => V_aload_n dX0_begin_16 rfl (V_aload_n dX0_begin_17 rfl (G_2_2 ((h x1 ex1).2.2 x2 ex2).1.1 lf_0_81 dX0_begin_18 (P_0_3 ((h x1 ex1).2.2 x2 ex2).2.1.1 lf_0_25 dX0_begin_21 (V_nmZ (fun Z1 eZ1 => V_aload_n dX0_begin_24 rfl (V_iconst dX0_begin_25 (P_0_0 ((h x1 ex1).2.2 x2 ex2).2.1.1 lf_0_82 (Or.inl rfl) dX0_begin_26 (V_nmZ (fun Z2 eZ2 => V_ret dX0_begin_29 rfl ((((h x1 ex1).2.2 x2 ex2).2.2 Z1 eZ1) Z2 eZ2))))))))))))))))))))
theorem dX0_keep_0 : decode cX0_keep 0 = .ok (.aload_n 0, 1) := by decide +kernel
theorem dX0_keep_1 : decode cX0_keep 1 = .ok (.getfield 171, 3) := by decide +kernel
theorem dX0_keep_4 : decode cX0_keep 4 = .ok (.sipush 450, 3) := by decide +kernel
theorem dX0_keep_7 : decode cX0_keep 7 = .ok (.if_icmp .ge 23, 3) := by decide +kernel
theorem dX0_keep_10 : decode cX0_keep 10 = .ok (.aload_n 0, 1) := by decide +kernel
theorem dX0_keep_11 : decode cX0_keep 11 = .ok (.getfield 67, 3) := by decide +kernel
theorem dX0_keep_14 : decode cX0_keep 14 = .ok (.aload_n 0, 1) := by decide +kernel
theorem dX0_keep_15 : decode cX0_keep 15 = .ok (.getfield 171, 3) := by decide +kernel
theorem dX0_keep_18 : decode cX0_keep 18 = .ok (.iload_n 1, 1) := by decide +kernel
theorem dX0_keep_19 : decode cX0_keep 19 = .ok (.iastore, 1) := by decide +kernel
theorem dX0_keep_20 : decode cX0_keep 20 = .ok (.aload_n 0, 1) := by decide +kernel
theorem dX0_keep_21 : decode cX0_keep 21 = .ok (.dup, 1) := by decide +kernel
theorem dX0_keep_22 : decode cX0_keep 22 = .ok (.getfield 171, 3) := by decide +kernel
theorem dX0_keep_25 : decode cX0_keep 25 = .ok (.iconst 1, 1) := by decide +kernel
theorem dX0_keep_26 : decode cX0_keep 26 = .ok (.iadd, 1) := by decide +kernel
theorem dX0_keep_27 : decode cX0_keep 27 = .ok (.putfield 171, 3) := by decide +kernel
theorem dX0_keep_30 : decode cX0_keep 30 = .ok (.return_, 1) := by decide +kernel
set_option maxRecDepth 20000 in
theorem b_X0_keep_0 {k n : Nat} {x : Wx} {Z : Zt} {Q : Option Value → Wx → Zt → Prop} {a0 : Nat} {v1 : Int} (o_a0 : Is0 x a0)
    (h : Rg (Z a0 14) ∧ (((450 ≤ Z a0 14) → (Q none x Z)) ∧ ((Z a0 14 < 450) → (0 ≤ Z a0 14 ∧ (∀ Z1 : Zt, Z1 = up Z (a0 + 50) (Z a0 14).toNat v1 → (∀ Z2 : Zt, Z2 = up Z1 a0 14 ((Z1 a0 14) + 1) → (Q none x Z2))))))) :
    V mX0_keep k n 0 [some (r_ a0), some (i_ v1)] [] x Z Q :=
  V_aload_n dX0_keep_0 rfl (G_0_14 o_a0.1 lf_0_171 dX0_keep_1 (V_sipush dX0_keep_4 rfl (V_icmp_ge (tgt := 30) dX0_keep_7 rfl h.1 (rg_c rfl) (fun c1 => V_ret dX0_keep_30 rfl (h.2.1 c1)) (fun c1 => V_aload_n dX0_keep_10 rfl (G_0_15 o_a0.1 o_a0.2.2.2.2.2.2.2.2.2.2.2.2.2.2.2.2.2.2.2.2.2.1 lf_0_67 dX0_keep_11 (V_aload_n dX0_keep_14 rfl (G_0_14 o_a0.1 lf_0_171 dX0_keep_15 (V_iload_n dX0_keep_18 rfl (V_iast (t := 100) o_a0.2.2.2.2.2.2.2.2.2.2.2.2.2.2.2.2.2.2.2.2.2.2.1 (by decide) (by decide) rfl (h.2.2 c1).1 c1 (Nat.le_of_ble_eq_true rfl) dX0_keep_19 (V_nmZ (fun Z1 eZ1 => V_aload_n dX0_keep_20 rfl (V_dup dX0_keep_21 rfl (G_0_14 o_a0.1 lf_0_171 dX0_keep_22 (V_iconst dX0_keep_25 (V_iadd dX0_keep_26 (P_0_14 o_a0.1 lf_0_171 dX0_keep_27 (V_nmZ (fun Z2 eZ2 => V_ret dX0_keep_30 rfl (((h.2.2 c1).2 Z1 eZ1) Z2 eZ2)))))))))))))))))))
theorem dX0_commonDivisor_0 : decode cX0_commonDivisor 0 = .ok (.iload_n 0, 1) := by decide +kernel
theorem dX0_commonDivisor_1 : decode cX0_commonDivisor 1 = .ok (.istore_n 2, 1) := by decide +kernel
theorem dX0_commonDivisor_2 : decode cX0_commonDivisor 2 = .ok (.iload_n 1, 1) := by decide +kernel
theorem dX0_commonDivisor_3 : decode cX0_commonDivisor 3 = .ok (.istore_n 3, 1) := by decide +kernel
theorem dX0_commonDivisor_4 : decode cX0_commonDivisor 4 = .ok (.iconst 0, 1) := by decide +kernel
theorem dX0_commonDivisor_5 : decode cX0_commonDivisor 5 = .ok (.istore 4, 2) := by decide +kernel
theorem dX0_commonDivisor_7 : decode cX0_commonDivisor 7 = .ok (.iload 4, 2) := by decide +kernel
theorem dX0_commonDivisor_9 : decode cX0_commonDivisor 9 = .ok (.sipush 450, 3) := by decide +kernel
theorem dX0_commonDivisor_12 : decode cX0_commonDivisor 12 = .ok (.if_icmp .ge 23, 3) := by decide +kernel
theorem dX0_commonDivisor_15 : decode cX0_commonDivisor 15 = .ok (.iload_n 3, 1) := by decide +kernel
theorem dX0_commonDivisor_16 : decode cX0_commonDivisor 16 = .ok (.ifCond .le 19, 3) := by decide +kernel
theorem dX0_commonDivisor_19 : decode cX0_commonDivisor 19 = .ok (.iload_n 2, 1) := by decide +kernel
theorem dX0_commonDivisor_20 : decode cX0_commonDivisor 20 = .ok (.iload_n 3, 1) := by decide +kernel
theorem dX0_commonDivisor_21 : decode cX0_commonDivisor 21 = .ok (.irem, 1) := by decide +kernel
theorem dX0_commonDivisor_22 : decode cX0_commonDivisor 22 = .ok (.istore 5, 2) := by decide +kernel
theorem dX0_commonDivisor_24 : decode cX0_commonDivisor 24 = .ok (.iload_n 3, 1) := by decide +kernel
theorem dX0_commonDivisor_25 : decode cX0_commonDivisor 25 = .ok (.istore_n 2, 1) := by decide +kernel
theorem dX0_commonDivisor_26 : decode cX0_commonDivisor 26 = .ok (.iload 5, 2) := by decide +kernel
theorem dX0_commonDivisor_28 : decode cX0_commonDivisor 28 = .ok (.istore_n 3, 1) := by decide +kernel
theorem dX0_commonDivisor_29 : decode cX0_commonDivisor 29 = .ok (.iinc 4 1, 3) := by decide +kernel
theorem dX0_commonDivisor_32 : decode cX0_commonDivisor 32 = .ok (.goto (-25), 3) := by decide +kernel
theorem dX0_commonDivisor_35 : decode cX0_commonDivisor 35 = .ok (.iload_n 2, 1) := by decide +kernel
theorem dX0_commonDivisor_36 : decode cX0_commonDivisor 36 = .ok (.iconst 1, 1) := by decide +kernel
theorem dX0_commonDivisor_37 : decode cX0_commonDivisor 37 = .ok (.invokestatic 174, 3) := by decide +kernel
theorem dX0_commonDivisor_40 : decode cX0_commonDivisor 40 = .ok (.ireturn, 1) := by decide +kernel
set_option maxRecDepth 20000 in
theorem b_X0_commonDivisor_0 {k n : Nat} {x : Wx} {Z : Zt} {Q : Option Value → Wx → Zt → Prop} {v0 : Int} {v1 : Int} 
    (h : V mX0_commonDivisor k n 7 [none, none, some (i_ v0), some (i_ v1), some (i_ 0), none] [] x Z Q) :
    V mX0_commonDivisor k n 0 [some (i_ v0), some (i_ v1), none, none, none, none] [] x Z Q :=
  V_iload_n dX0_commonDivisor_0 rfl (V_istore_n (lv' := [some (i_ v0), some (i_ v1), some (i_ v0), none, none, none]) dX0_commonDivisor_1 (Nat.le_of_ble_eq_true rfl) rfl (V_iload_n dX0_commonDivisor_2 rfl (V_istore_n (lv' := [some (i_ v0), some (i_ v1), some (i_ v0), some (i_ v1), none, none]) dX0_commonDivisor_3 (Nat.le_of_ble_eq_true rfl) rfl (V_iconst dX0_commonDivisor_4 (V_istore (lv' := [some (i_ v0), some (i_ v1), some (i_ v0), some (i_ v1), some (i_ 0), none]) dX0_commonDivisor_5 (Nat.le_of_ble_eq_true rfl) rfl (V_msk [false, false, true, true, true, false] rfl h))))))
set_option maxRecDepth 20000 in
theorem b_X0_commonDivisor_7 {k n : Nat} {x : Wx} {Z : Zt} {Q : Option Value → Wx → Zt → Prop} {v2 : Int} {v3 : Int} {v4 : Int} 
    (h : Rg v4 ∧ (((450 ≤ v4) → (V mX0_commonDivisor k n 35 [none, none, some (i_ v2), none, none, none] [] x Z Q)) ∧ ((v4 < 450) → (Rg v3 ∧ (((v3 ≤ 0) → (V mX0_commonDivisor k n 35 [none, none, some (i_ v2), none, none, none] [] x Z Q)) ∧ ((0 < v3) → (Rg v2 ∧ (V mX0_commonDivisor k n 7 [none, none, some (i_ v3), some (i_ (Int.tmod v2 v3)), some (i_ (v4 + 1)), none] [] x Z Q)))))))) :
    V mX0_commonDivisor k n 7 [none, none, some (i_ v2), some (i_ v3), some (i_ v4), none] [] x Z Q :=
  V_iload dX0_commonDivisor_7 rfl (V_sipush dX0_commonDivisor_9 rfl (V_icmp_ge (tgt := 35) dX0_commonDivisor_12 rfl h.1 (rg_c rfl) (fun c1 => V_msk [false, false, true, false, false, false] rfl (h.2.1 c1)) (fun c1 => V_iload_n dX0_commonDivisor_15 rfl (V_if_le (tgt := 35) dX0_commonDivisor_16 rfl (h.2.2 c1).1 (fun c2 => V_msk [false, false, true, false, false, false] rfl ((h.2.2 c1).2.1 c2)) (fun c2 => V_iload_n dX0_commonDivisor_19 rfl (V_iload_n dX0_commonDivisor_20 rfl (V_irem dX0_commonDivisor_21 ((h.2.2 c1).2.2 c2).1 (h.2.2 c1).1 c2 (V_istore (lv' := [none, none, some (i_ v2), some (i_ v3), some (i_ v4), some (i_ (Int.tmod v2 v3))]) dX0_commonDivisor_22 (Nat.le_of_ble_eq_true rfl) rfl (V_iload_n dX0_commonDivisor_24 rfl (V_istore_n (lv' := [none, none, some (i_ v3), some (i_ v3), some (i_ v4), some (i_ (Int.tmod v2 v3))]) dX0_commonDivisor_25 (Nat.le_of_ble_eq_true rfl) rfl (V_iload dX0_commonDivisor_26 rfl (V_istore_n (lv' := [none, none, some (i_ v3), some (i_ (Int.tmod v2 v3)), some (i_ v4), some (i_ (Int.tmod v2 v3))]) dX0_commonDivisor_28 (Nat.le_of_ble_eq_true rfl) rfl (V_iinc (lv' := [none, none, some (i_ v3), some (i_ (Int.tmod v2 v3)), some (i_ (v4 + 1)), some (i_ (Int.tmod v2 v3))]) dX0_commonDivisor_29 rfl (Nat.le_of_ble_eq_true rfl) rfl (V_goto (tgt := 7) dX0_commonDivisor_32 rfl (V_msk [false, false, true, true, true, false] rfl ((h.2.2 c1).2.2 c2).2)))))))))))))))
set_option maxRecDepth 20000 in
theorem b_X0_commonDivisor_35 {k n : Nat} {x : Wx} {Z : Zt} {Q : Option Value → Wx → Zt → Prop} {v2 : Int} 
    (h : Rg v2 ∧ (Q (some (i_ (max v2 1))) x Z)) :
    V mX0_commonDivisor k n 35 [none, none, some (i_ v2), none, none, none] [] x Z Q :=
  V_iload_n dX0_commonDivisor_35 rfl (V_iconst dX0_commonDivisor_36 (V_mmax lm_0_174 (Nat.le_of_ble_eq_true rfl) (Nat.le_of_ble_eq_true rfl) h.1 (rg_c rfl) dX0_commonDivisor_37 (V_iret (ty := .int) dX0_commonDivisor_40 rfl rfl h.2)))
theorem dX0_greatestOrder_0 : decode cX0_greatestOrder 0 = .ok (.iconst 1, 1) := by decide +kernel
theorem dX0_greatestOrder_1 : decode cX0_greatestOrder 1 = .ok (.istore_n 1, 1) := by decide +kernel
theorem dX0_greatestOrder_2 : decode cX0_greatestOrder 2 = .ok (.iconst 0, 1) := by decide +kernel
theorem dX0_greatestOrder_3 : decode cX0_greatestOrder 3 = .ok (.istore_n 2, 1) := by decide +kernel
theorem dX0_greatestOrder_4 : decode cX0_greatestOrder 4 = .ok (.iload_n 2, 1) := by decide +kernel
theorem dX0_greatestOrder_5 : decode cX0_greatestOrder 5 = .ok (.aload_n 0, 1) := by decide +kernel
theorem dX0_greatestOrder_6 : decode cX0_greatestOrder 6 = .ok (.getfield 171, 3) := by decide +kernel
theorem dX0_greatestOrder_9 : decode cX0_greatestOrder 9 = .ok (.if_icmp .ge 20, 3) := by decide +kernel
theorem dX0_greatestOrder_12 : decode cX0_greatestOrder 12 = .ok (.iload_n 1, 1) := by decide +kernel
theorem dX0_greatestOrder_13 : decode cX0_greatestOrder 13 = .ok (.aload_n 0, 1) := by decide +kernel
theorem dX0_greatestOrder_14 : decode cX0_greatestOrder 14 = .ok (.getfield 71, 3) := by decide +kernel
theorem dX0_greatestOrder_17 : decode cX0_greatestOrder 17 = .ok (.iload_n 2, 1) := by decide +kernel
theorem dX0_greatestOrder_18 : decode cX0_greatestOrder 18 = .ok (.iaload, 1) := by decide +kernel
theorem dX0_greatestOrder_19 : decode cX0_greatestOrder 19 = .ok (.invokestatic 174, 3) := by decide +kernel
theorem dX0_greatestOrder_22 : decode cX0_greatestOrder 22 = .ok (.istore_n 1, 1) := by decide +kernel
theorem dX0_greatestOrder_23 : decode cX0_greatestOrder 23 = .ok (.iinc 2 1, 3) := by decide +kernel
theorem dX0_greatestOrder_26 : decode cX0_greatestOrder 26 = .ok (.goto (-22), 3) := by decide +kernel
theorem dX0_greatestOrder_29 : decode cX0_greatestOrder 29 = .ok (.iload_n 1, 1) := by decide +kernel
theorem dX0_greatestOrder_30 : decode cX0_greatestOrder 30 = .ok (.ireturn, 1) := by decide +kernel
set_option maxRecDepth 20000 in
theorem b_X0_greatestOrder_0 {k n : Nat} {x : Wx} {Z : Zt} {Q : Option Value → Wx → Zt → Prop} {a0 : Nat} 
    (h : V mX0_greatestOrder k n 4 [some (r_ a0), some (i_ 1), some (i_ 0)] [] x Z Q) :
    V mX0_greatestOrder k n 0 [some (r_ a0), none, none] [] x Z Q :=
  V_iconst dX0_greatestOrder_0 (V_istore_n (lv' := [some (r_ a0), some (i_ 1), none]) dX0_greatestOrder_1 (Nat.le_of_ble_eq_true rfl) rfl (V_iconst dX0_greatestOrder_2 (V_istore_n (lv' := [some (r_ a0), some (i_ 1), some (i_ 0)]) dX0_greatestOrder_3 (Nat.le_of_ble_eq_true rfl) rfl (V_msk [true, true, true] rfl h))))
set_option maxRecDepth 20000 in
theorem b_X0_greatestOrder_4 {k n : Nat} {x : Wx} {Z : Zt} {Q : Option Value → Wx → Zt → Prop} {a0 : Nat} {v1 : Int} {v2 : Int} (o_a0 : Is0 x a0)
    (h : Rg v2 ∧ Rg (Z a0 14) ∧ (((Z a0 14 ≤ v2) → (Q (some (i_ v1)) x Z)) ∧ ((v2 < Z a0 14) → (0 ≤ v2 ∧ v2 < 450 ∧ (Rg v1 ∧ Rg (Z (a0 + 51) v2.toNat) ∧ (V mX0_greatestOrder k n 4 [some (r_ a0), some (i_ (max v1 (Z (a0 + 51) v2.toNat))), some (i_ (v2 + 1))] [] x Z Q)))))) :
    V mX0_greatestOrder k n 4 [some (r_ a0), some (i_ v1), some (i_ v2)] [] x Z Q :=
  V_iload_n dX0_greatestOrder_4 rfl (V_aload_n dX0_greatestOrder_5 rfl (G_0_14 o_a0.1 lf_0_171 dX0_greatestOrder_6 (V_icmp_ge (tgt := 29) dX0_greatestOrder_9 rfl h.1 h.2.1 (fun c1 => V_iload_n dX0_greatestOrder_29 rfl (V_iret (ty := .int) dX0_greatestOrder_30 rfl rfl (h.2.2.1 c1))) (fun c1 => V_iload_n dX0_greatestOrder_12 rfl (V_aload_n dX0_greatestOrder_13 rfl (G_0_16 o_a0.1 o_a0.2.2.2.2.2.2.2.2.2.2.2.2.2.2.2.2.2.2.2.2.2.2.2.1 lf_0_71 dX0_greatestOrder_14 (V_iload_n dX0_greatestOrder_17 rfl (V_iald (t := 100) o_a0.2.2.2.2.2.2.2.2.2.2.2.2.2.2.2.2.2.2.2.2.2.2.2.2.1 (by decide) rfl (h.2.2.2 c1).1 (h.2.2.2 c1).2.1 (Nat.le_of_ble_eq_true rfl) dX0_greatestOrder_18 (V_mmax lm_0_174 (Nat.le_of_ble_eq_true rfl) (Nat.le_of_ble_eq_true rfl) (h.2.2.2 c1).2.2.1 (h.2.2.2 c1).2.2.2.1 dX0_greatestOrder_19 (V_istore_n (lv' := [some (r_ a0), some (i_ (max v1 (Z (a0 + 51) v2.toNat))), some (i_ v2)]) dX0_greatestOrder_22 (Nat.le_of_ble_eq_true rfl) rfl (V_iinc (lv' := [some (r_ a0), some (i_ (max v1 (Z (a0 + 51) v2.toNat))), some (i_ (v2 + 1))]) dX0_greatestOrder_23 rfl (Nat.le_of_ble_eq_true rfl) rfl (V_goto (tgt := 4) dX0_greatestOrder_26 rfl (V_msk [true, true, true] rfl (h.2.2.2 c1).2.2.2.2)))))))))))))
theorem dX0_killedBy_0 : decode cX0_killedBy 0 = .ok (.iconst 0, 1) := by decide +kernel
theorem dX0_killedBy_1 : decode cX0_killedBy 1 = .ok (.istore_n 2, 1) := by decide +kernel
theorem dX0_killedBy_2 : decode cX0_killedBy 2 = .ok (.iconst 0, 1) := by decide +kernel
theorem dX0_killedBy_3 : decode cX0_killedBy 3 = .ok (.istore_n 3, 1) := by decide +kernel
theorem dX0_killedBy_4 : decode cX0_killedBy 4 = .ok (.iload_n 3, 1) := by decide +kernel
theorem dX0_killedBy_5 : decode cX0_killedBy 5 = .ok (.aload_n 0, 1) := by decide +kernel
theorem dX0_killedBy_6 : decode cX0_killedBy 6 = .ok (.getfield 171, 3) := by decide +kernel
theorem dX0_killedBy_9 : decode cX0_killedBy 9 = .ok (.if_icmp .ge 37, 3) := by decide +kernel
theorem dX0_killedBy_12 : decode cX0_killedBy 12 = .ok (.iload_n 2, 1) := by decide +kernel
theorem dX0_killedBy_13 : decode cX0_killedBy 13 = .ok (.aload_n 0, 1) := by decide +kernel
theorem dX0_killedBy_14 : decode cX0_killedBy 14 = .ok (.getfield 71, 3) := by decide +kernel
theorem dX0_killedBy_17 : decode cX0_killedBy 17 = .ok (.iload_n 3, 1) := by decide +kernel
theorem dX0_killedBy_18 : decode cX0_killedBy 18 = .ok (.iaload, 1) := by decide +kernel
theorem dX0_killedBy_19 : decode cX0_killedBy 19 = .ok (.ifCond .le 18, 3) := by decide +kernel
theorem dX0_killedBy_22 : decode cX0_killedBy 22 = .ok (.iload_n 1, 1) := by decide +kernel
theorem dX0_killedBy_23 : decode cX0_killedBy 23 = .ok (.aload_n 0, 1) := by decide +kernel
theorem dX0_killedBy_24 : decode cX0_killedBy 24 = .ok (.getfield 71, 3) := by decide +kernel
theorem dX0_killedBy_27 : decode cX0_killedBy 27 = .ok (.iload_n 3, 1) := by decide +kernel
theorem dX0_killedBy_28 : decode cX0_killedBy 28 = .ok (.iaload, 1) := by decide +kernel
theorem dX0_killedBy_29 : decode cX0_killedBy 29 = .ok (.irem, 1) := by decide +kernel
theorem dX0_killedBy_30 : decode cX0_killedBy 30 = .ok (.ifCond .ne 7, 3) := by decide +kernel
theorem dX0_killedBy_33 : decode cX0_killedBy 33 = .ok (.iconst 1, 1) := by decide +kernel
theorem dX0_killedBy_34 : decode cX0_killedBy 34 = .ok (.goto 4, 3) := by decide +kernel
theorem dX0_killedBy_37 : decode cX0_killedBy 37 = .ok (.iconst 0, 1) := by decide +kernel
theorem dX0_killedBy_38 : decode cX0_killedBy 38 = .ok (.iadd, 1) := by decide +kernel
theorem dX0_killedBy_39 : decode cX0_killedBy 39 = .ok (.istore_n 2, 1) := by decide +kernel
theorem dX0_killedBy_40 : decode cX0_killedBy 40 = .ok (.iinc 3 1, 3) := by decide +kernel
theorem dX0_killedBy_43 : decode cX0_killedBy 43 = .ok (.goto (-39), 3) := by decide +kernel
theorem dX0_killedBy_46 : decode cX0_killedBy 46 = .ok (.iload_n 2, 1) := by decide +kernel
theorem dX0_killedBy_47 : decode cX0_killedBy 47 = .ok (.ireturn, 1) := by decide +kernel
set_option maxRecDepth 20000 in
theorem b_X0_killedBy_0 {k n : Nat} {x : Wx} {Z : Zt} {Q : Option Value → Wx → Zt → Prop} {a0 : Nat} {v1 : Int} 
    (h : V mX0_killedBy k n 4 [some (r_ a0), some (i_ v1), some (i_ 0), some (i_ 0)] [] x Z Q) :
    V mX0_killedBy k n 0 [some (r_ a0), some (i_ v1), none, none] [] x Z Q :=
  V_iconst dX0_killedBy_0 (V_istore_n (lv' := [some (r_ a0), some (i_ v1), some (i_ 0), none]) dX0_killedBy_1 (Nat.le_of_ble_eq_true rfl) rfl (V_iconst dX0_killedBy_2 (V_istore_n (lv' := [some (r_ a0), some (i_ v1), some (i_ 0), some (i_ 0)]) dX0_killedBy_3 (Nat.le_of_ble_eq_true rfl) rfl (V_msk [true, true, true, true] rfl h))))
set_option maxRecDepth 20000 in
theorem b_X0_killedBy_4 {k n : Nat} {x : Wx} {Z : Zt} {Q : Option Value → Wx → Zt → Prop} {a0 : Nat} {v1 : Int} {v2 : Int} {v3 : Int} (o_a0 : Is0 x a0)
    (h : Rg v3 ∧ Rg (Z a0 14) ∧ (((Z a0 14 ≤ v3) → (Q (some (i_ v2)) x Z)) ∧ ((v3 < Z a0 14) → (0 ≤ v3 ∧ v3 < 450 ∧ (Rg (Z (a0 + 51) v3.toNat) ∧ (((Z (a0 + 51) v3.toNat ≤ 0) → (V mX0_killedBy k n 37 [some (r_ a0), some (i_ v1), none, some (i_ v3)] [i_ v2] x Z Q)) ∧ ((0 < Z (a0 + 51) v3.toNat) → (Rg v1 ∧ (Rg (Int.tmod v1 (Z (a0 + 51) v3.toNat)) ∧ (((Int.tmod v1 (Z (a0 + 51) v3.toNat) ≠ 0) → (V mX0_killedBy k n 37 [some (r_ a0), some (i_ v1), none, some (i_ v3)] [i_ v2] x Z Q)) ∧ ((Int.tmod v1 (Z (a0 + 51) v3.toNat) = 0) → (V mX0_killedBy k n 38 [some (r_ a0), some (i_ v1), none, some (i_ v3)] [i_ 1, i_ v2] x Z Q)))))))))))) :
    V mX0_killedBy k n 4 [some (r_ a0), some (i_ v1), some (i_ v2), some (i_ v3)] [] x Z Q :=
  V_iload_n dX0_killedBy_4 rfl (V_aload_n dX0_killedBy_5 rfl (G_0_14 o_a0.1 lf_0_171 dX0_killedBy_6 (V_icmp_ge (tgt := 46) dX0_killedBy_9 rfl h.1 h.2.1 (fun c1 => V_iload_n dX0_killedBy_46 rfl (V_iret (ty := .int) dX0_killedBy_47 rfl rfl (h.2.2.1 c1))) (fun c1 => V_iload_n dX0_killedBy_12 rfl (V_aload_n dX0_killedBy_13 rfl (G_0_16 o_a0.1 o_a0.2.2.2.2.2.2.2.2.2.2.2.2.2.2.2.2.2.2.2.2.2.2.2.1 lf_0_71 dX0_killedBy_14 (V_iload_n dX0_killedBy_17 rfl (V_iald (t := 100) o_a0.2.2.2.2.2.2.2.2.2.2.2.2.2.2.2.2.2.2.2.2.2.2.2.2.1 (by decide) rfl (h.2.2.2 c1).1 (h.2.2.2 c1).2.1 (Nat.le_of_ble_eq_true rfl) dX0_killedBy_18 (V_if_le (tgt := 37) dX0_killedBy_19 rfl (h.2.2.2 c1).2.2.1 (fun c2 => V_msk [true, true, false, true] rfl ((h.2.2.2 c1).2.2.2.1 c2)) (fun c2 => V_iload_n dX0_killedBy_22 rfl (V_aload_n dX0_killedBy_23 rfl (G_0_16 o_a0.1 o_a0.2.2.2.2.2.2.2.2.2.2.2.2.2.2.2.2.2.2.2.2.2.2.2.1 lf_0_71 dX0_killedBy_24 (V_iload_n dX0_killedBy_27 rfl (V_iald (t := 100) o_a0.2.2.2.2.2.2.2.2.2.2.2.2.2.2.2.2.2.2.2.2.2.2.2.2.1 (by decide) rfl (h.2.2.2 c1).1 (h.2.2.2 c1).2.1 (Nat.le_of_ble_eq_true rfl) dX0_killedBy_28 (V_irem dX0_killedBy_29 ((h.2.2.2 c1).2.2.2.2 c2).1 (h.2.2.2 c1).2.2.1 c2 (V_if_ne (tgt := 37) dX0_killedBy_30 rfl ((h.2.2.2 c1).2.2.2.2 c2).2.1 (fun c3 => V_msk [true, true, false, true] rfl (((h.2.2.2 c1).2.2.2.2 c2).2.2.1 c3)) (fun c3 => V_iconst dX0_killedBy_33 (V_goto (tgt := 38) dX0_killedBy_34 rfl (V_msk [true, true, false, true] rfl (((h.2.2.2 c1).2.2.2.2 c2).2.2.2 c3))))))))))))))))))))
set_option maxRecDepth 20000 in
theorem b_X0_killedBy_37 {k n : Nat} {x : Wx} {Z : Zt} {Q : Option Value → Wx → Zt → Prop} {a0 : Nat} {v1 : Int} {v3 : Int} {t0 : Int} 
    (h : V mX0_killedBy k n 38 [some (r_ a0), some (i_ v1), none, some (i_ v3)] [i_ 0, i_ t0] x Z Q) :
    V mX0_killedBy k n 37 [some (r_ a0), some (i_ v1), none, some (i_ v3)] [i_ t0] x Z Q :=
  V_iconst dX0_killedBy_37 (V_msk [true, true, false, true] rfl h)
set_option maxRecDepth 20000 in
theorem b_X0_killedBy_38 {k n : Nat} {x : Wx} {Z : Zt} {Q : Option Value → Wx → Zt → Prop} {a0 : Nat} {v1 : Int} {v3 : Int} {t0 : Int} {t1 : Int} 
    (h : V mX0_killedBy k n 4 [some (r_ a0), some (i_ v1), some (i_ (t0 + t1)), some (i_ (v3 + 1))] [] x Z Q) :
    V mX0_killedBy k n 38 [some (r_ a0), some (i_ v1), none, some (i_ v3)] [i_ t1, i_ t0] x Z Q :=
  V_iadd dX0_killedBy_38 (V_istore_n (lv' := [some (r_ a0), some (i_ v1), some (i_ (t0 + t1)), some (i_ v3)]) dX0_killedBy_39 (Nat.le_of_ble_eq_true rfl) rfl (V_iinc (lv' := [some (r_ a0), some (i_ v1), some (i_ (t0 + t1)), some (i_ (v3 + 1))]) dX0_killedBy_40 rfl (Nat.le_of_ble_eq_true rfl) rfl (V_goto (tgt := 4) dX0_killedBy_43 rfl (V_msk [true, true, true, true] rfl h))))
theorem dX0_indexOfKey_0 : decode cX0_indexOfKey 0 = .ok (.iconst 0, 1) := by decide +kernel
theorem dX0_indexOfKey_1 : decode cX0_indexOfKey 1 = .ok (.istore_n 2, 1) := by decide +kernel
theorem dX0_indexOfKey_2 : decode cX0_indexOfKey 2 = .ok (.aload_n 0, 1) := by decide +kernel
theorem dX0_indexOfKey_3 : decode cX0_indexOfKey 3 = .ok (.getfield 171, 3) := by decide +kernel
theorem dX0_indexOfKey_6 : decode cX0_indexOfKey 6 = .ok (.iconst 1, 1) := by decide +kernel
theorem dX0_indexOfKey_7 : decode cX0_indexOfKey 7 = .ok (.isub, 1) := by decide +kernel
theorem dX0_indexOfKey_8 : decode cX0_indexOfKey 8 = .ok (.istore_n 3, 1) := by decide +kernel
theorem dX0_indexOfKey_9 : decode cX0_indexOfKey 9 = .ok (.iconst 0, 1) := by decide +kernel
theorem dX0_indexOfKey_10 : decode cX0_indexOfKey 10 = .ok (.istore 4, 2) := by decide +kernel
theorem dX0_indexOfKey_12 : decode cX0_indexOfKey 12 = .ok (.iload 4, 2) := by decide +kernel
theorem dX0_indexOfKey_14 : decode cX0_indexOfKey 14 = .ok (.aload_n 0, 1) := by decide +kernel
theorem dX0_indexOfKey_15 : decode cX0_indexOfKey 15 = .ok (.getfield 171, 3) := by decide +kernel
theorem dX0_indexOfKey_18 : decode cX0_indexOfKey 18 = .ok (.if_icmp .ge 59, 3) := by decide +kernel
theorem dX0_indexOfKey_21 : decode cX0_indexOfKey 21 = .ok (.iload_n 2, 1) := by decide +kernel
theorem dX0_indexOfKey_22 : decode cX0_indexOfKey 22 = .ok (.iload_n 3, 1) := by decide +kernel
theorem dX0_indexOfKey_23 : decode cX0_indexOfKey 23 = .ok (.if_icmp .gt 54, 3) := by decide +kernel
theorem dX0_indexOfKey_26 : decode cX0_indexOfKey 26 = .ok (.iload_n 2, 1) := by decide +kernel
theorem dX0_indexOfKey_27 : decode cX0_indexOfKey 27 = .ok (.iload_n 3, 1) := by decide +kernel
theorem dX0_indexOfKey_28 : decode cX0_indexOfKey 28 = .ok (.iadd, 1) := by decide +kernel
theorem dX0_indexOfKey_29 : decode cX0_indexOfKey 29 = .ok (.iconst 2, 1) := by decide +kernel
theorem dX0_indexOfKey_30 : decode cX0_indexOfKey 30 = .ok (.idiv, 1) := by decide +kernel
theorem dX0_indexOfKey_31 : decode cX0_indexOfKey 31 = .ok (.istore 5, 2) := by decide +kernel
theorem dX0_indexOfKey_33 : decode cX0_indexOfKey 33 = .ok (.aload_n 0, 1) := by decide +kernel
theorem dX0_indexOfKey_34 : decode cX0_indexOfKey 34 = .ok (.getfield 67, 3) := by decide +kernel
theorem dX0_indexOfKey_37 : decode cX0_indexOfKey 37 = .ok (.iload 5, 2) := by decide +kernel
theorem dX0_indexOfKey_39 : decode cX0_indexOfKey 39 = .ok (.iaload, 1) := by decide +kernel
theorem dX0_indexOfKey_40 : decode cX0_indexOfKey 40 = .ok (.iload_n 1, 1) := by decide +kernel
theorem dX0_indexOfKey_41 : decode cX0_indexOfKey 41 = .ok (.if_icmp .ne 6, 3) := by decide +kernel
theorem dX0_indexOfKey_44 : decode cX0_indexOfKey 44 = .ok (.iload 5, 2) := by decide +kernel
theorem dX0_indexOfKey_46 : decode cX0_indexOfKey 46 = .ok (.ireturn, 1) := by decide +kernel
theorem dX0_indexOfKey_47 : decode cX0_indexOfKey 47 = .ok (.aload_n 0, 1) := by decide +kernel
theorem dX0_indexOfKey_48 : decode cX0_indexOfKey 48 = .ok (.getfield 67, 3) := by decide +kernel
theorem dX0_indexOfKey_51 : decode cX0_indexOfKey 51 = .ok (.iload 5, 2) := by decide +kernel
theorem dX0_indexOfKey_53 : decode cX0_indexOfKey 53 = .ok (.iaload, 1) := by decide +kernel
theorem dX0_indexOfKey_54 : decode cX0_indexOfKey 54 = .ok (.iload_n 1, 1) := by decide +kernel
theorem dX0_indexOfKey_55 : decode cX0_indexOfKey 55 = .ok (.if_icmp .ge 11, 3) := by decide +kernel
theorem dX0_indexOfKey_58 : decode cX0_indexOfKey 58 = .ok (.iload 5, 2) := by decide +kernel
theorem dX0_indexOfKey_60 : decode cX0_indexOfKey 60 = .ok (.iconst 1, 1) := by decide +kernel
theorem dX0_indexOfKey_61 : decode cX0_indexOfKey 61 = .ok (.iadd, 1) := by decide +kernel
theorem dX0_indexOfKey_62 : decode cX0_indexOfKey 62 = .ok (.istore_n 2, 1) := by decide +kernel
theorem dX0_indexOfKey_63 : decode cX0_indexOfKey 63 = .ok (.goto 8, 3) := by decide +kernel
theorem dX0_indexOfKey_66 : decode cX0_indexOfKey 66 = .ok (.iload 5, 2) := by decide +kernel
theorem dX0_indexOfKey_68 : decode cX0_indexOfKey 68 = .ok (.iconst 1, 1) := by decide +kernel
theorem dX0_indexOfKey_69 : decode cX0_indexOfKey 69 = .ok (.isub, 1) := by decide +kernel
theorem dX0_indexOfKey_70 : decode cX0_indexOfKey 70 = .ok (.istore_n 3, 1) := by decide +kernel
theorem dX0_indexOfKey_71 : decode cX0_indexOfKey 71 = .ok (.iinc 4 1, 3) := by decide +kernel
theorem dX0_indexOfKey_74 : decode cX0_indexOfKey 74 = .ok (.goto (-62), 3) := by decide +kernel
theorem dX0_indexOfKey_77 : decode cX0_indexOfKey 77 = .ok (.iconst (-1), 1) := by decide +kernel
theorem dX0_indexOfKey_78 : decode cX0_indexOfKey 78 = .ok (.ireturn, 1) := by decide +kernel
set_option maxRecDepth 20000 in
theorem b_X0_indexOfKey_0 {k n : Nat} {x : Wx} {Z : Zt} {Q : Option Value → Wx → Zt → Prop} {a0 : Nat} {v1 : Int} (o_a0 : Is0 x a0)
    (h : V mX0_indexOfKey k n 12 [some (r_ a0), some (i_ v1), some (i_ 0), some (i_ ((Z a0 14) - 1)), some (i_ 0), none] [] x Z Q) :
    V mX0_indexOfKey k n 0 [some (r_ a0), some (i_ v1), none, none, none, none] [] x Z Q :=
  V_iconst dX0_indexOfKey_0 (V_istore_n (lv' := [some (r_ a0), some (i_ v1), some (i_ 0), none, none, none]) dX0_indexOfKey_1 (Nat.le_of_ble_eq_true rfl) rfl (V_aload_n dX0_indexOfKey_2 rfl (G_0_14 o_a0.1 lf_0_171 dX0_indexOfKey_3 (V_iconst dX0_indexOfKey_6 (V_isub dX0_indexOfKey_7 (V_istore_n (lv' := [some (r_ a0), some (i_ v1), some (i_ 0), some (i_ ((Z a0 14) - 1)), none, none]) dX0_indexOfKey_8 (Nat.le_of_ble_eq_true rfl) rfl (V_iconst dX0_indexOfKey_9 (V_istore (lv' := [some (r_ a0), some (i_ v1), some (i_ 0), some (i_ ((Z a0 14) - 1)), some (i_ 0), none]) dX0_indexOfKey_10 (Nat.le_of_ble_eq_true rfl) rfl (V_msk [true, true, true, true, true, false] rfl h)))))))))
set_option maxRecDepth 20000 in
theorem b_X0_indexOfKey_12 {k n : Nat} {x : Wx} {Z : Zt} {Q : Option Value → Wx → Zt → Prop} {a0 : Nat} {v1 : Int} {v2 : Int} {v3 : Int} {v4 : Int} (o_a0 : Is0 x a0)
    (h : Rg v4 ∧ Rg (Z a0 14) ∧ (((Z a0 14 ≤ v4) → (V mX0_indexOfKey k n 77 [none, none, none, none, none, none] [] x Z Q)) ∧ ((v4 < Z a0 14) → (Rg v2 ∧ Rg v3 ∧ (((v3 < v2) → (V mX0_indexOfKey k n 77 [none, none, none, none, none, none] [] x Z Q)) ∧ ((v2 ≤ v3) → (Rg (v2 + v3) ∧ (0 ≤ Int.tdiv (v2 + v3) 2 ∧ Int.tdiv (v2 + v3) 2 < 450 ∧ (Rg (Z (a0 + 50) (Int.tdiv (v2 + v3) 2).toNat) ∧ Rg v1 ∧ (((Z (a0 + 50) (Int.tdiv (v2 + v3) 2).toNat ≠ v1) → (((v1 ≤ Z (a0 + 50) (Int.tdiv (v2 + v3) 2).toNat) → (V mX0_indexOfKey k n 71 [some (r_ a0), some (i_ v1), some (i_ v2), some (i_ ((Int.tdiv (v2 + v3) 2) - 1)), some (i_ v4), none] [] x Z Q)) ∧ ((Z (a0 + 50) (Int.tdiv (v2 + v3) 2).toNat < v1) → (V mX0_indexOfKey k n 71 [some (r_ a0), some (i_ v1), some (i_ ((Int.tdiv (v2 + v3) 2) + 1)), some (i_ v3), some (i_ v4), none] [] x Z Q)))) ∧ ((Z (a0 + 50) (Int.tdiv (v2 + v3) 2).toNat = v1) → (Q (some (i_ (Int.tdiv (v2 + v3) 2))) x Z)))))))))))) :
    V mX0_indexOfKey k n 12 [some (r_ a0), some (i_ v1), some (i_ v2), some (i_ v3), some (i_ v4), none] [] x Z Q :=
  V_iload dX0_indexOfKey_12 rfl (V_aload_n dX0_indexOfKey_14 rfl (G_0_14 o_a0.1 lf_0_171 dX0_indexOfKey_15 (V_icmp_ge (tgt := 77) dX0_indexOfKey_18 rfl h.1 h.2.1 (fun c1 => V_msk [false, false, false, false, false, false] rfl (h.2.2.1 c1)) (fun c1 => V_iload_n dX0_indexOfKey_21 rfl (V_iload_n dX0_indexOfKey_22 rfl (V_icmp_gt (tgt := 77) dX0_indexOfKey_23 rfl (h.2.2.2 c1).1 (h.2.2.2 c1).2.1 (fun c2 => V_msk [false, false, false, false, false, false] rfl ((h.2.2.2 c1).2.2.1 c2)) (fun c2 => V_iload_n dX0_indexOfKey_26 rfl (V_iload_n dX0_indexOfKey_27 rfl (V_iadd dX0_indexOfKey_28 (V_iconst dX0_indexOfKey_29 (V_idiv dX0_indexOfKey_30 ((h.2.2.2 c1).2.2.2 c2).1 (rg_c rfl) (by decide) (V_istore (lv' := [some (r_ a0), some (i_ v1), some (i_ v2), some (i_ v3), some (i_ v4), some (i_ (Int.tdiv (v2 + v3) 2))]) dX0_indexOfKey_31 (Nat.le_of_ble_eq_true rfl) rfl (V_aload_n dX0_indexOfKey_33 rfl (G_0_15 o_a0.1 o_a0.2.2.2.2.2.2.2.2.2.2.2.2.2.2.2.2.2.2.2.2.2.1 lf_0_67 dX0_indexOfKey_34 (V_iload dX0_indexOfKey_37 rfl (V_iald (t := 100) o_a0.2.2.2.2.2.2.2.2.2.2.2.2.2.2.2.2.2.2.2.2.2.2.1 (by decide) rfl ((h.2.2.2 c1).2.2.2 c2).2.1 ((h.2.2.2 c1).2.2.2 c2).2.2.1 (Nat.le_of_ble_eq_true rfl) dX0_indexOfKey_39 (V_iload_n dX0_indexOfKey_40 rfl (V_icmp_ne (tgt := 47) dX0_indexOfKey_41 rfl ((h.2.2.2 c1).2.2.2 c2).2.2.2.1 ((h.2.2.2 c1).2.2.2 c2).2.2.2.2.1 (fun c3 => V_aload_n dX0_indexOfKey_47 rfl (G_0_15 o_a0.1 o_a0.2.2.2.2.2.2.2.2.2.2.2.2.2.2.2.2.2.2.2.2.2.1 lf_0_67 dX0_indexOfKey_48 (V_iload dX0_indexOfKey_51 rfl (V_iald (t := 100) o_a0.2.2.2.2.2.2.2.2.2.2.2.2.2.2.2.2.2.2.2.2.2.2.1 (by decide) rfl ((h.2.2.2 c1).2.2.2 c2).2.1 ((h.2.2.2 c1).2.2.2 c2).2.2.1 (Nat.le_of_ble_eq_true rfl) dX0_indexOfKey_53 (V_iload_n dX0_indexOfKey_54 rfl (V_icmp_ge (tgt := 66) dX0_indexOfKey_55 rfl ((h.2.2.2 c1).2.2.2 c2).2.2.2.1 ((h.2.2.2 c1).2.2.2 c2).2.2.2.2.1 (fun c4 => V_iload dX0_indexOfKey_66 rfl (V_iconst dX0_indexOfKey_68 (V_isub dX0_indexOfKey_69 (V_istore_n (lv' := [some (r_ a0), some (i_ v1), some (i_ v2), some (i_ ((Int.tdiv (v2 + v3) 2) - 1)), some (i_ v4), some (i_ (Int.tdiv (v2 + v3) 2))]) dX0_indexOfKey_70 (Nat.le_of_ble_eq_true rfl) rfl (V_msk [true, true, true, true, true, false] rfl ((((h.2.2.2 c1).2.2.2 c2).2.2.2.2.2.1 c3).1 c4)))))) (fun c4 => V_iload dX0_indexOfKey_58 rfl (V_iconst dX0_indexOfKey_60 (V_iadd dX0_indexOfKey_61 (V_istore_n (lv' := [some (r_ a0), some (i_ v1), some (i_ ((Int.tdiv (v2 + v3) 2) + 1)), some (i_ v3), some (i_ v4), some (i_ (Int.tdiv (v2 + v3) 2))]) dX0_indexOfKey_62 (Nat.le_of_ble_eq_true rfl) rfl (V_goto (tgt := 71) dX0_indexOfKey_63 rfl (V_msk [true, true, true, true, true, false] rfl ((((h.2.2.2 c1).2.2.2 c2).2.2.2.2.2.1 c3).2 c4))))))))))))) (fun c3 => V_iload dX0_indexOfKey_44 rfl (V_iret (ty := .int) dX0_indexOfKey_46 rfl rfl (((h.2.2.2 c1).2.2.2 c2).2.2.2.2.2.2 c3)))))))))))))))))))))
set_option maxRecDepth 20000 in
theorem b_X0_indexOfKey_71 {k n : Nat} {x : Wx} {Z : Zt} {Q : Option Value → Wx → Zt → Prop} {a0 : Nat} {v1 : Int} {v2 : Int} {v3 : Int} {v4 : Int} 
    (h : V mX0_indexOfKey k n 12 [some (r_ a0), some (i_ v1), some (i_ v2), some (i_ v3), some (i_ (v4 + 1)), none] [] x Z Q) :
    V mX0_indexOfKey k n 71 [some (r_ a0), some (i_ v1), some (i_ v2), some (i_ v3), some (i_ v4), none] [] x Z Q :=
  V_iinc (lv' := [some (r_ a0), some (i_ v1), some (i_ v2), some (i_ v3), some (i_ (v4 + 1)), none]) dX0_indexOfKey_71 rfl (Nat.le_of_ble_eq_true rfl) rfl (V_goto (tgt := 12) dX0_indexOfKey_74 rfl (V_msk [true, true, true, true, true, false] rfl h))
set_option maxRecDepth 20000 in
theorem b_X0_indexOfKey_77 {k n : Nat} {x : Wx} {Z : Zt} {Q : Option Value → Wx → Zt → Prop}  
    (h : Q (some (i_ (-1))) x Z) :
    V mX0_indexOfKey k n 77 [none, none, none, none, none, none] [] x Z Q :=
  V_iconst dX0_indexOfKey_77 (V_iret (ty := .int) dX0_indexOfKey_78 rfl rfl h)
theorem dX0_keyOf_0 : decode cX0_keyOf 0 = .ok (.aload_n 0, 1) := by decide +kernel
theorem dX0_keyOf_1 : decode cX0_keyOf 1 = .ok (.getfield 12, 3) := by decide +kernel
theorem dX0_keyOf_4 : decode cX0_keyOf 4 = .ok (.getfield 181, 3) := by decide +kernel
theorem dX0_keyOf_7 : decode cX0_keyOf 7 = .ok (.istore_n 2, 1) := by decide +kernel
theorem dX0_keyOf_8 : decode cX0_keyOf 8 = .ok (.aload_n 1, 1) := by decide +kernel
theorem dX0_keyOf_9 : decode cX0_keyOf 9 = .ok (.getfield 130, 3) := by decide +kernel
theorem dX0_keyOf_12 : decode cX0_keyOf 12 = .ok (.getfield 133, 3) := by decide +kernel
theorem dX0_keyOf_15 : decode cX0_keyOf 15 = .ok (.ifCond .gt 5, 3) := by decide +kernel
theorem dX0_keyOf_18 : decode cX0_keyOf 18 = .ok (.iconst 0, 1) := by decide +kernel
theorem dX0_keyOf_19 : decode cX0_keyOf 19 = .ok (.ireturn, 1) := by decide +kernel
theorem dX0_keyOf_20 : decode cX0_keyOf 20 = .ok (.aload_n 1, 1) := by decide +kernel
theorem dX0_keyOf_21 : decode cX0_keyOf 21 = .ok (.getfield 130, 3) := by decide +kernel
theorem dX0_keyOf_24 : decode cX0_keyOf 24 = .ok (.getfield 133, 3) := by decide +kernel
theorem dX0_keyOf_27 : decode cX0_keyOf 27 = .ok (.iconst 1, 1) := by decide +kernel
theorem dX0_keyOf_28 : decode cX0_keyOf 28 = .ok (.if_icmp .ne 25, 3) := by decide +kernel
theorem dX0_keyOf_31 : decode cX0_keyOf 31 = .ok (.iconst 1, 1) := by decide +kernel
theorem dX0_keyOf_32 : decode cX0_keyOf 32 = .ok (.aload_n 1, 1) := by decide +kernel
theorem dX0_keyOf_33 : decode cX0_keyOf 33 = .ok (.getfield 130, 3) := by decide +kernel
theorem dX0_keyOf_36 : decode cX0_keyOf 36 = .ok (.iconst 0, 1) := by decide +kernel
theorem dX0_keyOf_37 : decode cX0_keyOf 37 = .ok (.invokevirtual 149, 3) := by decide +kernel
theorem dX0_keyOf_40 : decode cX0_keyOf 40 = .ok (.iload_n 2, 1) := by decide +kernel
theorem dX0_keyOf_41 : decode cX0_keyOf 41 = .ok (.imul, 1) := by decide +kernel
theorem dX0_keyOf_42 : decode cX0_keyOf 42 = .ok (.iadd, 1) := by decide +kernel
theorem dX0_keyOf_43 : decode cX0_keyOf 43 = .ok (.aload_n 1, 1) := by decide +kernel
theorem dX0_keyOf_44 : decode cX0_keyOf 44 = .ok (.getfield 111, 3) := by decide +kernel
theorem dX0_keyOf_47 : decode cX0_keyOf 47 = .ok (.iconst 0, 1) := by decide +kernel
theorem dX0_keyOf_48 : decode cX0_keyOf 48 = .ok (.invokevirtual 149, 3) := by decide +kernel
theorem dX0_keyOf_51 : decode cX0_keyOf 51 = .ok (.iadd, 1) := by decide +kernel
theorem dX0_keyOf_52 : decode cX0_keyOf 52 = .ok (.ireturn, 1) := by decide +kernel
theorem dX0_keyOf_53 : decode cX0_keyOf 53 = .ok (.aload_n 1, 1) := by decide +kernel
theorem dX0_keyOf_54 : decode cX0_keyOf 54 = .ok (.getfield 130, 3) := by decide +kernel
theorem dX0_keyOf_57 : decode cX0_keyOf 57 = .ok (.iconst 0, 1) := by decide +kernel
theorem dX0_keyOf_58 : decode cX0_keyOf 58 = .ok (.invokevirtual 149, 3) := by decide +kernel
theorem dX0_keyOf_61 : decode cX0_keyOf 61 = .ok (.iload_n 2, 1) := by decide +kernel
theorem dX0_keyOf_62 : decode cX0_keyOf 62 = .ok (.imul, 1) := by decide +kernel
theorem dX0_keyOf_63 : decode cX0_keyOf 63 = .ok (.aload_n 1, 1) := by decide +kernel
theorem dX0_keyOf_64 : decode cX0_keyOf 64 = .ok (.getfield 130, 3) := by decide +kernel
theorem dX0_keyOf_67 : decode cX0_keyOf 67 = .ok (.iconst 1, 1) := by decide +kernel
theorem dX0_keyOf_68 : decode cX0_keyOf 68 = .ok (.invokevirtual 149, 3) := by decide +kernel
theorem dX0_keyOf_71 : decode cX0_keyOf 71 = .ok (.iadd, 1) := by decide +kernel
theorem dX0_keyOf_72 : decode cX0_keyOf 72 = .ok (.istore_n 3, 1) := by decide +kernel
theorem dX0_keyOf_73 : decode cX0_keyOf 73 = .ok (.iconst 1, 1) := by decide +kernel
theorem dX0_keyOf_74 : decode cX0_keyOf 74 = .ok (.iload_n 2, 1) := by decide +kernel
theorem dX0_keyOf_75 : decode cX0_keyOf 75 = .ok (.iload_n 2, 1) := by decide +kernel
theorem dX0_keyOf_76 : decode cX0_keyOf 76 = .ok (.imul, 1) := by decide +kernel
theorem dX0_keyOf_77 : decode cX0_keyOf 77 = .ok (.iadd, 1) := by decide +kernel
theorem dX0_keyOf_78 : decode cX0_keyOf 78 = .ok (.iload_n 3, 1) := by decide +kernel
theorem dX0_keyOf_79 : decode cX0_keyOf 79 = .ok (.iload_n 2, 1) := by decide +kernel
theorem dX0_keyOf_80 : decode cX0_keyOf 80 = .ok (.imul, 1) := by decide +kernel
theorem dX0_keyOf_81 : decode cX0_keyOf 81 = .ok (.iload_n 2, 1) := by decide +kernel
theorem dX0_keyOf_82 : decode cX0_keyOf 82 = .ok (.imul, 1) := by decide +kernel
theorem dX0_keyOf_83 : decode cX0_keyOf 83 = .ok (.iadd, 1) := by decide +kernel
theorem dX0_keyOf_84 : decode cX0_keyOf 84 = .ok (.aload_n 1, 1) := by decide +kernel
theorem dX0_keyOf_85 : decode cX0_keyOf 85 = .ok (.getfield 111, 3) := by decide +kernel
theorem dX0_keyOf_88 : decode cX0_keyOf 88 = .ok (.iconst 1, 1) := by decide +kernel
theorem dX0_keyOf_89 : decode cX0_keyOf 89 = .ok (.invokevirtual 149, 3) := by decide +kernel
theorem dX0_keyOf_92 : decode cX0_keyOf 92 = .ok (.iload_n 2, 1) := by decide +kernel
theorem dX0_keyOf_93 : decode cX0_keyOf 93 = .ok (.imul, 1) := by decide +kernel
theorem dX0_keyOf_94 : decode cX0_keyOf 94 = .ok (.iadd, 1) := by decide +kernel
theorem dX0_keyOf_95 : decode cX0_keyOf 95 = .ok (.aload_n 1, 1) := by decide +kernel
theorem dX0_keyOf_96 : decode cX0_keyOf 96 = .ok (.getfield 111, 3) := by decide +kernel
theorem dX0_keyOf_99 : decode cX0_keyOf 99 = .ok (.iconst 0, 1) := by decide +kernel
theorem dX0_keyOf_100 : decode cX0_keyOf 100 = .ok (.invokevirtual 149, 3) := by decide +kernel
theorem dX0_keyOf_103 : decode cX0_keyOf 103 = .ok (.iadd, 1) := by decide +kernel
theorem dX0_keyOf_104 : decode cX0_keyOf 104 = .ok (.ireturn, 1) := by decide +kernel
set_option maxRecDepth 20000 in
theorem b_X0_keyOf_0 {k n : Nat} {x : Wx} {Z : Zt} {Q : Option Value → Wx → Zt → Prop} {a0 : Nat} {a1 : Nat} {a0_field : Nat} (r_a0_field : x.2.1 a0 1 = some a0_field) (o_a0 : Is0 x a0) (o_a0_field : Is4 x a0_field) (o_a1 : Is6 x a1)
    (h : Rg (Z (a1 + 1) 0) ∧ (((0 < Z (a1 + 1) 0) → (((Z (a1 + 1) 0 ≠ 1) → (0 ≤ (0 : Int) ∧ (0 : Int) < 10 ∧ (0 ≤ (1 : Int) ∧ (1 : Int) < 10 ∧ (∀ i1 : Int, i1 = ((Z ((a1 + 1) + 1) (Int.toNat (0 : Int))) * (Z a0_field 0)) + (Z ((a1 + 1) + 1) (Int.toNat (1 : Int))) → (Q (some (i_ ((((1 + ((Z a0_field 0) * (Z a0_field 0))) + ((i1 * (Z a0_field 0)) * (Z a0_field 0))) + ((Z ((a1 + 3) + 1) (Int.toNat (1 : Int))) * (Z a0_field 0))) + (Z ((a1 + 3) + 1) (Int.toNat (0 : Int)))))) x Z))))) ∧ ((Z (a1 + 1) 0 = 1) → (0 ≤ (0 : Int) ∧ (0 : Int) < 10 ∧ (Q (some (i_ ((1 + ((Z ((a1 + 1) + 1) (Int.toNat (0 : Int))) * (Z a0_field 0))) + (Z ((a1 + 3) + 1) (Int.toNat (0 : Int)))))) x Z))))) ∧ ((Z (a1 + 1) 0 ≤ 0) → (Q (some (i_ 0)) x Z)))) :
    V mX0_keyOf k n 0 [some (r_ a0), some (r_ a1), none, none] [] x Z Q :=
  V_aload_n dX0_keyOf_0 rfl (G_0_1 o_a0.1 r_a0_field lf_0_12 dX0_keyOf_1 (G_4_0 o_a0_field.1 lf_0_181 dX0_keyOf_4 (V_istore_n (lv' := [some (r_ a0), some (r_ a1), some (i_ (Z a0_field 0)), none]) dX0_keyOf_7 (Nat.le_of_ble_eq_true rfl) rfl (V_aload_n dX0_keyOf_8 rfl (G_6_0 o_a1.1 o_a1.2.1 lf_0_130 dX0_keyOf_9 (G_7_0 o_a1.2.2.1.1 lf_0_133 dX0_keyOf_12 (V_if_gt (tgt := 20) dX0_keyOf_15 rfl h.1 (fun c1 => V_aload_n dX0_keyOf_20 rfl (G_6_0 o_a1.1 o_a1.2.1 lf_0_130 dX0_keyOf_21 (G_7_0 o_a1.2.2.1.1 lf_0_133 dX0_keyOf_24 (V_iconst dX0_keyOf_27 (V_icmp_ne (tgt := 53) dX0_keyOf_28 rfl h.1 (rg_c rfl) (fun c2 => V_aload_n dX0_keyOf_53 rfl (G_6_0 o_a1.1 o_a1.2.1 lf_0_130 dX0_keyOf_54 (V_iconst dX0_keyOf_57 (V_callV (k' := 0) (n' := 0) (t := 7) (q := (RX7, TX7, 2)) [i_ 0] [] okX7_at o_a1.2.2.1.1 rfl rfl lm_0_149 liX7_at lqX7_at (Nat.le_of_ble_eq_true rfl) (Nat.le_of_ble_eq_true rfl) (Nat.le_of_ble_eq_true rfl) (cat_of rfl) (Nat.le_of_ble_eq_true rfl) (Nat.zero_le _) (Nat.zero_le _) rfl dX0_keyOf_58 (sp_X7_at o_a1.2.2.1 ((h.2.1 c1).1 c2).1 ((h.2.1 c1).1 c2).2.1 (V_iload_n dX0_keyOf_61 rfl (V_imul dX0_keyOf_62 (V_aload_n dX0_keyOf_63 rfl (G_6_0 o_a1.1 o_a1.2.1 lf_0_130 dX0_keyOf_64 (V_iconst dX0_keyOf_67 (V_callV (k' := 0) (n' := 0) (t := 7) (q := (RX7, TX7, 2)) [i_ 1] [i_ ((Z ((a1 + 1) + 1) (Int.toNat (0 : Int))) * (Z a0_field 0))] okX7_at o_a1.2.2.1.1 rfl rfl lm_0_149 liX7_at lqX7_at (Nat.le_of_ble_eq_true rfl) (Nat.le_of_ble_eq_true rfl) (Nat.le_of_ble_eq_true rfl) (cat_of rfl) (Nat.le_of_ble_eq_true rfl) (Nat.zero_le _) (Nat.zero_le _) rfl dX0_keyOf_68 (sp_X7_at o_a1.2.2.1 ((h.2.1 c1).1 c2).2.2.1 ((h.2.1 c1).1 c2).2.2.2.1 (V_iadd dX0_keyOf_71 (V_nmi (fun i1 ei1 => V_istore_n (lv' := [some (r_ a0), some (r_ a1), some (i_ (Z a0_field 0)), some (i_ i1)]) dX0_keyOf_72 (Nat.le_of_ble_eq_true rfl) rfl (V_iconst dX0_keyOf_73 (V_iload_n dX0_keyOf_74 rfl (V_iload_n dX0_keyOf_75 rfl (V_imul dX0_keyOf_76 (V_iadd dX0_keyOf_77 (V_iload_n dX0_keyOf_78 rfl (V_iload_n dX0_keyOf_79 rfl (V_imul dX0_keyOf_80 (V_iload_n dX0_keyOf_81 rfl (V_imul dX0_keyOf_82 (V_iadd dX0_keyOf_83 (V_aload_n dX0_keyOf_84 rfl (G_6_1 o_a1.1 o_a1.2.2.2.1 lf_0_111 dX0_keyOf_85 (V_iconst dX0_keyOf_88 (V_callV (k' := 0) (n' := 0) (t := 7) (q := (RX7, TX7, 2)) [i_ 1] [i_ ((1 + ((Z a0_field 0) * (Z a0_field 0))) + ((i1 * (Z a0_field 0)) * (Z a0_field 0)))] okX7_at o_a1.2.2.2.2.1 rfl rfl lm_0_149 liX7_at lqX7_at (Nat.le_of_ble_eq_true rfl) (Nat.le_of_ble_eq_true rfl) (Nat.le_of_ble_eq_true rfl) (cat_of rfl) (Nat.le_of_ble_eq_true rfl) (Nat.zero_le _) (Nat.zero_le _) rfl dX0_keyOf_89 (sp_X7_at o_a1.2.2.2.2 ((h.2.1 c1).1 c2).2.2.1 ((h.2.1 c1).1 c2).2.2.2.1 (V_iload_n dX0_keyOf_92 rfl (V_imul dX0_keyOf_93 (V_iadd dX0_keyOf_94 (V_aload_n dX0_keyOf_95 rfl (G_6_1 o_a1.1 o_a1.2.2.2.1 lf_0_111 dX0_keyOf_96 (V_iconst dX0_keyOf_99 (V_callV (k' := 0) (n' := 0) (t := 7) (q := (RX7, TX7, 2)) [i_ 0] [i_ (((1 + ((Z a0_field 0) * (Z a0_field 0))) + ((i1 * (Z a0_field 0)) * (Z a0_field 0))) + ((Z ((a1 + 3) + 1) (Int.toNat (1 : Int))) * (Z a0_field 0)))] okX7_at o_a1.2.2.2.2.1 rfl rfl lm_0_149 liX7_at lqX7_at (Nat.le_of_ble_eq_true rfl) (Nat.le_of_ble_eq_true rfl) (Nat.le_of_ble_eq_true rfl) (cat_of rfl) (Nat.le_of_ble_eq_true rfl) (Nat.zero_le _) (Nat.zero_le _) rfl dX0_keyOf_100 (sp_X7_at o_a1.2.2.2.2 ((h.2.1 c1).1 c2).1 ((h.2.1 c1).1 c2).2.1 (V_iadd dX0_keyOf_103 (V_iret (ty := .int) dX0_keyOf_104 rfl rfl (((h.2.1 c1).1 c2).2.2.2.2 i1 ei1)))))))))))))))))))))))))))))))))))))))))) (fun c2 => V_iconst dX0_keyOf_31 (V_aload_n dX0_keyOf_32 rfl (G_6_0 o_a1.1 o_a1.2.1 lf_0_130 dX0_keyOf_33 (V_iconst dX0_keyOf_36 (V_callV (k' := 0) (n' := 0) (t := 7) (q := (RX7, TX7, 2)) [i_ 0] [i_ 1] okX7_at o_a1.2.2.1.1 rfl rfl lm_0_149 liX7_at lqX7_at (Nat.le_of_ble_eq_true rfl) (Nat.le_of_ble_eq_true rfl) (Nat.le_of_ble_eq_true rfl) (cat_of rfl) (Nat.le_of_ble_eq_true rfl) (Nat.zero_le _) (Nat.zero_le _) rfl dX0_keyOf_37 (sp_X7_at o_a1.2.2.1 ((h.2.1 c1).2 c2).1 ((h.2.1 c1).2 c2).2.1 (V_iload_n dX0_keyOf_40 rfl (V_imul dX0_keyOf_41 (V_iadd dX0_keyOf_42 (V_aload_n dX0_keyOf_43 rfl (G_6_1 o_a1.1 o_a1.2.2.2.1 lf_0_111 dX0_keyOf_44 (V_iconst dX0_keyOf_47 (V_callV (k' := 0) (n' := 0) (t := 7) (q := (RX7, TX7, 2)) [i_ 0] [i_ (1 + ((Z ((a1 + 1) + 1) (Int.toNat (0 : Int))) * (Z a0_field 0)))] okX7_at o_a1.2.2.2.2.1 rfl rfl lm_0_149 liX7_at lqX7_at (Nat.le_of_ble_eq_true rfl) (Nat.le_of_ble_eq_true rfl) (Nat.le_of_ble_eq_true rfl) (cat_of rfl) (Nat.le_of_ble_eq_true rfl) (Nat.zero_le _) (Nat.zero_le _) rfl dX0_keyOf_48 (sp_X7_at o_a1.2.2.2.2 ((h.2.1 c1).2 c2).1 ((h.2.1 c1).2 c2).2.1 (V_iadd dX0_keyOf_51 (V_iret (ty := .int) dX0_keyOf_52 rfl rfl ((h.2.1 c1).2 c2).2.2))))))))))))))))))))) (fun c1 => V_iconst dX0_keyOf_18 (V_iret (ty := .int) dX0_keyOf_19 rfl rfl (h.2.2 c1))))))))))
/-! ===== Classes: begun; keys ===== -/
/-- the world in which the classes at a take field and F of the curve c -/
def bgX (x : Wx) (a c : Nat) : Wx := (x.1, upR (upR x.2.1 a 1 (some (c + 1))) a 2 (some (c + 4)), x.2.2)
theorem bgX_ne (x : Wx) (a c : Nat) {b j : Nat} (h : ¬ (b = a ∧ (j = 1 ∨ j = 2))) : (bgX x a c).2.1 b j = x.2.1 b j := by
  show (if b = a ∧ j = 2 then _ else if b = a ∧ j = 1 then _ else x.2.1 b j) = _
  rw [if_neg (fun e => h ⟨e.1, Or.inr e.2⟩), if_neg (fun e => h ⟨e.1, Or.inl e.2⟩)]
theorem bgX_1 (x : Wx) (a c : Nat) : (bgX x a c).2.1 a 1 = some (c + 1) := by
  show (if a = a ∧ 1 = 2 then _ else if a = a ∧ 1 = 1 then _ else x.2.1 a 1) = _
  rw [if_neg (fun e => absurd e.2 (by decide)), if_pos ⟨rfl, rfl⟩]
theorem bgX_2 (x : Wx) (a c : Nat) : (bgX x a c).2.1 a 2 = some (c + 4) := by
  show (if a = a ∧ 2 = 2 then _ else _) = _
  rw [if_pos ⟨rfl, rfl⟩]
theorem sp_X0_begin {k n : Nat} {x : Wx} {Z : Zt} {Q : Option Value → Wx → Zt → Prop} {a c : Nat} (o : Is0 x a) (oc : Is2 x c) (hca : c + 16 ≤ a) (h : ∀ (x' : Wx) (Z' : Zt), (x' = bgX x a c ∧ (Z' a = fun i => if i = 0 then 0 else if i = 3 then Z c 2 else Z a i) ∧ Oth Z Z' (fun b => b = a)) → Q none x' Z') : V mX0_begin k n 0 [some (r_ a), some (r_ c)] [] x Z Q := by
  have key : ∀ (y : Wx), y.1 = x.1 → (∀ b j : Nat, ¬ (b = a ∧ (j = 1 ∨ j = 2)) → y.2.1 b j = x.2.1 b j) → Is2 y c ∧ Is0 y a := fun y h1 h2 => ⟨oc.mv h1 (fun b j g1 g2 _ => h2 b j (by omega)), o.mv h1 (fun b j g1 g2 g3 => h2 b j g3)⟩
  refine b_X0_begin_0 oc o fun x1 e1 => ?_
  have k1 := key x1 (by rw [e1]) (fun b j hb => by
    rw [e1]
    show (if b = a ∧ j = 1 then _ else x.2.1 b j) = _
    rw [if_neg (fun e => hb ⟨e.1, Or.inl e.2⟩)])
  refine ⟨k1.1, k1.2, fun x2 e2 => ?_⟩
  have e2' : x2 = bgX x a c := by rw [e2, e1]; rfl
  have k2 := key x2 (by rw [e2']; rfl) (fun b j hb => by rw [e2']; exact bgX_ne x a c hb)
  refine ⟨k2.1, k2.2, fun Z1 f1 Z2 f2 => h x2 Z2 ⟨e2', funext fun i => ?_, fun b hb => ?_⟩⟩
  · rw [f2, up_at]
    by_cases c0 : i = 0
    · rw [if_pos c0, if_pos c0]
    · rw [if_neg c0, if_neg c0, f1, up_at]
  · rw [f2, up_row _ _ _ _ _ hb, f1, up_row _ _ _ _ _ hb]
def uv1 (u v : Int) : UV := (fun j => if j = 0 then u else if j = 1 then 1 else 0, pcon v)
def uv2 (u0 u1 v0 v1 : Int) : UV := (fun j => if j = 0 then u0 else if j = 1 then u1 else if j = 2 then 1 else 0, fun j => if j = 0 then v0 else if j = 1 then v1 else 0)
def kyF (p : Int) (A : UV) : Int := if pd A.1 ≤ 0 then 0 else if pd A.1 = 1 then 1 + A.1 0 * p + A.2 0 else 1 + p * p + (A.1 0 * p + A.1 1) * p * p + A.2 1 * p + A.2 0
theorem uv1_ok {p g u v : Int} (hp : IsP p) (hg : 1 ≤ g) (hu : 0 ≤ u ∧ u < p) (hv : 0 ≤ v ∧ v < p) : RP p g (uv1 u v) ∧ pd (uv1 u v).1 = 1 := by
  have hpr := hp.rg
  have d1 : pd (uv1 u v).1 = 1 := pd_eq (m := 1) (by decide) (by show (1 : Int) ≠ 0; decide) (fun i hi => by show (if i = 0 then u else if i = 1 then (1 : Int) else 0) = 0; rw [if_neg (by omega), if_neg (by omega)])
  have d2 : pd (uv1 u v).2 ≤ 0 := pd_le (by decide) (fun i hi => by show pcon v i = 0; unfold pcon; rw [if_neg (by omega)])
  refine ⟨⟨⟨fun i => ?_, fun i hi => ?_⟩, ⟨fun i => ?_, fun i hi => ?_⟩, by omega, by omega, by omega, ?_⟩, d1⟩
  · show 0 ≤ (if i = 0 then u else if i = 1 then (1 : Int) else 0) ∧ (if i = 0 then u else if i = 1 then (1 : Int) else 0) < p
    split
    · exact hu
    · split <;> omega
  · show (if i = 0 then u else if i = 1 then (1 : Int) else 0) = 0
    rw [if_neg (by omega), if_neg (by omega)]
  · show 0 ≤ pcon v i ∧ pcon v i < p
    unfold pcon; split
    · exact hv
    · omega
  · show pcon v i = 0
    unfold pcon; rw [if_neg (by omega)]
  · rw [d1]; rfl
theorem uv2_ok {p u0 u1 v0 v1 : Int} (hp : IsP p) (h0 : 0 ≤ u0 ∧ u0 < p) (h1 : 0 ≤ u1 ∧ u1 < p) (g0 : 0 ≤ v0 ∧ v0 < p) (g1 : 0 ≤ v1 ∧ v1 < p) : RP p 2 (uv2 u0 u1 v0 v1) ∧ pd (uv2 u0 u1 v0 v1).1 = 2 := by
  have hpr := hp.rg
  have d1 : pd (uv2 u0 u1 v0 v1).1 = 2 := pd_eq (m := 2) (by decide) (by show (1 : Int) ≠ 0; decide) (fun i hi => by show (if i = 0 then u0 else if i = 1 then u1 else if i = 2 then (1 : Int) else 0) = 0; rw [if_neg (by omega), if_neg (by omega), if_neg (by omega)])
  have d2 : pd (uv2 u0 u1 v0 v1).2 ≤ 1 := pd_le (by decide) (fun i hi => by show (if i = 0 then v0 else if i = 1 then v1 else 0) = 0; rw [if_neg (by omega), if_neg (by omega)])
  refine ⟨⟨⟨fun i => ?_, fun i hi => ?_⟩, ⟨fun i => ?_, fun i hi => ?_⟩, by omega, by omega, by omega, ?_⟩, d1⟩
  · show 0 ≤ (if i = 0 then u0 else if i = 1 then u1 else if i = 2 then (1 : Int) else 0) ∧ (if i = 0 then u0 else if i = 1 then u1 else if i = 2 then (1 : Int) else 0) < p
    split
    · exact h0
    · split
      · exact h1
      · split <;> omega
  · show (if i = 0 then u0 else if i = 1 then u1 else if i = 2 then (1 : Int) else 0) = 0
    rw [if_neg (by omega), if_neg (by omega), if_neg (by omega)]
  · show 0 ≤ (if i = 0 then v0 else if i = 1 then v1 else (0 : Int)) ∧ (if i = 0 then v0 else if i = 1 then v1 else (0 : Int)) < p
    split
    · exact g0
    · split
      · exact g1
      · omega
  · show (if i = 0 then v0 else if i = 1 then v1 else (0 : Int)) = 0
    rw [if_neg (by omega), if_neg (by omega)]
  · rw [d1]; rfl
theorem ky_uv1 {p g u v : Int} (hp : IsP p) (hg : 1 ≤ g) (hu : 0 ≤ u ∧ u < p) (hv : 0 ≤ v ∧ v < p) : kyF p (uv1 u v) = 1 + u * p + v := by
  have := (uv1_ok hp hg hu hv).2
  unfold kyF
  rw [if_neg (by omega), if_pos this]; rfl
theorem ky_uv2 {p u0 u1 v0 v1 : Int} (hp : IsP p) (h0 : 0 ≤ u0 ∧ u0 < p) (h1 : 0 ≤ u1 ∧ u1 < p) (g0 : 0 ≤ v0 ∧ v0 < p) (g1 : 0 ≤ v1 ∧ v1 < p) : kyF p (uv2 u0 u1 v0 v1) = 1 + p * p + (u0 * p + u1) * p * p + v1 * p + v0 := by
  have := (uv2_ok hp h0 h1 g0 g1).2
  unfold kyF
  rw [if_neg (by omega), if_neg (by omega)]; rfl
theorem ky_0 (p : Int) : kyF p czero = 0 := by
  unfold kyF
  rw [if_pos (by show pd pone ≤ 0; decide)]
/-- what a class is -/
theorem RP.form {p g : Int} {A : UV} (hp : IsP p) (hg : g = 1 ∨ g = 2) (h : RP p g A) : A = czero ∨ (∃ u v : Int, (0 ≤ u ∧ u < p) ∧ (0 ≤ v ∧ v < p) ∧ A = uv1 u v) ∨ (g = 2 ∧ ∃ u0 u1 v0 v1 : Int, (0 ≤ u0 ∧ u0 < p) ∧ (0 ≤ u1 ∧ u1 < p) ∧ (0 ≤ v0 ∧ v0 < p) ∧ (0 ≤ v1 ∧ v1 < p) ∧ A = uv2 u0 u1 v0 v1) := by
  obtain ⟨⟨a1, a2⟩, ⟨b1, b2⟩, h1, h2, h3, h4⟩ := h
  have ua := pd_hi a2
  have vb := pd_hi b2
  have hge := pd_ge A.2
  have hc : pd A.1 = 0 ∨ pd A.1 = 1 ∨ pd A.1 = 2 := by omega
  rcases hc with e | e | e
  · left
    rw [e] at h3 h4
    refine Prod.ext (funext fun i => ?_) (funext fun i => ?_)
    · show A.1 i = if i = 0 then 1 else 0
      by_cases c : i = 0
      · rw [if_pos c, c]; exact h4
      · rw [if_neg c]; exact ua i (by omega)
    · exact vb i (by omega)
  · right; left
    rw [e] at h3 h4
    refine ⟨A.1 0, A.2 0, a1 0, b1 0, Prod.ext (funext fun i => ?_) (funext fun i => ?_)⟩
    · show A.1 i = if i = 0 then A.1 0 else if i = 1 then 1 else 0
      by_cases c : i = 0
      · rw [if_pos c, c]
      · rw [if_neg c]
        by_cases c1 : i = 1
        · rw [if_pos c1, c1]; exact h4
        · rw [if_neg c1]; exact ua i (by omega)
    · show A.2 i = pcon (A.2 0) i
      unfold pcon
      by_cases c : i = 0
      · rw [if_pos c, c]
      · rw [if_neg c]; exact vb i (by omega)
  · right; right
    rw [e] at h3 h4
    refine ⟨by omega, A.1 0, A.1 1, A.2 0, A.2 1, a1 0, a1 1, b1 0, b1 1, Prod.ext (funext fun i => ?_) (funext fun i => ?_)⟩
    · show A.1 i = if i = 0 then A.1 0 else if i = 1 then A.1 1 else if i = 2 then 1 else 0
      by_cases c : i = 0
      · rw [if_pos c, c]
      · rw [if_neg c]
        by_cases c1 : i = 1
        · rw [if_pos c1, c1]
        · rw [if_neg c1]
          by_cases c2 : i = 2
          · rw [if_pos c2, c2]; exact h4
          · rw [if_neg c2]; exact ua i (by omega)
    · show A.2 i = if i = 0 then A.2 0 else if i = 1 then A.2 1 else 0
      by_cases c : i = 0
      · rw [if_pos c, c]
      · rw [if_neg c]
        by_cases c1 : i = 1
        · rw [if_pos c1, c1]
        · rw [if_neg c1]; exact vb i (by omega)
theorem ky_rg {p g : Int} {A : UV} (hp : IsP p) (hg : g = 1 ∨ g = 2) (h : RP p g A) : 0 ≤ kyF p A ∧ kyF p A ≤ 100000 := by
  have hpr := hp.rg
  rcases h.form hp hg with e | ⟨u, v, hu, hv, e⟩ | ⟨_, u0, u1, v0, v1, h0, h1, g0, g1, e⟩
  · rw [e, ky_0]; decide
  · rw [e, ky_uv1 hp (g := 1) (by decide) hu hv]
    rcases hp with rfl | rfl | rfl | rfl | rfl <;> omega
  · rw [e, ky_uv2 hp h0 h1 g0 g1]
    rcases hp with rfl | rfl | rfl | rfl | rfl <;> omega
theorem sp_X0_keyOf {k n : Nat} {x : Wx} {Z : Zt} {Q : Option Value → Wx → Zt → Prop} {a b fl ff : Nat} (hX : CX x a fl ff) (ob : Is6 x b) {p g : Int} {F : Nat → Int} {A : UV} (hZ : CZ Z a fl ff p g F) (hA : RP p g A) (hb : PrA Z b p A.1 A.2) (h : Q (some (i_ (kyF p A))) x Z) : V mX0_keyOf k n 0 [some (r_ a), some (r_ b), none, none] [] x Z Q := by
  have hpr := hZ.1.1.rg
  have d1 := hb.1.deg
  have r1 := hb.1.dgr
  unfold kyF at h
  refine b_X0_keyOf_0 hX.1 hX.2.2.1 hX.2.2.2.1 ob ?_
  have e0 : Z fl 0 = p := hZ.2.2.1.1
  have u0 : Z (b + 1 + 1) (Int.toNat (0 : Int)) = A.1 0 := hb.1.1 0 (by decide)
  have u1 : Z (b + 1 + 1) (Int.toNat (1 : Int)) = A.1 1 := hb.1.1 1 (by decide)
  have v0 : Z (b + 3 + 1) (Int.toNat (0 : Int)) = A.2 0 := hb.2.1 0 (by decide)
  have v1 : Z (b + 3 + 1) (Int.toNat (1 : Int)) = A.2 1 := hb.2.1 1 (by decide)
  rw [d1] at r1
  rw [d1, e0, u0, u1, v0, v1]
  refine ⟨⟨by omega, by omega⟩, fun c1 => ⟨fun c2 => ⟨by decide, by decide, by decide, by decide, fun i1 e1 => ?_⟩, fun c2 => ⟨by decide, by decide, ?_⟩⟩, fun c1 => ?_⟩
  · rw [if_neg (by omega), if_neg c2] at h
    rw [e1]; exact h
  · rw [if_neg (by omega), if_pos c2] at h; exact h
  · rw [if_pos c1] at h; exact h
/-- the classes that are kept -/
def KyA (Z : Zt) (a : Nat) (p : Int) (L : List UV) : Prop := Z a 14 = ((min L.length 450 : Nat) : Int) ∧ ∀ i : Nat, i < min L.length 450 → Z (a + 50) i = kyF p (L.getD i czero)
theorem getD_ap {α : Type} {L M : List α} {d : α} {i : Nat} (h : i < L.length) : (L ++ M).getD i d = L.getD i d := by rw [List.getD_eq_getElem?_getD, List.getD_eq_getElem?_getD, List.getElem?_append_left h]
theorem sp_X0_keep {k n : Nat} {x : Wx} {Z : Zt} {Q : Option Value → Wx → Zt → Prop} {a : Nat} {v : Int} (o : Is0 x a) {p : Int} {L : List UV} {A : UV} (hK : KyA Z a p L) (hv : v = kyF p A) (h : ∀ Z' : Zt, (KyA Z' a p (L ++ [A]) ∧ (∀ i : Nat, i ≠ 14 → Z' a i = Z a i) ∧ Oth Z Z' (fun b => b = a ∨ b = a + 50)) → Q none x Z') : V mX0_keep k n 0 [some (r_ a), some (i_ v)] [] x Z Q := by
  have hl : (L ++ [A]).length = L.length + 1 := by rw [List.length_append]; rfl
  refine b_X0_keep_0 o ?_
  rw [hK.1, Int.toNat_natCast]
  refine ⟨⟨by omega, by omega⟩, fun c => h Z ⟨⟨?_, fun i hi => ?_⟩, fun _ _ => rfl, Oth.rf⟩, fun c => ⟨by omega, fun Z1 e1 Z2 e2 => h Z2 ⟨⟨?_, fun i hi => ?_⟩, fun i hi => ?_, fun b hb => ?_⟩⟩⟩
  · rw [hK.1, hl]; omega
  · rw [hl] at hi
    rw [hK.2 i (by omega), getD_ap (by omega)]
  · have e14 : Z1 a 14 = ((min L.length 450 : Nat) : Int) := by rw [e1, up_row _ _ _ _ _ (by omega)]; exact hK.1
    rw [e2, up_at, if_pos rfl, e14, hl]; omega
  · rw [hl] at hi
    rw [e2, up_row _ _ _ _ _ (by omega), e1, up_at]
    by_cases ci : i = min L.length 450
    · rw [if_pos ci, hv, ci, show min L.length 450 = L.length by omega]
      rw [List.getD_eq_getElem?_getD, List.getElem?_append_right (Nat.le_refl _), Nat.sub_self]; rfl
    · rw [if_neg ci, hK.2 i (by omega), getD_ap (by omega)]
  · rw [e2, up_at, if_neg hi, e1, up_row _ _ _ _ _ (by omega)]
  · rw [e2, up_row _ _ _ _ _ (by omega), e1, up_row _ _ _ _ _ (by omega)]
def gcdF : Nat → Int → Int → Int
  | 0, a, _ => max a 1
  | m + 1, a, b => if 0 < b then gcdF m b (a % b) else max a 1
theorem gcdF_rg : ∀ (m : Nat) (a b : Int), 0 ≤ a → a ≤ 1000 → 0 ≤ b → b ≤ 1000 → 1 ≤ gcdF m a b ∧ gcdF m a b ≤ 1000
  | 0, a, b, _, _, _, _ => by unfold gcdF; omega
  | m + 1, a, b, h1, h2, h3, h4 => by
    unfold gcdF
    by_cases c : 0 < b
    · rw [if_pos c]
      have := emr a c
      exact gcdF_rg m b (a % b) (by omega) h4 this.1 (by omega)
    · rw [if_neg c]; omega
theorem sp_X0_commonDivisor {k n : Nat} {x : Wx} {Z : Zt} {Q : Option Value → Wx → Zt → Prop} {u v : Int} (hu : 0 ≤ u ∧ u ≤ 1000) (hv : 0 ≤ v ∧ v ≤ 1000) (h : Q (some (i_ (gcdF 450 u v))) x Z) : V mX0_commonDivisor k n 0 [some (i_ u), some (i_ v), none, none, none, none] [] x Z Q := by
  have lp : ∀ (m : Nat) (w a b : Int), w + m = 450 → 0 ≤ w → 0 ≤ a ∧ a ≤ 1000 → 0 ≤ b ∧ b ≤ 1000 → gcdF m a b = gcdF 450 u v → V mX0_commonDivisor k n 7 [none, none, some (i_ a), some (i_ b), some (i_ w), none] [] x Z Q := by
    intro m
    induction m with
    | zero =>
      intro w a b hw h0 ha hb he
      have he' : max a 1 = gcdF 450 u v := he
      refine b_X0_commonDivisor_7 ⟨⟨by omega, by omega⟩, fun _ => b_X0_commonDivisor_35 ⟨⟨by omega, by omega⟩, by rw [he']; exact h⟩, fun c => by omega⟩
    | succ m ih =>
      intro w a b hw h0 ha hb he
      have he' : (if 0 < b then gcdF m b (a % b) else max a 1) = gcdF 450 u v := he
      refine b_X0_commonDivisor_7 ⟨⟨by omega, by omega⟩, fun c => by omega, fun _ => ⟨⟨by omega, by omega⟩, fun c => b_X0_commonDivisor_35 ⟨⟨by omega, by omega⟩, ?_⟩, fun c => ⟨⟨by omega, by omega⟩, ?_⟩⟩⟩
      · rw [if_neg (by omega)] at he'; rw [he']; exact h
      · rw [if_pos c] at he'
        have := emr a c
        rw [Int.tmod_eq_emod_of_nonneg ha.1]
        exact ih (w + 1) b (a % b) (by omega) (by omega) hb ⟨this.1, by omega⟩ he'
  exact b_X0_commonDivisor_0 (lp 450 0 u v (by omega) (by omega) hu hv rfl)
def mxO (O : Nat → Int) : Nat → Int
  | 0 => 1
  | m + 1 => max (mxO O m) (O m)
theorem mxO_rg {O : Nat → Int} : ∀ {m : Nat}, (∀ i : Nat, i < m → 0 ≤ O i ∧ O i ≤ 1000) → 1 ≤ mxO O m ∧ mxO O m ≤ 1000
  | 0, _ => ⟨by show (1 : Int) ≤ 1; decide, by show (1 : Int) ≤ 1000; decide⟩
  | m + 1, h => by
    have h1 := mxO_rg (m := m) (fun i hi => h i (by omega))
    have h2 := h m (by omega)
    unfold mxO; omega
theorem sp_X0_greatestOrder {k n : Nat} {x : Wx} {Z : Zt} {Q : Option Value → Wx → Zt → Prop} {a : Nat} (o : Is0 x a) {N : Nat} (hN : Z a 14 = (N : Int) ∧ N ≤ 450) (hO : ∀ i : Nat, i < N → 0 ≤ Z (a + 51) i ∧ Z (a + 51) i ≤ 1000) (h : Q (some (i_ (mxO (Z (a + 51)) N))) x Z) : V mX0_greatestOrder k n 0 [some (r_ a), none, none] [] x Z Q := by
  have lp : ∀ (m i : Nat) (v : Int), v = i → i + m = N → V mX0_greatestOrder k n 4 [some (r_ a), some (i_ (mxO (Z (a + 51)) i)), some (i_ v)] [] x Z Q := by
    intro m
    induction m with
    | zero =>
      intro i v hv hi
      refine b_X0_greatestOrder_4 o ?_
      rw [hN.1, show i = N by omega]
      exact ⟨⟨by omega, by omega⟩, ⟨by omega, by omega⟩, fun _ => h, fun c => by omega⟩
    | succ m ih =>
      intro i v hv hi
      have hm := mxO_rg (O := Z (a + 51)) (m := i) (fun j hj => hO j (by omega))
      have ho := hO i (by omega)
      refine b_X0_greatestOrder_4 o ?_
      rw [hN.1, show v.toNat = i by omega]
      exact ⟨⟨by omega, by omega⟩, ⟨by omega, by omega⟩, fun c => by omega, fun _ => ⟨by omega, by omega, ⟨by omega, by omega⟩, ⟨by omega, by omega⟩, ih (i + 1) (v + 1) (by omega) (by omega)⟩⟩
  exact b_X0_greatestOrder_0 (lp N 0 0 rfl (by omega))
def klO (O : Nat → Int) (d : Int) : Nat → Int
  | 0 => 0
  | m + 1 => klO O d m + (if 0 < O m ∧ d % O m = 0 then 1 else 0)
theorem sp_X0_killedBy {k n : Nat} {x : Wx} {Z : Zt} {Q : Option Value → Wx → Zt → Prop} {a : Nat} {d : Int} (o : Is0 x a) {N : Nat} (hN : Z a 14 = (N : Int) ∧ N ≤ 450) (hO : ∀ i : Nat, i < N → 0 ≤ Z (a + 51) i ∧ Z (a + 51) i ≤ 1000) (hd : 0 ≤ d ∧ d ≤ 1000) (h : Q (some (i_ (klO (Z (a + 51)) d N))) x Z) : V mX0_killedBy k n 0 [some (r_ a), some (i_ d), none, none] [] x Z Q := by
  have lp : ∀ (m i : Nat) (v : Int), v = i → i + m = N → V mX0_killedBy k n 4 [some (r_ a), some (i_ d), some (i_ (klO (Z (a + 51)) d i)), some (i_ v)] [] x Z Q := by
    intro m
    induction m with
    | zero =>
      intro i v hv hi
      refine b_X0_killedBy_4 o ?_
      rw [hN.1, show i = N by omega]
      exact ⟨⟨by omega, by omega⟩, ⟨by omega, by omega⟩, fun _ => h, fun c => by omega⟩
    | succ m ih =>
      intro i v hv hi
      have ho := hO i (by omega)
      have nx := ih (i + 1) (v + 1) (by omega) (by omega)
      unfold klO at nx
      refine b_X0_killedBy_4 o ?_
      rw [hN.1, show v.toNat = i by omega]
      refine ⟨⟨by omega, by omega⟩, ⟨by omega, by omega⟩, fun c => by omega, fun _ => ⟨by omega, by omega, ⟨by omega, by omega⟩, fun c => b_X0_killedBy_37 (b_X0_killedBy_38 ?_), fun c => ⟨⟨by omega, by omega⟩, ?_⟩⟩⟩
      · rw [if_neg (by omega)] at nx; exact nx
      · rw [Int.tmod_eq_emod_of_nonneg hd.1]
        have hm := emr d c
        refine ⟨⟨by omega, by omega⟩, fun c2 => b_X0_killedBy_37 (b_X0_killedBy_38 ?_), fun c2 => b_X0_killedBy_38 ?_⟩
        · rw [if_neg (fun e => c2 e.2)] at nx; exact nx
        · rw [if_pos ⟨c, c2⟩] at nx; exact nx
  exact b_X0_killedBy_0 (lp N 0 0 rfl (by omega))
/-- the place of a key among N that lie in their order -/
def bsr (K : Nat → Int) (key : Int) : Nat → Int → Int → Int
  | 0, _, _ => -1
  | m + 1, lo, hi => if hi < lo then -1 else if K ((lo + hi) / 2).toNat = key then (lo + hi) / 2 else if K ((lo + hi) / 2).toNat < key then bsr K key m ((lo + hi) / 2 + 1) hi else bsr K key m lo ((lo + hi) / 2 - 1)
theorem sp_X0_indexOfKey {k n : Nat} {x : Wx} {Z : Zt} {Q : Option Value → Wx → Zt → Prop} {a : Nat} {v : Int} (o : Is0 x a) {N : Nat} (hN : Z a 14 = (N : Int) ∧ N ≤ 450) (hK : ∀ i : Nat, i < N → Rg (Z (a + 50) i)) (hv : Rg v) (h : Q (some (i_ (bsr (Z (a + 50)) v N 0 ((N : Int) - 1)))) x Z) : V mX0_indexOfKey k n 0 [some (r_ a), some (i_ v), none, none, none, none] [] x Z Q := by
  have lp : ∀ (m : Nat) (w lo hi : Int), w + m = N → 0 ≤ w → 0 ≤ lo → lo ≤ N → hi < N → -1 ≤ hi → bsr (Z (a + 50)) v m lo hi = bsr (Z (a + 50)) v N 0 ((N : Int) - 1) → V mX0_indexOfKey k n 12 [some (r_ a), some (i_ v), some (i_ lo), some (i_ hi), some (i_ w), none] [] x Z Q := by
    intro m
    induction m with
    | zero =>
      intro w lo hi hw h0 h1 h2 h3 h4 he
      have he' : (-1 : Int) = bsr (Z (a + 50)) v N 0 ((N : Int) - 1) := he
      refine b_X0_indexOfKey_12 o ?_
      rw [hN.1]
      exact ⟨⟨by omega, by omega⟩, ⟨by omega, by omega⟩, fun _ => b_X0_indexOfKey_77 (by rw [he']; exact h), fun c => by omega⟩
    | succ m ih =>
      intro w lo hi hw h0 h1 h2 h3 h4 he
      have he' : (if hi < lo then -1 else if Z (a + 50) ((lo + hi) / 2).toNat = v then (lo + hi) / 2 else if Z (a + 50) ((lo + hi) / 2).toNat < v then bsr (Z (a + 50)) v m ((lo + hi) / 2 + 1) hi else bsr (Z (a + 50)) v m lo ((lo + hi) / 2 - 1)) = bsr (Z (a + 50)) v N 0 ((N : Int) - 1) := he
      refine b_X0_indexOfKey_12 o ?_
      rw [hN.1]
      refine ⟨⟨by omega, by omega⟩, ⟨by omega, by omega⟩, fun c => by omega, fun _ => ⟨⟨by omega, by omega⟩, ⟨by omega, by omega⟩, fun c => b_X0_indexOfKey_77 ?_, fun c => ⟨⟨by omega, by omega⟩, ?_⟩⟩⟩
      · rw [if_pos c] at he'; rw [he']; exact h
      · rw [if_neg (by omega)] at he'
        rw [Int.tdiv_eq_ediv_of_nonneg (by omega)]
        refine ⟨by omega, by omega, hK _ (by omega), hv, fun c2 => ⟨fun c3 => b_X0_indexOfKey_71 (ih (w + 1) lo _ (by omega) (by omega) h1 h2 (by omega) (by omega) ?_), fun c3 => b_X0_indexOfKey_71 (ih (w + 1) _ hi (by omega) (by omega) (by omega) (by omega) h3 h4 ?_)⟩, fun c2 => ?_⟩
        · rw [if_neg c2, if_neg (by omega)] at he'; exact he'
        · rw [if_neg c2, if_pos c3] at he'; exact he'
        · rw [if_pos c2] at he'; rw [he']; exact h
  exact b_X0_indexOfKey_0 o (by rw [hN.1]; exact lp N 0 0 _ (by omega) (by omega) (by omega) (by omega) (by omega) (by omega) rfl)
