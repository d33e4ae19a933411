/-! ===== the reference: rooms: under, series ===== -/
theorem dX12_isColumn_0 : decode cX12_isColumn 0 = .ok (.iload_n 1, 1) := by decide +kernel
theorem dX12_isColumn_1 : decode cX12_isColumn 1 = .ok (.iconst 2, 1) := by decide +kernel
theorem dX12_isColumn_2 : decode cX12_isColumn 2 = .ok (.irem, 1) := by decide +kernel
theorem dX12_isColumn_3 : decode cX12_isColumn 3 = .ok (.ifCond .eq 15, 3) := by decide +kernel
theorem dX12_isColumn_6 : decode cX12_isColumn 6 = .ok (.iload_n 1, 1) := by decide +kernel
theorem dX12_isColumn_7 : decode cX12_isColumn 7 = .ok (.iconst 2, 1) := by decide +kernel
theorem dX12_isColumn_8 : decode cX12_isColumn 8 = .ok (.aload_n 0, 1) := by decide +kernel
theorem dX12_isColumn_9 : decode cX12_isColumn 9 = .ok (.getfield 221, 3) := by decide +kernel
theorem dX12_isColumn_12 : decode cX12_isColumn 12 = .ok (.imul, 1) := by decide +kernel
theorem dX12_isColumn_13 : decode cX12_isColumn 13 = .ok (.iconst 1, 1) := by decide +kernel
theorem dX12_isColumn_14 : decode cX12_isColumn 14 = .ok (.iadd, 1) := by decide +kernel
theorem dX12_isColumn_15 : decode cX12_isColumn 15 = .ok (.if_icmp .lt 7, 3) := by decide +kernel
theorem dX12_isColumn_18 : decode cX12_isColumn 18 = .ok (.iconst 1, 1) := by decide +kernel
theorem dX12_isColumn_19 : decode cX12_isColumn 19 = .ok (.goto 4, 3) := by decide +kernel
theorem dX12_isColumn_22 : decode cX12_isColumn 22 = .ok (.iconst 0, 1) := by decide +kernel
theorem dX12_isColumn_23 : decode cX12_isColumn 23 = .ok (.ireturn, 1) := by decide +kernel
set_option maxRecDepth 20000 in
theorem b_X12_isColumn_0 {k n : Nat} {x : Wx} {Z : Zt} {Q : Option Value → Wx → Zt → Prop} {a0 : Nat} {v1 : Int} (o_a0 : Is12 x a0)
    (h : Rg v1 ∧ (Rg (Int.tmod v1 2) ∧ (((Int.tmod v1 2 = 0) → (V mX12_isColumn k n 18 [none, none] [] x Z Q)) ∧ ((Int.tmod v1 2 ≠ 0) → (Rg ((2 * (Z a0 12)) + 1) ∧ (((v1 < (2 * (Z a0 12)) + 1) → (Q (some (i_ 0)) x Z)) ∧ (((2 * (Z a0 12)) + 1 ≤ v1) → (V mX12_isColumn k n 18 [none, none] [] x Z Q)))))))) :
    V mX12_isColumn k n 0 [some (r_ a0), some (i_ v1)] [] x Z Q :=
  V_iload_n dX12_isColumn_0 rfl (V_iconst dX12_isColumn_1 (V_irem dX12_isColumn_2 h.1 (rg_c rfl) (by decide) (V_if_eq (tgt := 18) dX12_isColumn_3 rfl h.2.1 (fun c1 => V_msk [false, false] rfl (h.2.2.1 c1)) (fun c1 => V_iload_n dX12_isColumn_6 rfl (V_iconst dX12_isColumn_7 (V_aload_n dX12_isColumn_8 rfl (G_12_12 o_a0.1 lf_12_221 dX12_isColumn_9 (V_imul dX12_isColumn_12 (V_iconst dX12_isColumn_13 (V_iadd dX12_isColumn_14 (V_icmp_lt (tgt := 22) dX12_isColumn_15 rfl h.1 (h.2.2.2 c1).1 (fun c2 => V_iconst dX12_isColumn_22 (V_iret (ty := .boolean) dX12_isColumn_23 rfl rfl ((h.2.2.2 c1).2.1 c2))) (fun c2 => V_msk [false, false] rfl ((h.2.2.2 c1).2.2 c2)))))))))))))
set_option maxRecDepth 20000 in
theorem b_X12_isColumn_18 {k n : Nat} {x : Wx} {Z : Zt} {Q : Option Value → Wx → Zt → Prop}  
    (h : Q (some (i_ 1)) x Z) :
    V mX12_isColumn k n 18 [none, none] [] x Z Q :=
  V_iconst dX12_isColumn_18 (V_goto (tgt := 23) dX12_isColumn_19 rfl (V_iret (ty := .boolean) dX12_isColumn_23 rfl rfl h))
theorem dX12_undersBy_0 : decode cX12_undersBy 0 = .ok (.aload_n 0, 1) := by decide +kernel
theorem dX12_undersBy_1 : decode cX12_undersBy 1 = .ok (.getfield 303, 3) := by decide +kernel
theorem dX12_undersBy_4 : decode cX12_undersBy 4 = .ok (.iconst 1, 1) := by decide +kernel
theorem dX12_undersBy_5 : decode cX12_undersBy 5 = .ok (.iadd, 1) := by decide +kernel
theorem dX12_undersBy_6 : decode cX12_undersBy 6 = .ok (.istore_n 2, 1) := by decide +kernel
theorem dX12_undersBy_7 : decode cX12_undersBy 7 = .ok (.iload_n 2, 1) := by decide +kernel
theorem dX12_undersBy_8 : decode cX12_undersBy 8 = .ok (.ifCond .le 36, 3) := by decide +kernel
theorem dX12_undersBy_11 : decode cX12_undersBy 11 = .ok (.aload_n 0, 1) := by decide +kernel
theorem dX12_undersBy_12 : decode cX12_undersBy 12 = .ok (.getfield 45, 3) := by decide +kernel
theorem dX12_undersBy_15 : decode cX12_undersBy 15 = .ok (.iload_n 2, 1) := by decide +kernel
theorem dX12_undersBy_16 : decode cX12_undersBy 16 = .ok (.aload_n 0, 1) := by decide +kernel
theorem dX12_undersBy_17 : decode cX12_undersBy 17 = .ok (.aload_n 0, 1) := by decide +kernel
theorem dX12_undersBy_18 : decode cX12_undersBy 18 = .ok (.getfield 45, 3) := by decide +kernel
theorem dX12_undersBy_21 : decode cX12_undersBy 21 = .ok (.iload_n 2, 1) := by decide +kernel
theorem dX12_undersBy_22 : decode cX12_undersBy 22 = .ok (.iconst 1, 1) := by decide +kernel
theorem dX12_undersBy_23 : decode cX12_undersBy 23 = .ok (.isub, 1) := by decide +kernel
theorem dX12_undersBy_24 : decode cX12_undersBy 24 = .ok (.iaload, 1) := by decide +kernel
theorem dX12_undersBy_25 : decode cX12_undersBy 25 = .ok (.iload_n 1, 1) := by decide +kernel
theorem dX12_undersBy_26 : decode cX12_undersBy 26 = .ok (.aload_n 0, 1) := by decide +kernel
theorem dX12_undersBy_27 : decode cX12_undersBy 27 = .ok (.getfield 45, 3) := by decide +kernel
theorem dX12_undersBy_30 : decode cX12_undersBy 30 = .ok (.iload_n 2, 1) := by decide +kernel
theorem dX12_undersBy_31 : decode cX12_undersBy 31 = .ok (.iaload, 1) := by decide +kernel
theorem dX12_undersBy_32 : decode cX12_undersBy 32 = .ok (.imul, 1) := by decide +kernel
theorem dX12_undersBy_33 : decode cX12_undersBy 33 = .ok (.isub, 1) := by decide +kernel
theorem dX12_undersBy_34 : decode cX12_undersBy 34 = .ok (.invokevirtual 182, 3) := by decide +kernel
theorem dX12_undersBy_37 : decode cX12_undersBy 37 = .ok (.iastore, 1) := by decide +kernel
theorem dX12_undersBy_38 : decode cX12_undersBy 38 = .ok (.iinc 2 (-1), 3) := by decide +kernel
theorem dX12_undersBy_41 : decode cX12_undersBy 41 = .ok (.goto (-34), 3) := by decide +kernel
theorem dX12_undersBy_44 : decode cX12_undersBy 44 = .ok (.aload_n 0, 1) := by decide +kernel
theorem dX12_undersBy_45 : decode cX12_undersBy 45 = .ok (.getfield 45, 3) := by decide +kernel
theorem dX12_undersBy_48 : decode cX12_undersBy 48 = .ok (.iconst 0, 1) := by decide +kernel
theorem dX12_undersBy_49 : decode cX12_undersBy 49 = .ok (.aload_n 0, 1) := by decide +kernel
theorem dX12_undersBy_50 : decode cX12_undersBy 50 = .ok (.iload_n 1, 1) := by decide +kernel
theorem dX12_undersBy_51 : decode cX12_undersBy 51 = .ok (.ineg, 1) := by decide +kernel
theorem dX12_undersBy_52 : decode cX12_undersBy 52 = .ok (.aload_n 0, 1) := by decide +kernel
theorem dX12_undersBy_53 : decode cX12_undersBy 53 = .ok (.getfield 45, 3) := by decide +kernel
theorem dX12_undersBy_56 : decode cX12_undersBy 56 = .ok (.iconst 0, 1) := by decide +kernel
theorem dX12_undersBy_57 : decode cX12_undersBy 57 = .ok (.iaload, 1) := by decide +kernel
theorem dX12_undersBy_58 : decode cX12_undersBy 58 = .ok (.imul, 1) := by decide +kernel
theorem dX12_undersBy_59 : decode cX12_undersBy 59 = .ok (.invokevirtual 182, 3) := by decide +kernel
theorem dX12_undersBy_62 : decode cX12_undersBy 62 = .ok (.iastore, 1) := by decide +kernel
theorem dX12_undersBy_63 : decode cX12_undersBy 63 = .ok (.aload_n 0, 1) := by decide +kernel
theorem dX12_undersBy_64 : decode cX12_undersBy 64 = .ok (.dup, 1) := by decide +kernel
theorem dX12_undersBy_65 : decode cX12_undersBy 65 = .ok (.getfield 303, 3) := by decide +kernel
theorem dX12_undersBy_68 : decode cX12_undersBy 68 = .ok (.iconst 1, 1) := by decide +kernel
theorem dX12_undersBy_69 : decode cX12_undersBy 69 = .ok (.iadd, 1) := by decide +kernel
theorem dX12_undersBy_70 : decode cX12_undersBy 70 = .ok (.putfield 303, 3) := by decide +kernel
theorem dX12_undersBy_73 : decode cX12_undersBy 73 = .ok (.return_, 1) := by decide +kernel
set_option maxRecDepth 20000 in
theorem b_X12_undersBy_0 {k n : Nat} {x : Wx} {Z : Zt} {Q : Option Value → Wx → Zt → Prop} {a0 : Nat} {v1 : Int} (o_a0 : Is12 x a0)
    (h : V mX12_undersBy k n 7 [some (r_ a0), some (i_ v1), some (i_ ((Z a0 23) + 1))] [] x Z Q) :
    V mX12_undersBy k n 0 [some (r_ a0), some (i_ v1), none] [] x Z Q :=
  V_aload_n dX12_undersBy_0 rfl (G_12_23 o_a0.1 lf_12_303 dX12_undersBy_1 (V_iconst dX12_undersBy_4 (V_iadd dX12_undersBy_5 (V_istore_n (lv' := [some (r_ a0), some (i_ v1), some (i_ ((Z a0 23) + 1))]) dX12_undersBy_6 (Nat.le_of_ble_eq_true rfl) rfl (V_msk [true, true, true] rfl h)))))
set_option maxRecDepth 20000 in
theorem b_X12_undersBy_7 {k n : Nat} {x : Wx} {Z : Zt} {Q : Option Value → Wx → Zt → Prop} {a0 : Nat} {v1 : Int} {v2 : Int} (o_a0 : Is12 x a0)
    (h : Rg v2 ∧ (((v2 ≤ 0) → (Rg ((-v1) * (Z (a0 + 12) 0)) ∧ 0 < Z a0 11 ∧ Z a0 11 ≤ 13 ∧ (∀ Z1 : Zt, Z1 = up Z (a0 + 12) 0 (((-v1) * (Z (a0 + 12) 0)) % Z a0 11) → (∀ Z2 : Zt, Z2 = up Z1 a0 23 ((Z1 a0 23) + 1) → (Q none x Z2))))) ∧ ((0 < v2) → (0 ≤ v2 - 1 ∧ v2 - 1 < 96 ∧ (0 ≤ v2 ∧ v2 < 96 ∧ (Rg ((Z (a0 + 12) (v2 - 1).toNat) - (v1 * (Z (a0 + 12) v2.toNat))) ∧ 0 < Z a0 11 ∧ Z a0 11 ≤ 13 ∧ (∀ Z3 : Zt, Z3 = up Z (a0 + 12) v2.toNat (((Z (a0 + 12) (v2 - 1).toNat) - (v1 * (Z (a0 + 12) v2.toNat))) % Z a0 11) → (V mX12_undersBy k n 7 [some (r_ a0), some (i_ v1), some (i_ (v2 + (-1)))] [] x Z3 Q)))))))) :
    V mX12_undersBy k n 7 [some (r_ a0), some (i_ v1), some (i_ v2)] [] x Z Q :=
  V_iload_n dX12_undersBy_7 rfl (V_if_le (tgt := 44) dX12_undersBy_8 rfl h.1 (fun c1 => V_aload_n dX12_undersBy_44 rfl (G_12_22 o_a0.1 o_a0.qR22 lf_12_45 dX12_undersBy_45 (V_iconst dX12_undersBy_48 (V_aload_n dX12_undersBy_49 rfl (V_iload_n dX12_undersBy_50 rfl (V_ineg dX12_undersBy_51 (V_aload_n dX12_undersBy_52 rfl (G_12_22 o_a0.1 o_a0.qR22 lf_12_45 dX12_undersBy_53 (V_iconst dX12_undersBy_56 (V_iald (t := 100) o_a0.qK22 (by decide) rfl (by decide) (by decide) (Nat.le_of_ble_eq_true rfl) dX12_undersBy_57 (V_imul dX12_undersBy_58 (V_callV (k' := 0) (n' := 0) (t := 12) (q := (RX12, TX12, 46)) [i_ ((-v1) * (Z (a0 + 12) 0))] [i_ 0, r_ (a0 + 12)] okX12_mod o_a0.1 rfl rfl lm_12_182 liX12_mod lqX12_mod (Nat.le_of_ble_eq_true rfl) (Nat.le_of_ble_eq_true rfl) (Nat.le_of_ble_eq_true rfl) (cat_of rfl) (Nat.le_of_ble_eq_true rfl) (Nat.zero_le _) (Nat.zero_le _) rfl dX12_undersBy_59 (sp_X12_mod o_a0 (h.2.1 c1).1 (h.2.1 c1).2.1 (h.2.1 c1).2.2.1 (V_iast (t := 100) o_a0.qK22 (by decide) (by decide) rfl (by decide) (by decide) (Nat.le_of_ble_eq_true rfl) dX12_undersBy_62 (V_nmZ (fun Z1 eZ1 => V_aload_n dX12_undersBy_63 rfl (V_dup dX12_undersBy_64 rfl (G_12_23 o_a0.1 lf_12_303 dX12_undersBy_65 (V_iconst dX12_undersBy_68 (V_iadd dX12_undersBy_69 (P_12_23 o_a0.1 lf_12_303 dX12_undersBy_70 (V_nmZ (fun Z2 eZ2 => V_ret dX12_undersBy_73 rfl (((h.2.1 c1).2.2.2 Z1 eZ1) Z2 eZ2)))))))))))))))))))))))) (fun c1 => V_aload_n dX12_undersBy_11 rfl (G_12_22 o_a0.1 o_a0.qR22 lf_12_45 dX12_undersBy_12 (V_iload_n dX12_undersBy_15 rfl (V_aload_n dX12_undersBy_16 rfl (V_aload_n dX12_undersBy_17 rfl (G_12_22 o_a0.1 o_a0.qR22 lf_12_45 dX12_undersBy_18 (V_iload_n dX12_undersBy_21 rfl (V_iconst dX12_undersBy_22 (V_isub dX12_undersBy_23 (V_iald (t := 100) o_a0.qK22 (by decide) rfl (h.2.2 c1).1 (h.2.2 c1).2.1 (Nat.le_of_ble_eq_true rfl) dX12_undersBy_24 (V_iload_n dX12_undersBy_25 rfl (V_aload_n dX12_undersBy_26 rfl (G_12_22 o_a0.1 o_a0.qR22 lf_12_45 dX12_undersBy_27 (V_iload_n dX12_undersBy_30 rfl (V_iald (t := 100) o_a0.qK22 (by decide) rfl (h.2.2 c1).2.2.1 (h.2.2 c1).2.2.2.1 (Nat.le_of_ble_eq_true rfl) dX12_undersBy_31 (V_imul dX12_undersBy_32 (V_isub dX12_undersBy_33 (V_callV (k' := 0) (n' := 0) (t := 12) (q := (RX12, TX12, 46)) [i_ ((Z (a0 + 12) (v2 - 1).toNat) - (v1 * (Z (a0 + 12) v2.toNat)))] [i_ v2, r_ (a0 + 12)] okX12_mod o_a0.1 rfl rfl lm_12_182 liX12_mod lqX12_mod (Nat.le_of_ble_eq_true rfl) (Nat.le_of_ble_eq_true rfl) (Nat.le_of_ble_eq_true rfl) (cat_of rfl) (Nat.le_of_ble_eq_true rfl) (Nat.zero_le _) (Nat.zero_le _) rfl dX12_undersBy_34 (sp_X12_mod o_a0 (h.2.2 c1).2.2.2.2.1 (h.2.2 c1).2.2.2.2.2.1 (h.2.2 c1).2.2.2.2.2.2.1 (V_iast (t := 100) o_a0.qK22 (by decide) (by decide) rfl (h.2.2 c1).2.2.1 (h.2.2 c1).2.2.2.1 (Nat.le_of_ble_eq_true rfl) dX12_undersBy_37 (V_nmZ (fun Z3 eZ3 => V_iinc (lv' := [some (r_ a0), some (i_ v1), some (i_ (v2 + (-1)))]) dX12_undersBy_38 rfl (Nat.le_of_ble_eq_true rfl) rfl (V_goto (tgt := 7) dX12_undersBy_41 rfl (V_msk [true, true, true] rfl ((h.2.2 c1).2.2.2.2.2.2.2 Z3 eZ3))))))))))))))))))))))))))
theorem dX12_belows_0 : decode cX12_belows 0 = .ok (.aload_n 0, 1) := by decide +kernel
theorem dX12_belows_1 : decode cX12_belows 1 = .ok (.iconst 0, 1) := by decide +kernel
theorem dX12_belows_2 : decode cX12_belows 2 = .ok (.iload_n 1, 1) := by decide +kernel
theorem dX12_belows_3 : decode cX12_belows 3 = .ok (.invokevirtual 230, 3) := by decide +kernel
theorem dX12_belows_6 : decode cX12_belows 6 = .ok (.ifCond .ne 33, 3) := by decide +kernel
theorem dX12_belows_9 : decode cX12_belows 9 = .ok (.aload_n 0, 1) := by decide +kernel
theorem dX12_belows_10 : decode cX12_belows 10 = .ok (.getfield 39, 3) := by decide +kernel
theorem dX12_belows_13 : decode cX12_belows 13 = .ok (.bipush 13, 2) := by decide +kernel
theorem dX12_belows_15 : decode cX12_belows 15 = .ok (.iload_n 1, 1) := by decide +kernel
theorem dX12_belows_16 : decode cX12_belows 16 = .ok (.imul, 1) := by decide +kernel
theorem dX12_belows_17 : decode cX12_belows 17 = .ok (.iaload, 1) := by decide +kernel
theorem dX12_belows_18 : decode cX12_belows 18 = .ok (.ifCond .le 19, 3) := by decide +kernel
theorem dX12_belows_21 : decode cX12_belows 21 = .ok (.aload_n 0, 1) := by decide +kernel
theorem dX12_belows_22 : decode cX12_belows 22 = .ok (.getfield 39, 3) := by decide +kernel
theorem dX12_belows_25 : decode cX12_belows 25 = .ok (.bipush 13, 2) := by decide +kernel
theorem dX12_belows_27 : decode cX12_belows 27 = .ok (.iload_n 1, 1) := by decide +kernel
theorem dX12_belows_28 : decode cX12_belows 28 = .ok (.imul, 1) := by decide +kernel
theorem dX12_belows_29 : decode cX12_belows 29 = .ok (.iaload, 1) := by decide +kernel
theorem dX12_belows_30 : decode cX12_belows 30 = .ok (.iconst 1, 1) := by decide +kernel
theorem dX12_belows_31 : decode cX12_belows 31 = .ok (.iadd, 1) := by decide +kernel
theorem dX12_belows_32 : decode cX12_belows 32 = .ok (.iconst 2, 1) := by decide +kernel
theorem dX12_belows_33 : decode cX12_belows 33 = .ok (.idiv, 1) := by decide +kernel
theorem dX12_belows_34 : decode cX12_belows 34 = .ok (.goto 4, 3) := by decide +kernel
theorem dX12_belows_37 : decode cX12_belows 37 = .ok (.iconst 0, 1) := by decide +kernel
theorem dX12_belows_38 : decode cX12_belows 38 = .ok (.ireturn, 1) := by decide +kernel
theorem dX12_belows_39 : decode cX12_belows 39 = .ok (.iconst 0, 1) := by decide +kernel
theorem dX12_belows_40 : decode cX12_belows 40 = .ok (.istore_n 2, 1) := by decide +kernel
theorem dX12_belows_41 : decode cX12_belows 41 = .ok (.iconst 1, 1) := by decide +kernel
theorem dX12_belows_42 : decode cX12_belows 42 = .ok (.istore_n 3, 1) := by decide +kernel
theorem dX12_belows_43 : decode cX12_belows 43 = .ok (.iload_n 3, 1) := by decide +kernel
theorem dX12_belows_44 : decode cX12_belows 44 = .ok (.aload_n 0, 1) := by decide +kernel
theorem dX12_belows_45 : decode cX12_belows 45 = .ok (.getfield 179, 3) := by decide +kernel
theorem dX12_belows_48 : decode cX12_belows 48 = .ok (.if_icmp .ge 56, 3) := by decide +kernel
theorem dX12_belows_51 : decode cX12_belows 51 = .ok (.aload_n 0, 1) := by decide +kernel
theorem dX12_belows_52 : decode cX12_belows 52 = .ok (.iload_n 3, 1) := by decide +kernel
theorem dX12_belows_53 : decode cX12_belows 53 = .ok (.iload_n 3, 1) := by decide +kernel
theorem dX12_belows_54 : decode cX12_belows 54 = .ok (.imul, 1) := by decide +kernel
theorem dX12_belows_55 : decode cX12_belows 55 = .ok (.invokevirtual 182, 3) := by decide +kernel
theorem dX12_belows_58 : decode cX12_belows 58 = .ok (.aload_n 0, 1) := by decide +kernel
theorem dX12_belows_59 : decode cX12_belows 59 = .ok (.iconst 0, 1) := by decide +kernel
theorem dX12_belows_60 : decode cX12_belows 60 = .ok (.iload_n 1, 1) := by decide +kernel
theorem dX12_belows_61 : decode cX12_belows 61 = .ok (.invokevirtual 230, 3) := by decide +kernel
theorem dX12_belows_64 : decode cX12_belows 64 = .ok (.if_icmp .ne 34, 3) := by decide +kernel
theorem dX12_belows_67 : decode cX12_belows 67 = .ok (.aload_n 0, 1) := by decide +kernel
theorem dX12_belows_68 : decode cX12_belows 68 = .ok (.getfield 39, 3) := by decide +kernel
theorem dX12_belows_71 : decode cX12_belows 71 = .ok (.bipush 13, 2) := by decide +kernel
theorem dX12_belows_73 : decode cX12_belows 73 = .ok (.iload_n 1, 1) := by decide +kernel
theorem dX12_belows_74 : decode cX12_belows 74 = .ok (.imul, 1) := by decide +kernel
theorem dX12_belows_75 : decode cX12_belows 75 = .ok (.iload_n 3, 1) := by decide +kernel
theorem dX12_belows_76 : decode cX12_belows 76 = .ok (.iadd, 1) := by decide +kernel
theorem dX12_belows_77 : decode cX12_belows 77 = .ok (.iaload, 1) := by decide +kernel
theorem dX12_belows_78 : decode cX12_belows 78 = .ok (.iload_n 2, 1) := by decide +kernel
theorem dX12_belows_79 : decode cX12_belows 79 = .ok (.if_icmp .le 17, 3) := by decide +kernel
theorem dX12_belows_82 : decode cX12_belows 82 = .ok (.aload_n 0, 1) := by decide +kernel
theorem dX12_belows_83 : decode cX12_belows 83 = .ok (.getfield 39, 3) := by decide +kernel
theorem dX12_belows_86 : decode cX12_belows 86 = .ok (.bipush 13, 2) := by decide +kernel
theorem dX12_belows_88 : decode cX12_belows 88 = .ok (.iload_n 1, 1) := by decide +kernel
theorem dX12_belows_89 : decode cX12_belows 89 = .ok (.imul, 1) := by decide +kernel
theorem dX12_belows_90 : decode cX12_belows 90 = .ok (.iload_n 3, 1) := by decide +kernel
theorem dX12_belows_91 : decode cX12_belows 91 = .ok (.iadd, 1) := by decide +kernel
theorem dX12_belows_92 : decode cX12_belows 92 = .ok (.iaload, 1) := by decide +kernel
theorem dX12_belows_93 : decode cX12_belows 93 = .ok (.goto 4, 3) := by decide +kernel
theorem dX12_belows_96 : decode cX12_belows 96 = .ok (.iload_n 2, 1) := by decide +kernel
theorem dX12_belows_97 : decode cX12_belows 97 = .ok (.istore_n 2, 1) := by decide +kernel
theorem dX12_belows_98 : decode cX12_belows 98 = .ok (.iinc 3 1, 3) := by decide +kernel
theorem dX12_belows_101 : decode cX12_belows 101 = .ok (.goto (-58), 3) := by decide +kernel
theorem dX12_belows_104 : decode cX12_belows 104 = .ok (.iload_n 2, 1) := by decide +kernel
theorem dX12_belows_105 : decode cX12_belows 105 = .ok (.ireturn, 1) := by decide +kernel
set_option maxRecDepth 20000 in
theorem b_X12_belows_0 {k n : Nat} {x : Wx} {Z : Zt} {Q : Option Value → Wx → Zt → Prop} {a0 : Nat} {v1 : Int} (o_a0 : Is12 x a0)
    (h : ∃ g1 : Nat → Nat → Int, (∃ g2 : Int, ((IsP g2 ∧ Z a0 11 = g2) ∧ MS Z a0 g1 ∧ (0 ≤ (0 : Int) ∧ (0 : Int) < 27) ∧ (0 ≤ v1 ∧ v1 ≤ 13) ∧ InP g2 (g1 (0 : Int).toNat) ∧ (Rg (ev g2 (g1 (0 : Int).toNat) v1) ∧ (((ev g2 (g1 (0 : Int).toNat) v1 ≠ 0) → (V mX12_belows k n 43 [some (r_ a0), some (i_ v1), some (i_ 0), some (i_ 1)] [] x Z Q)) ∧ ((ev g2 (g1 (0 : Int).toNat) v1 = 0) → (0 ≤ 13 * v1 ∧ 13 * v1 < 169 ∧ (Rg (Z (a0 + 10) (13 * v1).toNat) ∧ (((Z (a0 + 10) (13 * v1).toNat ≤ 0) → (Q (some (i_ 0)) x Z)) ∧ ((0 < Z (a0 + 10) (13 * v1).toNat) → (Rg ((Z (a0 + 10) (13 * v1).toNat) + 1) ∧ (Q (some (i_ (Int.tdiv ((Z (a0 + 10) (13 * v1).toNat) + 1) 2))) x Z)))))))))))) :
    V mX12_belows k n 0 [some (r_ a0), some (i_ v1), none, none] [] x Z Q :=
  V_aload_n dX12_belows_0 rfl (V_iconst dX12_belows_1 (V_iload_n dX12_belows_2 rfl (Exists.elim h (fun g1 w1 => Exists.elim w1 (fun g2 w2 => V_callV (k' := 0) (n' := 0) (t := 12) (q := (RX12, TX12, 46)) [i_ 0, i_ v1] [] okX12_value o_a0.1 rfl rfl lm_12_230 liX12_value lqX12_value (Nat.le_of_ble_eq_true rfl) (Nat.le_of_ble_eq_true rfl) (Nat.le_of_ble_eq_true rfl) (cat_of rfl) (Nat.le_of_ble_eq_true rfl) (Nat.zero_le _) (Nat.zero_le _) rfl dX12_belows_3 (sp_X12_value o_a0 w2.1 w2.2.1 w2.2.2.1 w2.2.2.2.1 w2.2.2.2.2.1 (V_if_ne (tgt := 39) dX12_belows_6 rfl w2.2.2.2.2.2.1 (fun c1 => V_iconst dX12_belows_39 (V_istore_n (lv' := [some (r_ a0), some (i_ v1), some (i_ 0), none]) dX12_belows_40 (Nat.le_of_ble_eq_true rfl) rfl (V_iconst dX12_belows_41 (V_istore_n (lv' := [some (r_ a0), some (i_ v1), some (i_ 0), some (i_ 1)]) dX12_belows_42 (Nat.le_of_ble_eq_true rfl) rfl (V_msk [true, true, true, true] rfl (w2.2.2.2.2.2.2.1 c1)))))) (fun c1 => V_aload_n dX12_belows_9 rfl (G_12_19 o_a0.1 o_a0.qR19 lf_12_39 dX12_belows_10 (V_bipush dX12_belows_13 rfl (V_iload_n dX12_belows_15 rfl (V_imul dX12_belows_16 (V_iald (t := 100) o_a0.qK19 (by decide) rfl (w2.2.2.2.2.2.2.2 c1).1 (w2.2.2.2.2.2.2.2 c1).2.1 (Nat.le_of_ble_eq_true rfl) dX12_belows_17 (V_if_le (tgt := 37) dX12_belows_18 rfl (w2.2.2.2.2.2.2.2 c1).2.2.1 (fun c2 => V_iconst dX12_belows_37 (V_iret (ty := .int) dX12_belows_38 rfl rfl ((w2.2.2.2.2.2.2.2 c1).2.2.2.1 c2))) (fun c2 => V_aload_n dX12_belows_21 rfl (G_12_19 o_a0.1 o_a0.qR19 lf_12_39 dX12_belows_22 (V_bipush dX12_belows_25 rfl (V_iload_n dX12_belows_27 rfl (V_imul dX12_belows_28 (V_iald (t := 100) o_a0.qK19 (by decide) rfl (w2.2.2.2.2.2.2.2 c1).1 (w2.2.2.2.2.2.2.2 c1).2.1 (Nat.le_of_ble_eq_true rfl) dX12_belows_29 (V_iconst dX12_belows_30 (V_iadd dX12_belows_31 (V_iconst dX12_belows_32 (V_idiv dX12_belows_33 ((w2.2.2.2.2.2.2.2 c1).2.2.2.2 c2).1 (rg_c rfl) (by decide) (V_goto (tgt := 38) dX12_belows_34 rfl (V_iret (ty := .int) dX12_belows_38 rfl rfl ((w2.2.2.2.2.2.2.2 c1).2.2.2.2 c2).2))))))))))))))))))))))))))
set_option maxRecDepth 20000 in
theorem b_X12_belows_43 {k n : Nat} {x : Wx} {Z : Zt} {Q : Option Value → Wx → Zt → Prop} {a0 : Nat} {v1 : Int} {v2 : Int} {v3 : Int} (o_a0 : Is12 x a0)
    (h : Rg v3 ∧ Rg (Z a0 11) ∧ (((Z a0 11 ≤ v3) → (Q (some (i_ v2)) x Z)) ∧ ((v3 < Z a0 11) → (Rg (v3 * v3) ∧ 0 < Z a0 11 ∧ Z a0 11 ≤ 13 ∧ (∃ g1 : Nat → Nat → Int, (∃ g2 : Int, ((IsP g2 ∧ Z a0 11 = g2) ∧ MS Z a0 g1 ∧ (0 ≤ (0 : Int) ∧ (0 : Int) < 27) ∧ (0 ≤ v1 ∧ v1 ≤ 13) ∧ InP g2 (g1 (0 : Int).toNat) ∧ (Rg ((v3 * v3) % Z a0 11) ∧ Rg (ev g2 (g1 (0 : Int).toNat) v1) ∧ ((((v3 * v3) % Z a0 11 ≠ ev g2 (g1 (0 : Int).toNat) v1) → (V mX12_belows k n 98 [some (r_ a0), some (i_ v1), some (i_ v2), some (i_ v3)] [] x Z Q)) ∧ (((v3 * v3) % Z a0 11 = ev g2 (g1 (0 : Int).toNat) v1) → (0 ≤ (13 * v1) + v3 ∧ (13 * v1) + v3 < 169 ∧ (Rg (Z (a0 + 10) ((13 * v1) + v3).toNat) ∧ Rg v2 ∧ (((Z (a0 + 10) ((13 * v1) + v3).toNat ≤ v2) → (V mX12_belows k n 97 [some (r_ a0), some (i_ v1), none, some (i_ v3)] [i_ v2] x Z Q)) ∧ ((v2 < Z (a0 + 10) ((13 * v1) + v3).toNat) → (V mX12_belows k n 97 [some (r_ a0), some (i_ v1), none, some (i_ v3)] [i_ (Z (a0 + 10) ((13 * v1) + v3).toNat)] x Z Q))))))))))))))) :
    V mX12_belows k n 43 [some (r_ a0), some (i_ v1), some (i_ v2), some (i_ v3)] [] x Z Q :=
  V_iload_n dX12_belows_43 rfl (V_aload_n dX12_belows_44 rfl (G_12_11 o_a0.1 lf_12_179 dX12_belows_45 (V_icmp_ge (tgt := 104) dX12_belows_48 rfl h.1 h.2.1 (fun c1 => V_iload_n dX12_belows_104 rfl (V_iret (ty := .int) dX12_belows_105 rfl rfl (h.2.2.1 c1))) (fun c1 => V_aload_n dX12_belows_51 rfl (V_iload_n dX12_belows_52 rfl (V_iload_n dX12_belows_53 rfl (V_imul dX12_belows_54 (V_callV (k' := 0) (n' := 0) (t := 12) (q := (RX12, TX12, 46)) [i_ (v3 * v3)] [] okX12_mod o_a0.1 rfl rfl lm_12_182 liX12_mod lqX12_mod (Nat.le_of_ble_eq_true rfl) (Nat.le_of_ble_eq_true rfl) (Nat.le_of_ble_eq_true rfl) (cat_of rfl) (Nat.le_of_ble_eq_true rfl) (Nat.zero_le _) (Nat.zero_le _) rfl dX12_belows_55 (sp_X12_mod o_a0 (h.2.2.2 c1).1 (h.2.2.2 c1).2.1 (h.2.2.2 c1).2.2.1 (V_aload_n dX12_belows_58 rfl (V_iconst dX12_belows_59 (V_iload_n dX12_belows_60 rfl (Exists.elim (h.2.2.2 c1).2.2.2 (fun g1 w1 => Exists.elim w1 (fun g2 w2 => V_callV (k' := 0) (n' := 0) (t := 12) (q := (RX12, TX12, 46)) [i_ 0, i_ v1] [i_ ((v3 * v3) % Z a0 11)] okX12_value o_a0.1 rfl rfl lm_12_230 liX12_value lqX12_value (Nat.le_of_ble_eq_true rfl) (Nat.le_of_ble_eq_true rfl) (Nat.le_of_ble_eq_true rfl) (cat_of rfl) (Nat.le_of_ble_eq_true rfl) (Nat.zero_le _) (Nat.zero_le _) rfl dX12_belows_61 (sp_X12_value o_a0 w2.1 w2.2.1 w2.2.2.1 w2.2.2.2.1 w2.2.2.2.2.1 (V_icmp_ne (tgt := 98) dX12_belows_64 rfl w2.2.2.2.2.2.1 w2.2.2.2.2.2.2.1 (fun c2 => V_msk [true, true, true, true] rfl (w2.2.2.2.2.2.2.2.1 c2)) (fun c2 => V_aload_n dX12_belows_67 rfl (G_12_19 o_a0.1 o_a0.qR19 lf_12_39 dX12_belows_68 (V_bipush dX12_belows_71 rfl (V_iload_n dX12_belows_73 rfl (V_imul dX12_belows_74 (V_iload_n dX12_belows_75 rfl (V_iadd dX12_belows_76 (V_iald (t := 100) o_a0.qK19 (by decide) rfl (w2.2.2.2.2.2.2.2.2 c2).1 (w2.2.2.2.2.2.2.2.2 c2).2.1 (Nat.le_of_ble_eq_true rfl) dX12_belows_77 (V_iload_n dX12_belows_78 rfl (V_icmp_le (tgt := 96) dX12_belows_79 rfl (w2.2.2.2.2.2.2.2.2 c2).2.2.1 (w2.2.2.2.2.2.2.2.2 c2).2.2.2.1 (fun c3 => V_iload_n dX12_belows_96 rfl (V_msk [true, true, false, true] rfl ((w2.2.2.2.2.2.2.2.2 c2).2.2.2.2.1 c3))) (fun c3 => V_aload_n dX12_belows_82 rfl (G_12_19 o_a0.1 o_a0.qR19 lf_12_39 dX12_belows_83 (V_bipush dX12_belows_86 rfl (V_iload_n dX12_belows_88 rfl (V_imul dX12_belows_89 (V_iload_n dX12_belows_90 rfl (V_iadd dX12_belows_91 (V_iald (t := 100) o_a0.qK19 (by decide) rfl (w2.2.2.2.2.2.2.2.2 c2).1 (w2.2.2.2.2.2.2.2.2 c2).2.1 (Nat.le_of_ble_eq_true rfl) dX12_belows_92 (V_goto (tgt := 97) dX12_belows_93 rfl (V_msk [true, true, false, true] rfl ((w2.2.2.2.2.2.2.2.2 c2).2.2.2.2.2 c3))))))))))))))))))))))))))))))))))))))
set_option maxRecDepth 20000 in
theorem b_X12_belows_97 {k n : Nat} {x : Wx} {Z : Zt} {Q : Option Value → Wx → Zt → Prop} {a0 : Nat} {v1 : Int} {v3 : Int} {t0 : Int} 
    (h : V mX12_belows k n 98 [some (r_ a0), some (i_ v1), some (i_ t0), some (i_ v3)] [] x Z Q) :
    V mX12_belows k n 97 [some (r_ a0), some (i_ v1), none, some (i_ v3)] [i_ t0] x Z Q :=
  V_istore_n (lv' := [some (r_ a0), some (i_ v1), some (i_ t0), some (i_ v3)]) dX12_belows_97 (Nat.le_of_ble_eq_true rfl) rfl (V_msk [true, true, true, true] rfl h)
set_option maxRecDepth 20000 in
theorem b_X12_belows_98 {k n : Nat} {x : Wx} {Z : Zt} {Q : Option Value → Wx → Zt → Prop} {a0 : Nat} {v1 : Int} {v2 : Int} {v3 : Int} 
    (h : V mX12_belows k n 43 [some (r_ a0), some (i_ v1), some (i_ v2), some (i_ (v3 + 1))] [] x Z Q) :
    V mX12_belows k n 98 [some (r_ a0), some (i_ v1), some (i_ v2), some (i_ v3)] [] x Z Q :=
  V_iinc (lv' := [some (r_ a0), some (i_ v1), some (i_ v2), some (i_ (v3 + 1))]) dX12_belows_98 rfl (Nat.le_of_ble_eq_true rfl) rfl (V_goto (tgt := 43) dX12_belows_101 rfl (V_msk [true, true, true, true] rfl h))
theorem sp_X12_isColumn {k n : Nat} {x : Wx} {Z : Zt} {Q : Option Value → Wx → Zt → Prop} {b : Nat} {v : Int} (o : Is12 x b) {g : Nat} (hg : Z b 12 = (g : Int) ∧ g ≤ 2) (hv : 0 ≤ v ∧ v ≤ 100) (h : ∀ r : Int, ((r = 0 ∧ (v.toNat % 2 = 1 ∧ v.toNat < 2 * g + 1)) ∨ (r = 1 ∧ ¬ (v.toNat % 2 = 1 ∧ v.toNat < 2 * g + 1))) → Q (some (i_ r)) x Z) : V mX12_isColumn k n 0 [some (r_ b), some (i_ v)] [] x Z Q := by
  have e : Int.tmod v 2 = v % 2 := Int.tmod_eq_emod_of_nonneg hv.1
  refine b_X12_isColumn_0 o ?_
  rw [e, hg.1]
  exact ⟨⟨by omega, by omega⟩, ⟨by omega, by omega⟩, fun c => b_X12_isColumn_18 (h 1 (Or.inr ⟨rfl, by omega⟩)), fun c => ⟨⟨by omega, by omega⟩, fun c2 => h 0 (Or.inl ⟨rfl, by omega⟩), fun c2 => b_X12_isColumn_18 (h 1 (Or.inr ⟨rfl, by omega⟩))⟩⟩
/-- UNDER lies there -/
def MU (Z : Zt) (b : Nat) (u : Un) : Prop := Z b 23 = (u.1 : Int) ∧ ∀ i : Nat, i < 96 → Z (b + 12) i = u.2 i
def UnOk (p : Int) (u : Un) : Prop := InP p u.2 ∧ ∀ i : Nat, u.1 < i → u.2 i = 0
def UF (b : Nat) (Z Z' : Zt) : Prop := (∀ c, c ≠ b → c ≠ b + 12 → Z' c = Z c) ∧ ∀ i : Nat, i ≠ 23 → Z' b i = Z b i
theorem UF.rf {b : Nat} {Z : Zt} : UF b Z Z := ⟨fun _ _ _ => rfl, fun _ _ => rfl⟩
theorem UF.tr {b : Nat} {Z Z1 Z2 : Zt} (h : UF b Z Z1) (g : UF b Z1 Z2) : UF b Z Z2 := ⟨fun c h1 h2 => (g.1 c h1 h2).trans (h.1 c h1 h2), fun i hi => (g.2 i hi).trans (h.2 i hi)⟩
theorem unS_ok {p X : Int} (hp : 0 < p) {u : Un} (h : UnOk p u) : UnOk p (u.1 + 1, unS p X u.2) := by
  refine ⟨fun i => ?_, fun i hi => ?_⟩
  · show 0 ≤ unS p X u.2 i ∧ unS p X u.2 i < p
    unfold unS
    split <;> exact emr _ hp
  · have hi : u.1 + 1 < i := hi
    show unS p X u.2 i = 0
    unfold unS
    rw [if_neg (by omega), h.2 (i - 1) (by omega), h.2 i (by omega), Int.mul_zero, Int.sub_zero, Int.zero_emod]
theorem sp_X12_undersBy {k n : Nat} {x : Wx} {Z : Zt} {Q : Option Value → Wx → Zt → Prop} {b : Nat} {X : Int} (o : Is12 x b) {p : Int} {u : Un} (hp : IsP p ∧ Z b 11 = p) (hU : MU Z b u) (hk : UnOk p u ∧ u.1 ≤ 90) (hX : 0 ≤ X ∧ X < p) (h : ∀ Z' : Zt, (MU Z' b (u.1 + 1, unS p X u.2) ∧ UF b Z Z') → Q none x Z') : V mX12_undersBy k n 0 [some (r_ b), some (i_ X), none] [] x Z Q := by
  obtain ⟨hp, hb⟩ := hp
  have hpr := hp.rg
  obtain ⟨⟨h23, h12⟩, ⟨⟨iU, zU⟩, hu⟩⟩ := (⟨hU, hk⟩ : MU Z b u ∧ UnOk p u ∧ u.1 ≤ 90)
  have lp : ∀ (m : Nat) (Z1 : Zt), m ≤ u.1 + 1 → UF b Z Z1 → Z1 b 23 = (u.1 : Int) → (∀ i : Nat, i < 96 → Z1 (b + 12) i = if m < i then unS p X u.2 i else u.2 i) → V mX12_undersBy k n 7 [some (r_ b), some (i_ X), some (i_ (m : Int))] [] x Z1 Q := by
    intro m
    induction m with
    | zero =>
      intro Z1 hm hf h1 h2
      have b1 : Z1 b 11 = p := by rw [hf.2 11 (by decide)]; exact hb
      have e0 : Z1 (b + 12) 0 = u.2 0 := by rw [h2 0 (by decide), if_neg (by omega)]
      have i0 := iU 0
      have q := mul_bd (t := -X) (c := 13) (B := u.2 0) (by omega) (by omega)
      refine b_X12_undersBy_7 o ?_
      rw [e0, b1]
      refine ⟨⟨by omega, by omega⟩, fun _ => ⟨⟨by omega, by omega⟩, by omega, by omega, fun Z2 e2 Z3 e3 => h Z3 ⟨⟨?_, fun i hi => ?_⟩, hf.tr ⟨fun c c1 c2 => ?_, fun i hi => ?_⟩⟩⟩, fun c => by omega⟩
      · rw [e3, up_self, e2, up_row _ _ _ _ _ (by omega), h1]; show (u.1 : Int) + 1 = ((u.1 + 1 : Nat) : Int); omega
      · rw [e3, up_row _ _ _ _ _ (by omega), e2, up_at]
        show _ = unS p X u.2 i
        by_cases c : i = 0
        · rw [if_pos c, c]; unfold unS; rw [if_pos rfl]
        · rw [if_neg c, h2 i hi, if_pos (by omega)]
      · rw [e3, up_row _ _ _ _ _ c1, e2, up_row _ _ _ _ _ c2]
      · rw [e3, up_at, if_neg hi, e2, up_row _ _ _ _ _ (by omega)]
    | succ m ih =>
      intro Z1 hm hf h1 h2
      have b1 : Z1 b 11 = p := by rw [hf.2 11 (by decide)]; exact hb
      have e0 : Z1 (b + 12) (((m + 1 : Nat) : Int) - 1).toNat = u.2 m := by rw [show (((m + 1 : Nat) : Int) - 1).toNat = m from by omega, h2 m (by omega), if_neg (by omega)]
      have e1 : Z1 (b + 12) ((m + 1 : Nat) : Int).toNat = u.2 (m + 1) := by rw [Int.toNat_natCast, h2 (m + 1) (by omega), if_neg (by omega)]
      have i0 := iU m
      have i1 := iU (m + 1)
      have q := mul13 (a := X) (b := u.2 (m + 1)) (by omega) (by omega)
      refine b_X12_undersBy_7 o ?_
      rw [e0, e1, b1]
      refine ⟨⟨by omega, by omega⟩, fun c => by omega, fun _ => ⟨by omega, by omega, by omega, by omega, ⟨by omega, by omega⟩, by omega, by omega, fun Z2 e2 => ?_⟩⟩
      rw [Int.toNat_natCast] at e2
      rw [show ((m + 1 : Nat) : Int) + (-1) = (m : Int) from by omega]
      refine ih Z2 (by omega) (hf.tr ⟨fun c _ c2 => by rw [e2, up_row _ _ _ _ _ c2], fun i _ => by rw [e2, up_row _ _ _ _ _ (by omega)]⟩) (by rw [e2, up_row _ _ _ _ _ (by omega)]; exact h1) (fun i hi => ?_)
      rw [e2, up_at]
      by_cases c : i = m + 1
      · rw [if_pos c, if_pos (by omega), c]; unfold unS; rw [if_neg (by omega), show m + 1 - 1 = m from by omega]
      · rw [if_neg c, h2 i hi]
        by_cases c2 : m + 1 < i
        · rw [if_pos c2, if_pos (by omega)]
        · rw [if_neg c2, if_neg (by omega)]
  have := lp (u.1 + 1) Z (Nat.le_refl _) UF.rf h23 (fun i hi => by
    rw [h12 i hi]
    by_cases c : u.1 + 1 < i
    · rw [if_pos c, zU i (by omega)]
      unfold unS
      rw [if_neg (by omega), zU (i - 1) (by omega), zU i (by omega), Int.mul_zero, Int.sub_zero, Int.zero_emod]
    · rw [if_neg c])
  refine b_X12_undersBy_0 o ?_
  rw [h23, show (u.1 : Int) + 1 = ((u.1 + 1 : Nat) : Int) from by omega]
  exact this
/-- how deep the POINTS over X lie -/
def mDy (p v : Int) (O : Nat → Int) (X : Int) : Nat → Int → Int → Int
  | 0, _, n => n
  | m + 1, y, n => mDy p v O X m (y + 1) (if y * y % p = v then (if n < O (13 * X + y).toNat then O (13 * X + y).toNat else n) else n)
def mDp (p : Int) (F O : Nat → Int) (X : Int) : Int := if ev p F X = 0 then (if 0 < O (13 * X).toNat then Int.tdiv (O (13 * X).toNat + 1) 2 else 0) else mDy p (ev p F X) O X (p.toNat - 1) 1 0
def ORg (O : Nat → Int) : Prop := ∀ j : Nat, j < 169 → -40 ≤ O j ∧ O j ≤ 40
theorem mDy_rg {p v : Int} {O : Nat → Int} {X : Int} (hO : ORg O) (hX : 0 ≤ X ∧ X ≤ 12) : ∀ (m : Nat) (y n : Int), 0 ≤ y → y + m ≤ 13 → 0 ≤ n ∧ n ≤ 40 → n ≤ mDy p v O X m y n ∧ mDy p v O X m y n ≤ 40
  | 0, _, n, _, _, h => ⟨Int.le_refl _, h.2⟩
  | m + 1, y, n, h0, h1, h => by
    unfold mDy
    have hj := hO (13 * X + y).toNat (by omega)
    have := mDy_rg (p := p) (v := v) hO hX m (y + 1) (if y * y % p = v then (if n < O (13 * X + y).toNat then O (13 * X + y).toNat else n) else n) (by omega) (by omega) (by split; split; omega; omega; omega)
    split at this
    · split at this
      · rw [if_pos (by assumption), if_pos (by assumption)]; omega
      · rw [if_pos (by assumption), if_neg (by assumption)]; omega
    · rw [if_neg (by assumption)]; omega
theorem mDy_ge {p v : Int} {O : Nat → Int} {X : Int} (hO : ORg O) (hX : 0 ≤ X ∧ X ≤ 12) {z : Int} (hz : z * z % p = v) : ∀ (m : Nat) (y n : Int), 0 ≤ y → y + m ≤ 13 → 0 ≤ n ∧ n ≤ 40 → y ≤ z → z < y + m → O (13 * X + z).toNat ≤ mDy p v O X m y n
  | 0, _, n, _, _, _, h1, h2 => by omega
  | m + 1, y, n, h0, h1, h, h2, h3 => by
    unfold mDy
    have hj := hO (13 * X + y).toNat (by omega)
    have hb : 0 ≤ (if y * y % p = v then (if n < O (13 * X + y).toNat then O (13 * X + y).toNat else n) else n) ∧ (if y * y % p = v then (if n < O (13 * X + y).toNat then O (13 * X + y).toNat else n) else n) ≤ 40 := by
      split
      · split <;> omega
      · omega
    by_cases c : y = z
    · have h5 := (mDy_rg (p := p) (v := v) hO hX m (y + 1) _ (by omega) (by omega) hb).1
      rw [if_pos (by rw [c]; exact hz)] at h5 ⊢
      rw [← c]
      split at h5
      · rw [if_pos (by assumption)]; omega
      · rw [if_neg (by assumption)]; omega
    · exact mDy_ge hO hX hz m (y + 1) _ (by omega) (by omega) hb (by omega) (by omega)
theorem mDp_rg {p : Int} (hp : IsP p) {F O : Nat → Int} {X : Int} (hO : ORg O) (hX : 0 ≤ X ∧ X < p) : 0 ≤ mDp p F O X ∧ mDp p F O X ≤ 40 := by
  have hpr := hp.rg
  unfold mDp
  split
  · have := hO (13 * X).toNat (by omega)
    split
    · rw [Int.tdiv_eq_ediv_of_nonneg (by omega)]; omega
    · omega
  · have := mDy_rg (p := p) (v := ev p F X) hO (X := X) (by omega) (p.toNat - 1) 1 0 (by omega) (by omega) (by omega)
    omega
theorem sp_X12_belows {k n : Nat} {x : Wx} {Z : Zt} {Q : Option Value → Wx → Zt → Prop} {b : Nat} {X : Int} (o : Is12 x b) {p fr : Int} {F O D : Nat → Int} (hF : MF Z b p F) (hS : MSq Z b fr O D) (hO : ORg O) (hX : 0 ≤ X ∧ X < p) (h : Q (some (i_ (mDp p F O X))) x Z) : V mX12_belows k n 0 [some (r_ b), some (i_ X), none, none] [] x Z Q := by
  obtain ⟨hMC, hCF, P, mP, p0⟩ := hF
  have hp := hCF.1
  have hpr := hp.rg
  have iF := hCF.2.1
  have b11 := hMC.1.1
  have hv := ev_rg (p := p) (by omega) F X
  have t0 : (0 : Int).toNat = 0 := rfl
  have lp : ∀ (m : Nat) (y n' : Int), 1 ≤ y → y + m = p → 0 ≤ n' ∧ n' ≤ 40 → (mDy p (ev p F X) O X m y n' = mDp p F O X) → V mX12_belows k n 43 [some (r_ b), some (i_ X), some (i_ n'), some (i_ y)] [] x Z Q := by
    intro m
    induction m with
    | zero =>
      intro y n' hy hm hn he
      have he : n' = mDp p F O X := he
      refine b_X12_belows_43 o ?_
      rw [b11]
      exact ⟨⟨by omega, by omega⟩, ⟨by omega, by omega⟩, fun _ => by rw [he]; exact h, fun c => by omega⟩
    | succ m ih =>
      intro y n' hy hm hn he
      unfold mDy at he
      have q := mul13 (a := y) (b := y) (by omega) (by omega)
      have q2 := emr (y * y) (show 0 < p by omega)
      have hj := hO (13 * X + y).toNat (by omega)
      refine b_X12_belows_43 o ?_
      rw [b11]
      refine ⟨⟨by omega, by omega⟩, ⟨by omega, by omega⟩, fun c => by omega, fun _ => ⟨⟨by omega, by omega⟩, by omega, by omega, P, p, ⟨hp, rfl⟩, mP, by decide, by omega, by rw [t0, p0]; exact iF, ?_⟩⟩
      rw [t0, p0]
      refine ⟨⟨by omega, by omega⟩, ⟨by omega, by omega⟩, fun c => b_X12_belows_98 (ih (y + 1) n' (by omega) (by omega) hn ?_), fun c => ⟨by omega, by omega, ?_⟩⟩
      · rw [if_neg c] at he; exact he
      · rw [hS.2.1 _ (by omega)]
        rw [if_pos c] at he
        refine ⟨⟨by omega, by omega⟩, ⟨by omega, by omega⟩, fun c2 => b_X12_belows_97 (b_X12_belows_98 (ih (y + 1) n' (by omega) (by omega) hn ?_)), fun c2 => b_X12_belows_97 (b_X12_belows_98 (ih (y + 1) _ (by omega) (by omega) (by omega) ?_))⟩
        · rw [if_neg (by omega)] at he; exact he
        · rw [if_pos c2] at he; exact he
  refine b_X12_belows_0 o ⟨P, p, ⟨hp, b11⟩, mP, by decide, by omega, by rw [t0, p0]; exact iF, ?_⟩
  rw [t0, p0]
  refine ⟨⟨by omega, by omega⟩, fun c => lp (p.toNat - 1) 1 0 (by omega) (by omega) (by omega) ?_, fun c => ⟨by omega, by omega, ?_⟩⟩
  · unfold mDp; rw [if_neg c]
  · unfold mDp at h
    rw [if_pos c] at h
    have hj := hO (13 * X).toNat (by omega)
    rw [hS.2.1 _ (by omega)]
    refine ⟨⟨by omega, by omega⟩, fun c2 => ?_, fun c2 => ⟨⟨by omega, by omega⟩, ?_⟩⟩
    · rw [if_neg (by omega)] at h; exact h
    · rw [if_pos c2] at h; exact h
theorem dX12_wantsAt_0 : decode cX12_wantsAt 0 = .ok (.aload_n 0, 1) := by decide +kernel
theorem dX12_wantsAt_1 : decode cX12_wantsAt 1 = .ok (.iload_n 1, 1) := by decide +kernel
theorem dX12_wantsAt_2 : decode cX12_wantsAt 2 = .ok (.invokevirtual 312, 3) := by decide +kernel
theorem dX12_wantsAt_5 : decode cX12_wantsAt 5 = .ok (.istore_n 2, 1) := by decide +kernel
theorem dX12_wantsAt_6 : decode cX12_wantsAt 6 = .ok (.iconst 0, 1) := by decide +kernel
theorem dX12_wantsAt_7 : decode cX12_wantsAt 7 = .ok (.istore_n 3, 1) := by decide +kernel
theorem dX12_wantsAt_8 : decode cX12_wantsAt 8 = .ok (.iload_n 3, 1) := by decide +kernel
theorem dX12_wantsAt_9 : decode cX12_wantsAt 9 = .ok (.iload_n 2, 1) := by decide +kernel
theorem dX12_wantsAt_10 : decode cX12_wantsAt 10 = .ok (.if_icmp .ge 14, 3) := by decide +kernel
theorem dX12_wantsAt_13 : decode cX12_wantsAt 13 = .ok (.aload_n 0, 1) := by decide +kernel
theorem dX12_wantsAt_14 : decode cX12_wantsAt 14 = .ok (.iload_n 1, 1) := by decide +kernel
theorem dX12_wantsAt_15 : decode cX12_wantsAt 15 = .ok (.invokevirtual 315, 3) := by decide +kernel
theorem dX12_wantsAt_18 : decode cX12_wantsAt 18 = .ok (.iinc 3 1, 3) := by decide +kernel
theorem dX12_wantsAt_21 : decode cX12_wantsAt 21 = .ok (.goto (-13), 3) := by decide +kernel
theorem dX12_wantsAt_24 : decode cX12_wantsAt 24 = .ok (.return_, 1) := by decide +kernel
set_option maxRecDepth 20000 in
theorem b_X12_wantsAt_0 {k n : Nat} {x : Wx} {Z : Zt} {Q : Option Value → Wx → Zt → Prop} {a0 : Nat} {v1 : Int} (o_a0 : Is12 x a0)
    (h : ∃ g1 : Int, (∃ g2 : Int, (∃ g3 : Nat → Int, (∃ g4 : Nat → Int, (∃ g5 : Nat → Int, (MF Z a0 g1 g3 ∧ MSq Z a0 g2 g4 g5 ∧ ORg g4 ∧ (0 ≤ v1 ∧ v1 < g1) ∧ (V mX12_wantsAt k n 8 [some (r_ a0), some (i_ v1), some (i_ (mDp g1 g3 g4 v1)), some (i_ 0)] [] x Z Q))))))) :
    V mX12_wantsAt k n 0 [some (r_ a0), some (i_ v1), none, none] [] x Z Q :=
  V_aload_n dX12_wantsAt_0 rfl (V_iload_n dX12_wantsAt_1 rfl (Exists.elim h (fun g1 w1 => Exists.elim w1 (fun g2 w2 => Exists.elim w2 (fun g3 w3 => Exists.elim w3 (fun g4 w4 => Exists.elim w4 (fun g5 w5 => V_callV (k' := 0) (n' := 0) (t := 12) (q := (RX12, TX12, 46)) [i_ v1] [] okX12_belows o_a0.1 rfl rfl lm_12_312 liX12_belows lqX12_belows (Nat.le_of_ble_eq_true rfl) (Nat.le_of_ble_eq_true rfl) (Nat.le_of_ble_eq_true rfl) (cat_of rfl) (Nat.le_of_ble_eq_true rfl) (Nat.zero_le _) (Nat.zero_le _) rfl dX12_wantsAt_2 (sp_X12_belows o_a0 w5.1 w5.2.1 w5.2.2.1 w5.2.2.2.1 (V_istore_n (lv' := [some (r_ a0), some (i_ v1), some (i_ (mDp g1 g3 g4 v1)), none]) dX12_wantsAt_5 (Nat.le_of_ble_eq_true rfl) rfl (V_iconst dX12_wantsAt_6 (V_istore_n (lv' := [some (r_ a0), some (i_ v1), some (i_ (mDp g1 g3 g4 v1)), some (i_ 0)]) dX12_wantsAt_7 (Nat.le_of_ble_eq_true rfl) rfl (V_msk [true, true, true, true] rfl w5.2.2.2.2))))))))))))
set_option maxRecDepth 20000 in
theorem b_X12_wantsAt_8 {k n : Nat} {x : Wx} {Z : Zt} {Q : Option Value → Wx → Zt → Prop} {a0 : Nat} {v1 : Int} {v2 : Int} {v3 : Int} (o_a0 : Is12 x a0)
    (h : Rg v3 ∧ Rg v2 ∧ (((v2 ≤ v3) → (Q none x Z)) ∧ ((v3 < v2) → (∃ g1 : Int, (∃ g2 : Un, ((IsP g1 ∧ Z a0 11 = g1) ∧ MU Z a0 g2 ∧ (UnOk g1 g2 ∧ g2.1 ≤ 90) ∧ (0 ≤ v1 ∧ v1 < g1) ∧ (∀ (Z'1 : Zt), (MU Z'1 a0 (g2.1 + 1, unS g1 v1 g2.2) ∧ UF a0 Z Z'1) → (V mX12_wantsAt k n 8 [some (r_ a0), some (i_ v1), some (i_ v2), some (i_ (v3 + 1))] [] x Z'1 Q)))))))) :
    V mX12_wantsAt k n 8 [some (r_ a0), some (i_ v1), some (i_ v2), some (i_ v3)] [] x Z Q :=
  V_iload_n dX12_wantsAt_8 rfl (V_iload_n dX12_wantsAt_9 rfl (V_icmp_ge (tgt := 24) dX12_wantsAt_10 rfl h.1 h.2.1 (fun c1 => V_ret dX12_wantsAt_24 rfl (h.2.2.1 c1)) (fun c1 => V_aload_n dX12_wantsAt_13 rfl (V_iload_n dX12_wantsAt_14 rfl (Exists.elim (h.2.2.2 c1) (fun g1 w1 => Exists.elim w1 (fun g2 w2 => V_callV (k' := 0) (n' := 0) (t := 12) (q := (RX12, TX12, 46)) [i_ v1] [] okX12_undersBy o_a0.1 rfl rfl lm_12_315 liX12_undersBy lqX12_undersBy (Nat.le_of_ble_eq_true rfl) (Nat.le_of_ble_eq_true rfl) (Nat.le_of_ble_eq_true rfl) (cat_of rfl) (Nat.le_of_ble_eq_true rfl) (Nat.zero_le _) (Nat.zero_le _) rfl dX12_wantsAt_15 (sp_X12_undersBy o_a0 w2.1 w2.2.1 w2.2.2.1 w2.2.2.2.1 (fun Z'1 p1 => V_iinc (lv' := [some (r_ a0), some (i_ v1), some (i_ v2), some (i_ (v3 + 1))]) dX12_wantsAt_18 rfl (Nat.le_of_ble_eq_true rfl) rfl (V_goto (tgt := 8) dX12_wantsAt_21 rfl (V_msk [true, true, true, true] rfl (w2.2.2.2.2 Z'1 p1))))))))))))
theorem dX12_seriesAt_0 : decode cX12_seriesAt 0 = .ok (.iconst 0, 1) := by decide +kernel
theorem dX12_seriesAt_1 : decode cX12_seriesAt 1 = .ok (.istore 4, 2) := by decide +kernel
theorem dX12_seriesAt_3 : decode cX12_seriesAt 3 = .ok (.iload 4, 2) := by decide +kernel
theorem dX12_seriesAt_5 : decode cX12_seriesAt 5 = .ok (.bipush 96, 2) := by decide +kernel
theorem dX12_seriesAt_7 : decode cX12_seriesAt 7 = .ok (.if_icmp .ge 17, 3) := by decide +kernel
theorem dX12_seriesAt_10 : decode cX12_seriesAt 10 = .ok (.aload_n 0, 1) := by decide +kernel
theorem dX12_seriesAt_11 : decode cX12_seriesAt 11 = .ok (.getfield 60, 3) := by decide +kernel
theorem dX12_seriesAt_14 : decode cX12_seriesAt 14 = .ok (.iload 4, 2) := by decide +kernel
theorem dX12_seriesAt_16 : decode cX12_seriesAt 16 = .ok (.iconst 0, 1) := by decide +kernel
theorem dX12_seriesAt_17 : decode cX12_seriesAt 17 = .ok (.iastore, 1) := by decide +kernel
theorem dX12_seriesAt_18 : decode cX12_seriesAt 18 = .ok (.iinc 4 1, 3) := by decide +kernel
theorem dX12_seriesAt_21 : decode cX12_seriesAt 21 = .ok (.goto (-18), 3) := by decide +kernel
theorem dX12_seriesAt_24 : decode cX12_seriesAt 24 = .ok (.aload_n 0, 1) := by decide +kernel
theorem dX12_seriesAt_25 : decode cX12_seriesAt 25 = .ok (.iconst 0, 1) := by decide +kernel
theorem dX12_seriesAt_26 : decode cX12_seriesAt 26 = .ok (.invokevirtual 192, 3) := by decide +kernel
theorem dX12_seriesAt_29 : decode cX12_seriesAt 29 = .ok (.istore 4, 2) := by decide +kernel
theorem dX12_seriesAt_31 : decode cX12_seriesAt 31 = .ok (.iload 4, 2) := by decide +kernel
theorem dX12_seriesAt_33 : decode cX12_seriesAt 33 = .ok (.ifCond .lt 80, 3) := by decide +kernel
theorem dX12_seriesAt_36 : decode cX12_seriesAt 36 = .ok (.bipush 6, 2) := by decide +kernel
theorem dX12_seriesAt_38 : decode cX12_seriesAt 38 = .ok (.istore 5, 2) := by decide +kernel
theorem dX12_seriesAt_40 : decode cX12_seriesAt 40 = .ok (.iload 5, 2) := by decide +kernel
theorem dX12_seriesAt_42 : decode cX12_seriesAt 42 = .ok (.ifCond .le 39, 3) := by decide +kernel
theorem dX12_seriesAt_45 : decode cX12_seriesAt 45 = .ok (.aload_n 0, 1) := by decide +kernel
theorem dX12_seriesAt_46 : decode cX12_seriesAt 46 = .ok (.getfield 60, 3) := by decide +kernel
theorem dX12_seriesAt_49 : decode cX12_seriesAt 49 = .ok (.iload 5, 2) := by decide +kernel
theorem dX12_seriesAt_51 : decode cX12_seriesAt 51 = .ok (.aload_n 0, 1) := by decide +kernel
theorem dX12_seriesAt_52 : decode cX12_seriesAt 52 = .ok (.aload_n 0, 1) := by decide +kernel
theorem dX12_seriesAt_53 : decode cX12_seriesAt 53 = .ok (.getfield 60, 3) := by decide +kernel
theorem dX12_seriesAt_56 : decode cX12_seriesAt 56 = .ok (.iload 5, 2) := by decide +kernel
theorem dX12_seriesAt_58 : decode cX12_seriesAt 58 = .ok (.iaload, 1) := by decide +kernel
theorem dX12_seriesAt_59 : decode cX12_seriesAt 59 = .ok (.iload_n 1, 1) := by decide +kernel
theorem dX12_seriesAt_60 : decode cX12_seriesAt 60 = .ok (.imul, 1) := by decide +kernel
theorem dX12_seriesAt_61 : decode cX12_seriesAt 61 = .ok (.aload_n 0, 1) := by decide +kernel
theorem dX12_seriesAt_62 : decode cX12_seriesAt 62 = .ok (.getfield 60, 3) := by decide +kernel
theorem dX12_seriesAt_65 : decode cX12_seriesAt 65 = .ok (.iload 5, 2) := by decide +kernel
theorem dX12_seriesAt_67 : decode cX12_seriesAt 67 = .ok (.iconst 1, 1) := by decide +kernel
theorem dX12_seriesAt_68 : decode cX12_seriesAt 68 = .ok (.isub, 1) := by decide +kernel
theorem dX12_seriesAt_69 : decode cX12_seriesAt 69 = .ok (.iaload, 1) := by decide +kernel
theorem dX12_seriesAt_70 : decode cX12_seriesAt 70 = .ok (.iadd, 1) := by decide +kernel
theorem dX12_seriesAt_71 : decode cX12_seriesAt 71 = .ok (.invokevirtual 182, 3) := by decide +kernel
theorem dX12_seriesAt_74 : decode cX12_seriesAt 74 = .ok (.iastore, 1) := by decide +kernel
theorem dX12_seriesAt_75 : decode cX12_seriesAt 75 = .ok (.iinc 5 (-1), 3) := by decide +kernel
theorem dX12_seriesAt_78 : decode cX12_seriesAt 78 = .ok (.goto (-38), 3) := by decide +kernel
theorem dX12_seriesAt_81 : decode cX12_seriesAt 81 = .ok (.aload_n 0, 1) := by decide +kernel
theorem dX12_seriesAt_82 : decode cX12_seriesAt 82 = .ok (.getfield 60, 3) := by decide +kernel
theorem dX12_seriesAt_85 : decode cX12_seriesAt 85 = .ok (.iconst 0, 1) := by decide +kernel
theorem dX12_seriesAt_86 : decode cX12_seriesAt 86 = .ok (.aload_n 0, 1) := by decide +kernel
theorem dX12_seriesAt_87 : decode cX12_seriesAt 87 = .ok (.aload_n 0, 1) := by decide +kernel
theorem dX12_seriesAt_88 : decode cX12_seriesAt 88 = .ok (.getfield 60, 3) := by decide +kernel
theorem dX12_seriesAt_91 : decode cX12_seriesAt 91 = .ok (.iconst 0, 1) := by decide +kernel
theorem dX12_seriesAt_92 : decode cX12_seriesAt 92 = .ok (.iaload, 1) := by decide +kernel
theorem dX12_seriesAt_93 : decode cX12_seriesAt 93 = .ok (.iload_n 1, 1) := by decide +kernel
theorem dX12_seriesAt_94 : decode cX12_seriesAt 94 = .ok (.imul, 1) := by decide +kernel
theorem dX12_seriesAt_95 : decode cX12_seriesAt 95 = .ok (.aload_n 0, 1) := by decide +kernel
theorem dX12_seriesAt_96 : decode cX12_seriesAt 96 = .ok (.iconst 0, 1) := by decide +kernel
theorem dX12_seriesAt_97 : decode cX12_seriesAt 97 = .ok (.iload 4, 2) := by decide +kernel
theorem dX12_seriesAt_99 : decode cX12_seriesAt 99 = .ok (.invokevirtual 185, 3) := by decide +kernel
theorem dX12_seriesAt_102 : decode cX12_seriesAt 102 = .ok (.iadd, 1) := by decide +kernel
theorem dX12_seriesAt_103 : decode cX12_seriesAt 103 = .ok (.invokevirtual 182, 3) := by decide +kernel
theorem dX12_seriesAt_106 : decode cX12_seriesAt 106 = .ok (.iastore, 1) := by decide +kernel
theorem dX12_seriesAt_107 : decode cX12_seriesAt 107 = .ok (.iinc 4 (-1), 3) := by decide +kernel
theorem dX12_seriesAt_110 : decode cX12_seriesAt 110 = .ok (.goto (-79), 3) := by decide +kernel
theorem dX12_seriesAt_113 : decode cX12_seriesAt 113 = .ok (.aload_n 0, 1) := by decide +kernel
theorem dX12_seriesAt_114 : decode cX12_seriesAt 114 = .ok (.aload_n 0, 1) := by decide +kernel
theorem dX12_seriesAt_115 : decode cX12_seriesAt 115 = .ok (.iconst 2, 1) := by decide +kernel
theorem dX12_seriesAt_116 : decode cX12_seriesAt 116 = .ok (.iload_n 2, 1) := by decide +kernel
theorem dX12_seriesAt_117 : decode cX12_seriesAt 117 = .ok (.imul, 1) := by decide +kernel
theorem dX12_seriesAt_118 : decode cX12_seriesAt 118 = .ok (.invokevirtual 182, 3) := by decide +kernel
theorem dX12_seriesAt_121 : decode cX12_seriesAt 121 = .ok (.invokevirtual 202, 3) := by decide +kernel
theorem dX12_seriesAt_124 : decode cX12_seriesAt 124 = .ok (.istore 4, 2) := by decide +kernel
theorem dX12_seriesAt_126 : decode cX12_seriesAt 126 = .ok (.aload_n 0, 1) := by decide +kernel
theorem dX12_seriesAt_127 : decode cX12_seriesAt 127 = .ok (.getfield 57, 3) := by decide +kernel
theorem dX12_seriesAt_130 : decode cX12_seriesAt 130 = .ok (.iconst 0, 1) := by decide +kernel
theorem dX12_seriesAt_131 : decode cX12_seriesAt 131 = .ok (.iload_n 2, 1) := by decide +kernel
theorem dX12_seriesAt_132 : decode cX12_seriesAt 132 = .ok (.iastore, 1) := by decide +kernel
theorem dX12_seriesAt_133 : decode cX12_seriesAt 133 = .ok (.iconst 1, 1) := by decide +kernel
theorem dX12_seriesAt_134 : decode cX12_seriesAt 134 = .ok (.istore 5, 2) := by decide +kernel
theorem dX12_seriesAt_136 : decode cX12_seriesAt 136 = .ok (.iload 5, 2) := by decide +kernel
theorem dX12_seriesAt_138 : decode cX12_seriesAt 138 = .ok (.iload_n 3, 1) := by decide +kernel
theorem dX12_seriesAt_139 : decode cX12_seriesAt 139 = .ok (.if_icmp .ge 77, 3) := by decide +kernel
theorem dX12_seriesAt_142 : decode cX12_seriesAt 142 = .ok (.aload_n 0, 1) := by decide +kernel
theorem dX12_seriesAt_143 : decode cX12_seriesAt 143 = .ok (.getfield 60, 3) := by decide +kernel
theorem dX12_seriesAt_146 : decode cX12_seriesAt 146 = .ok (.iload 5, 2) := by decide +kernel
theorem dX12_seriesAt_148 : decode cX12_seriesAt 148 = .ok (.iaload, 1) := by decide +kernel
theorem dX12_seriesAt_149 : decode cX12_seriesAt 149 = .ok (.istore 6, 2) := by decide +kernel
theorem dX12_seriesAt_151 : decode cX12_seriesAt 151 = .ok (.iconst 1, 1) := by decide +kernel
theorem dX12_seriesAt_152 : decode cX12_seriesAt 152 = .ok (.istore 7, 2) := by decide +kernel
theorem dX12_seriesAt_154 : decode cX12_seriesAt 154 = .ok (.iload 7, 2) := by decide +kernel
theorem dX12_seriesAt_156 : decode cX12_seriesAt 156 = .ok (.iload 5, 2) := by decide +kernel
theorem dX12_seriesAt_158 : decode cX12_seriesAt 158 = .ok (.if_icmp .ge 36, 3) := by decide +kernel
theorem dX12_seriesAt_161 : decode cX12_seriesAt 161 = .ok (.aload_n 0, 1) := by decide +kernel
theorem dX12_seriesAt_162 : decode cX12_seriesAt 162 = .ok (.iload 6, 2) := by decide +kernel
theorem dX12_seriesAt_164 : decode cX12_seriesAt 164 = .ok (.aload_n 0, 1) := by decide +kernel
theorem dX12_seriesAt_165 : decode cX12_seriesAt 165 = .ok (.getfield 57, 3) := by decide +kernel
theorem dX12_seriesAt_168 : decode cX12_seriesAt 168 = .ok (.iload 7, 2) := by decide +kernel
theorem dX12_seriesAt_170 : decode cX12_seriesAt 170 = .ok (.iaload, 1) := by decide +kernel
theorem dX12_seriesAt_171 : decode cX12_seriesAt 171 = .ok (.aload_n 0, 1) := by decide +kernel
theorem dX12_seriesAt_172 : decode cX12_seriesAt 172 = .ok (.getfield 57, 3) := by decide +kernel
theorem dX12_seriesAt_175 : decode cX12_seriesAt 175 = .ok (.iload 5, 2) := by decide +kernel
theorem dX12_seriesAt_177 : decode cX12_seriesAt 177 = .ok (.iload 7, 2) := by decide +kernel
theorem dX12_seriesAt_179 : decode cX12_seriesAt 179 = .ok (.isub, 1) := by decide +kernel
theorem dX12_seriesAt_180 : decode cX12_seriesAt 180 = .ok (.iaload, 1) := by decide +kernel
theorem dX12_seriesAt_181 : decode cX12_seriesAt 181 = .ok (.imul, 1) := by decide +kernel
theorem dX12_seriesAt_182 : decode cX12_seriesAt 182 = .ok (.isub, 1) := by decide +kernel
theorem dX12_seriesAt_183 : decode cX12_seriesAt 183 = .ok (.invokevirtual 182, 3) := by decide +kernel
theorem dX12_seriesAt_186 : decode cX12_seriesAt 186 = .ok (.istore 6, 2) := by decide +kernel
theorem dX12_seriesAt_188 : decode cX12_seriesAt 188 = .ok (.iinc 7 1, 3) := by decide +kernel
theorem dX12_seriesAt_191 : decode cX12_seriesAt 191 = .ok (.goto (-37), 3) := by decide +kernel
theorem dX12_seriesAt_194 : decode cX12_seriesAt 194 = .ok (.aload_n 0, 1) := by decide +kernel
theorem dX12_seriesAt_195 : decode cX12_seriesAt 195 = .ok (.getfield 57, 3) := by decide +kernel
theorem dX12_seriesAt_198 : decode cX12_seriesAt 198 = .ok (.iload 5, 2) := by decide +kernel
theorem dX12_seriesAt_200 : decode cX12_seriesAt 200 = .ok (.aload_n 0, 1) := by decide +kernel
theorem dX12_seriesAt_201 : decode cX12_seriesAt 201 = .ok (.iload 6, 2) := by decide +kernel
theorem dX12_seriesAt_203 : decode cX12_seriesAt 203 = .ok (.iload 4, 2) := by decide +kernel
theorem dX12_seriesAt_205 : decode cX12_seriesAt 205 = .ok (.imul, 1) := by decide +kernel
theorem dX12_seriesAt_206 : decode cX12_seriesAt 206 = .ok (.invokevirtual 182, 3) := by decide +kernel
theorem dX12_seriesAt_209 : decode cX12_seriesAt 209 = .ok (.iastore, 1) := by decide +kernel
theorem dX12_seriesAt_210 : decode cX12_seriesAt 210 = .ok (.iinc 5 1, 3) := by decide +kernel
theorem dX12_seriesAt_213 : decode cX12_seriesAt 213 = .ok (.goto (-77), 3) := by decide +kernel
theorem dX12_seriesAt_216 : decode cX12_seriesAt 216 = .ok (.return_, 1) := by decide +kernel
set_option maxRecDepth 20000 in
theorem b_X12_seriesAt_0 {k n : Nat} {x : Wx} {Z : Zt} {Q : Option Value → Wx → Zt → Prop} {a0 : Nat} {v1 : Int} {v2 : Int} {v3 : Int} 
    (h : V mX12_seriesAt k n 3 [some (r_ a0), some (i_ v1), some (i_ v2), some (i_ v3), some (i_ 0), none, none, none] [] x Z Q) :
    V mX12_seriesAt k n 0 [some (r_ a0), some (i_ v1), some (i_ v2), some (i_ v3), none, none, none, none] [] x Z Q :=
  V_iconst dX12_seriesAt_0 (V_istore (lv' := [some (r_ a0), some (i_ v1), some (i_ v2), some (i_ v3), some (i_ 0), none, none, none]) dX12_seriesAt_1 (Nat.le_of_ble_eq_true rfl) rfl (V_msk [true, true, true, true, true, false, false, false] rfl h))
set_option maxRecDepth 20000 in
theorem b_X12_seriesAt_3 {k n : Nat} {x : Wx} {Z : Zt} {Q : Option Value → Wx → Zt → Prop} {a0 : Nat} {v1 : Int} {v2 : Int} {v3 : Int} {v4 : Int} (o_a0 : Is12 x a0)
    (h : Rg v4 ∧ (((96 ≤ v4) → (∃ g1 : Nat → Nat → Int, (MS Z a0 g1 ∧ (0 ≤ (0 : Int) ∧ (0 : Int) < 27) ∧ (∀ i : Nat, i < 24 → Rg (g1 (0 : Int).toNat i)) ∧ (V mX12_seriesAt k n 31 [some (r_ a0), some (i_ v1), some (i_ v2), some (i_ v3), some (i_ (pd (g1 (0 : Int).toNat))), none, none, none] [] x Z Q)))) ∧ ((v4 < 96) → (0 ≤ v4 ∧ (∀ Z1 : Zt, Z1 = up Z (a0 + 17) v4.toNat 0 → (V mX12_seriesAt k n 3 [some (r_ a0), some (i_ v1), some (i_ v2), some (i_ v3), some (i_ (v4 + 1)), none, none, none] [] x Z1 Q)))))) :
    V mX12_seriesAt k n 3 [some (r_ a0), some (i_ v1), some (i_ v2), some (i_ v3), some (i_ v4), none, none, none] [] x Z Q :=
  V_iload dX12_seriesAt_3 rfl (V_bipush dX12_seriesAt_5 rfl (V_icmp_ge (tgt := 24) dX12_seriesAt_7 rfl h.1 (rg_c rfl) (fun c1 => V_aload_n dX12_seriesAt_24 rfl (V_iconst dX12_seriesAt_25 (Exists.elim (h.2.1 c1) (fun g1 w1 => V_callV (k' := 0) (n' := 0) (t := 12) (q := (RX12, TX12, 46)) [i_ 0] [] okX12_deg o_a0.1 rfl rfl lm_12_192 liX12_deg lqX12_deg (Nat.le_of_ble_eq_true rfl) (Nat.le_of_ble_eq_true rfl) (Nat.le_of_ble_eq_true rfl) (cat_of rfl) (Nat.le_of_ble_eq_true rfl) (Nat.zero_le _) (Nat.zero_le _) rfl dX12_seriesAt_26 (sp_X12_deg o_a0 w1.1 w1.2.1 w1.2.2.1 (V_istore (lv' := [some (r_ a0), some (i_ v1), some (i_ v2), some (i_ v3), some (i_ (pd (g1 (0 : Int).toNat))), none, none, none]) dX12_seriesAt_29 (Nat.le_of_ble_eq_true rfl) rfl (V_msk [true, true, true, true, true, false, false, false] rfl w1.2.2.2))))))) (fun c1 => V_aload_n dX12_seriesAt_10 rfl (G_12_31 o_a0.1 o_a0.qR31 lf_12_60 dX12_seriesAt_11 (V_iload dX12_seriesAt_14 rfl (V_iconst dX12_seriesAt_16 (V_iast (t := 100) o_a0.qK31 (by decide) (by decide) rfl (h.2.2 c1).1 c1 (Nat.le_of_ble_eq_true rfl) dX12_seriesAt_17 (V_nmZ (fun Z1 eZ1 => V_iinc (lv' := [some (r_ a0), some (i_ v1), some (i_ v2), some (i_ v3), some (i_ (v4 + 1)), none, none, none]) dX12_seriesAt_18 rfl (Nat.le_of_ble_eq_true rfl) rfl (V_goto (tgt := 3) dX12_seriesAt_21 rfl (V_msk [true, true, true, true, true, false, false, false] rfl ((h.2.2 c1).2 Z1 eZ1))))))))))))
set_option maxRecDepth 20000 in
theorem b_X12_seriesAt_31 {k n : Nat} {x : Wx} {Z : Zt} {Q : Option Value → Wx → Zt → Prop} {a0 : Nat} {v1 : Int} {v2 : Int} {v3 : Int} {v4 : Int} (o_a0 : Is12 x a0)
    (h : Rg v4 ∧ (((v4 < 0) → (Rg (2 * v2) ∧ 0 < Z a0 11 ∧ Z a0 11 ≤ 13 ∧ (∃ g1 : Int, ((IsP g1 ∧ Z a0 11 = g1) ∧ (0 < ((2 * v2) % Z a0 11) ∧ ((2 * v2) % Z a0 11) < g1) ∧ (∀ Z1 : Zt, Z1 = up Z (a0 + 16) 0 v2 → (V mX12_seriesAt k n 136 [some (r_ a0), none, none, some (i_ v3), some (i_ (inv g1 ((2 * v2) % Z a0 11))), some (i_ 1), none, none] [] x Z1 Q)))))) ∧ ((0 ≤ v4) → (V mX12_seriesAt k n 40 [some (r_ a0), some (i_ v1), some (i_ v2), some (i_ v3), some (i_ v4), some (i_ 6), none, none] [] x Z Q)))) :
    V mX12_seriesAt k n 31 [some (r_ a0), some (i_ v1), some (i_ v2), some (i_ v3), some (i_ v4), none, none, none] [] x Z Q :=
  V_iload dX12_seriesAt_31 rfl (V_if_lt (tgt := 113) dX12_seriesAt_33 rfl h.1 (fun c1 => V_aload_n dX12_seriesAt_113 rfl (V_aload_n dX12_seriesAt_114 rfl (V_iconst dX12_seriesAt_115 (V_iload_n dX12_seriesAt_116 rfl (V_imul dX12_seriesAt_117 (V_callV (k' := 0) (n' := 0) (t := 12) (q := (RX12, TX12, 46)) [i_ (2 * v2)] [r_ a0] okX12_mod o_a0.1 rfl rfl lm_12_182 liX12_mod lqX12_mod (Nat.le_of_ble_eq_true rfl) (Nat.le_of_ble_eq_true rfl) (Nat.le_of_ble_eq_true rfl) (cat_of rfl) (Nat.le_of_ble_eq_true rfl) (Nat.zero_le _) (Nat.zero_le _) rfl dX12_seriesAt_118 (sp_X12_mod o_a0 (h.2.1 c1).1 (h.2.1 c1).2.1 (h.2.1 c1).2.2.1 (Exists.elim (h.2.1 c1).2.2.2 (fun g1 w1 => V_callV (k' := 0) (n' := 0) (t := 12) (q := (RX12, TX12, 46)) [i_ ((2 * v2) % Z a0 11)] [] okX12_inverse o_a0.1 rfl rfl lm_12_202 liX12_inverse lqX12_inverse (Nat.le_of_ble_eq_true rfl) (Nat.le_of_ble_eq_true rfl) (Nat.le_of_ble_eq_true rfl) (cat_of rfl) (Nat.le_of_ble_eq_true rfl) (Nat.zero_le _) (Nat.zero_le _) rfl dX12_seriesAt_121 (sp_X12_inverse o_a0 w1.1 w1.2.1 (V_istore (lv' := [some (r_ a0), some (i_ v1), some (i_ v2), some (i_ v3), some (i_ (inv g1 ((2 * v2) % Z a0 11))), none, none, none]) dX12_seriesAt_124 (Nat.le_of_ble_eq_true rfl) rfl (V_aload_n dX12_seriesAt_126 rfl (G_12_30 o_a0.1 o_a0.qR30 lf_12_57 dX12_seriesAt_127 (V_iconst dX12_seriesAt_130 (V_iload_n dX12_seriesAt_131 rfl (V_iast (t := 100) o_a0.qK30 (by decide) (by decide) rfl (by decide) (by decide) (Nat.le_of_ble_eq_true rfl) dX12_seriesAt_132 (V_nmZ (fun Z1 eZ1 => V_iconst dX12_seriesAt_133 (V_istore (lv' := [some (r_ a0), some (i_ v1), some (i_ v2), some (i_ v3), some (i_ (inv g1 ((2 * v2) % Z a0 11))), some (i_ 1), none, none]) dX12_seriesAt_134 (Nat.le_of_ble_eq_true rfl) rfl (V_msk [true, false, false, true, true, true, false, false] rfl (w1.2.2 Z1 eZ1))))))))))))))))))))) (fun c1 => V_bipush dX12_seriesAt_36 rfl (V_istore (lv' := [some (r_ a0), some (i_ v1), some (i_ v2), some (i_ v3), some (i_ v4), some (i_ 6), none, none]) dX12_seriesAt_38 (Nat.le_of_ble_eq_true rfl) rfl (V_msk [true, true, true, true, true, true, false, false] rfl (h.2.2 c1)))))
set_option maxRecDepth 20000 in
theorem b_X12_seriesAt_40 {k n : Nat} {x : Wx} {Z : Zt} {Q : Option Value → Wx → Zt → Prop} {a0 : Nat} {v1 : Int} {v2 : Int} {v3 : Int} {v4 : Int} {v5 : Int} (o_a0 : Is12 x a0)
    (h : Rg v5 ∧ (((v5 ≤ 0) → ((0 ≤ 24 * (0 : Int) + v4 ∧ 24 * (0 : Int) + v4 < 648) ∧ (Rg (((Z (a0 + 17) 0) * v1) + (Z (a0 + 4) (24 * (0 : Int) + v4).toNat)) ∧ 0 < Z a0 11 ∧ Z a0 11 ≤ 13 ∧ (∀ Z1 : Zt, Z1 = up Z (a0 + 17) 0 ((((Z (a0 + 17) 0) * v1) + (Z (a0 + 4) (24 * (0 : Int) + v4).toNat)) % Z a0 11) → (V mX12_seriesAt k n 31 [some (r_ a0), some (i_ v1), some (i_ v2), some (i_ v3), some (i_ (v4 + (-1))), none, none, none] [] x Z1 Q))))) ∧ ((0 < v5) → (0 ≤ v5 ∧ v5 < 96 ∧ (0 ≤ v5 - 1 ∧ v5 - 1 < 96 ∧ (Rg (((Z (a0 + 17) v5.toNat) * v1) + (Z (a0 + 17) (v5 - 1).toNat)) ∧ 0 < Z a0 11 ∧ Z a0 11 ≤ 13 ∧ (∀ Z2 : Zt, Z2 = up Z (a0 + 17) v5.toNat ((((Z (a0 + 17) v5.toNat) * v1) + (Z (a0 + 17) (v5 - 1).toNat)) % Z a0 11) → (V mX12_seriesAt k n 40 [some (r_ a0), some (i_ v1), some (i_ v2), some (i_ v3), some (i_ v4), some (i_ (v5 + (-1))), none, none] [] x Z2 Q)))))))) :
    V mX12_seriesAt k n 40 [some (r_ a0), some (i_ v1), some (i_ v2), some (i_ v3), some (i_ v4), some (i_ v5), none, none] [] x Z Q :=
  V_iload dX12_seriesAt_40 rfl (V_if_le (tgt := 81) dX12_seriesAt_42 rfl h.1 (fun c1 => V_aload_n dX12_seriesAt_81 rfl (G_12_31 o_a0.1 o_a0.qR31 lf_12_60 dX12_seriesAt_82 (V_iconst dX12_seriesAt_85 (V_aload_n dX12_seriesAt_86 rfl (V_aload_n dX12_seriesAt_87 rfl (G_12_31 o_a0.1 o_a0.qR31 lf_12_60 dX12_seriesAt_88 (V_iconst dX12_seriesAt_91 (V_iald (t := 100) o_a0.qK31 (by decide) rfl (by decide) (by decide) (Nat.le_of_ble_eq_true rfl) dX12_seriesAt_92 (V_iload_n dX12_seriesAt_93 rfl (V_imul dX12_seriesAt_94 (V_aload_n dX12_seriesAt_95 rfl (V_iconst dX12_seriesAt_96 (V_iload dX12_seriesAt_97 rfl (V_callV (k' := 0) (n' := 0) (t := 12) (q := (RX12, TX12, 46)) [i_ 0, i_ v4] [i_ ((Z (a0 + 17) 0) * v1), r_ a0, i_ 0, r_ (a0 + 17)] okX12_at o_a0.1 rfl rfl lm_12_185 liX12_at lqX12_at (Nat.le_of_ble_eq_true rfl) (Nat.le_of_ble_eq_true rfl) (Nat.le_of_ble_eq_true rfl) (cat_of rfl) (Nat.le_of_ble_eq_true rfl) (Nat.zero_le _) (Nat.zero_le _) rfl dX12_seriesAt_99 (sp_X12_at o_a0 (h.2.1 c1).1 (V_iadd dX12_seriesAt_102 (V_callV (k' := 0) (n' := 0) (t := 12) (q := (RX12, TX12, 46)) [i_ (((Z (a0 + 17) 0) * v1) + (Z (a0 + 4) (24 * (0 : Int) + v4).toNat))] [i_ 0, r_ (a0 + 17)] okX12_mod o_a0.1 rfl rfl lm_12_182 liX12_mod lqX12_mod (Nat.le_of_ble_eq_true rfl) (Nat.le_of_ble_eq_true rfl) (Nat.le_of_ble_eq_true rfl) (cat_of rfl) (Nat.le_of_ble_eq_true rfl) (Nat.zero_le _) (Nat.zero_le _) rfl dX12_seriesAt_103 (sp_X12_mod o_a0 (h.2.1 c1).2.1 (h.2.1 c1).2.2.1 (h.2.1 c1).2.2.2.1 (V_iast (t := 100) o_a0.qK31 (by decide) (by decide) rfl (by decide) (by decide) (Nat.le_of_ble_eq_true rfl) dX12_seriesAt_106 (V_nmZ (fun Z1 eZ1 => V_iinc (lv' := [some (r_ a0), some (i_ v1), some (i_ v2), some (i_ v3), some (i_ (v4 + (-1))), some (i_ v5), none, none]) dX12_seriesAt_107 rfl (Nat.le_of_ble_eq_true rfl) rfl (V_goto (tgt := 31) dX12_seriesAt_110 rfl (V_msk [true, true, true, true, true, false, false, false] rfl ((h.2.1 c1).2.2.2.2 Z1 eZ1)))))))))))))))))))))))) (fun c1 => V_aload_n dX12_seriesAt_45 rfl (G_12_31 o_a0.1 o_a0.qR31 lf_12_60 dX12_seriesAt_46 (V_iload dX12_seriesAt_49 rfl (V_aload_n dX12_seriesAt_51 rfl (V_aload_n dX12_seriesAt_52 rfl (G_12_31 o_a0.1 o_a0.qR31 lf_12_60 dX12_seriesAt_53 (V_iload dX12_seriesAt_56 rfl (V_iald (t := 100) o_a0.qK31 (by decide) rfl (h.2.2 c1).1 (h.2.2 c1).2.1 (Nat.le_of_ble_eq_true rfl) dX12_seriesAt_58 (V_iload_n dX12_seriesAt_59 rfl (V_imul dX12_seriesAt_60 (V_aload_n dX12_seriesAt_61 rfl (G_12_31 o_a0.1 o_a0.qR31 lf_12_60 dX12_seriesAt_62 (V_iload dX12_seriesAt_65 rfl (V_iconst dX12_seriesAt_67 (V_isub dX12_seriesAt_68 (V_iald (t := 100) o_a0.qK31 (by decide) rfl (h.2.2 c1).2.2.1 (h.2.2 c1).2.2.2.1 (Nat.le_of_ble_eq_true rfl) dX12_seriesAt_69 (V_iadd dX12_seriesAt_70 (V_callV (k' := 0) (n' := 0) (t := 12) (q := (RX12, TX12, 46)) [i_ (((Z (a0 + 17) v5.toNat) * v1) + (Z (a0 + 17) (v5 - 1).toNat))] [i_ v5, r_ (a0 + 17)] okX12_mod o_a0.1 rfl rfl lm_12_182 liX12_mod lqX12_mod (Nat.le_of_ble_eq_true rfl) (Nat.le_of_ble_eq_true rfl) (Nat.le_of_ble_eq_true rfl) (cat_of rfl) (Nat.le_of_ble_eq_true rfl) (Nat.zero_le _) (Nat.zero_le _) rfl dX12_seriesAt_71 (sp_X12_mod o_a0 (h.2.2 c1).2.2.2.2.1 (h.2.2 c1).2.2.2.2.2.1 (h.2.2 c1).2.2.2.2.2.2.1 (V_iast (t := 100) o_a0.qK31 (by decide) (by decide) rfl (h.2.2 c1).1 (h.2.2 c1).2.1 (Nat.le_of_ble_eq_true rfl) dX12_seriesAt_74 (V_nmZ (fun Z2 eZ2 => V_iinc (lv' := [some (r_ a0), some (i_ v1), some (i_ v2), some (i_ v3), some (i_ v4), some (i_ (v5 + (-1))), none, none]) dX12_seriesAt_75 rfl (Nat.le_of_ble_eq_true rfl) rfl (V_goto (tgt := 40) dX12_seriesAt_78 rfl (V_msk [true, true, true, true, true, true, false, false] rfl ((h.2.2 c1).2.2.2.2.2.2.2 Z2 eZ2))))))))))))))))))))))))))
set_option maxRecDepth 20000 in
theorem b_X12_seriesAt_136 {k n : Nat} {x : Wx} {Z : Zt} {Q : Option Value → Wx → Zt → Prop} {a0 : Nat} {v3 : Int} {v4 : Int} {v5 : Int} (o_a0 : Is12 x a0)
    (h : Rg v5 ∧ Rg v3 ∧ (((v3 ≤ v5) → (Q none x Z)) ∧ ((v5 < v3) → (0 ≤ v5 ∧ v5 < 96 ∧ (V mX12_seriesAt k n 154 [some (r_ a0), none, none, some (i_ v3), some (i_ v4), some (i_ v5), some (i_ (Z (a0 + 17) v5.toNat)), some (i_ 1)] [] x Z Q))))) :
    V mX12_seriesAt k n 136 [some (r_ a0), none, none, some (i_ v3), some (i_ v4), some (i_ v5), none, none] [] x Z Q :=
  V_iload dX12_seriesAt_136 rfl (V_iload_n dX12_seriesAt_138 rfl (V_icmp_ge (tgt := 216) dX12_seriesAt_139 rfl h.1 h.2.1 (fun c1 => V_ret dX12_seriesAt_216 rfl (h.2.2.1 c1)) (fun c1 => V_aload_n dX12_seriesAt_142 rfl (G_12_31 o_a0.1 o_a0.qR31 lf_12_60 dX12_seriesAt_143 (V_iload dX12_seriesAt_146 rfl (V_iald (t := 100) o_a0.qK31 (by decide) rfl (h.2.2.2 c1).1 (h.2.2.2 c1).2.1 (Nat.le_of_ble_eq_true rfl) dX12_seriesAt_148 (V_istore (lv' := [some (r_ a0), none, none, some (i_ v3), some (i_ v4), some (i_ v5), some (i_ (Z (a0 + 17) v5.toNat)), none]) dX12_seriesAt_149 (Nat.le_of_ble_eq_true rfl) rfl (V_iconst dX12_seriesAt_151 (V_istore (lv' := [some (r_ a0), none, none, some (i_ v3), some (i_ v4), some (i_ v5), some (i_ (Z (a0 + 17) v5.toNat)), some (i_ 1)]) dX12_seriesAt_152 (Nat.le_of_ble_eq_true rfl) rfl (V_msk [true, false, false, true, true, true, true, true] rfl (h.2.2.2 c1).2.2))))))))))
set_option maxRecDepth 20000 in
theorem b_X12_seriesAt_154 {k n : Nat} {x : Wx} {Z : Zt} {Q : Option Value → Wx → Zt → Prop} {a0 : Nat} {v3 : Int} {v4 : Int} {v5 : Int} {v6 : Int} {v7 : Int} (o_a0 : Is12 x a0)
    (h : Rg v7 ∧ Rg v5 ∧ (((v5 ≤ v7) → (Rg (v6 * v4) ∧ 0 < Z a0 11 ∧ Z a0 11 ≤ 13 ∧ (0 ≤ v5 ∧ v5 < 96 ∧ (∀ Z1 : Zt, Z1 = up Z (a0 + 16) v5.toNat ((v6 * v4) % Z a0 11) → (V mX12_seriesAt k n 136 [some (r_ a0), none, none, some (i_ v3), some (i_ v4), some (i_ (v5 + 1)), none, none] [] x Z1 Q))))) ∧ ((v7 < v5) → (0 ≤ v7 ∧ v7 < 96 ∧ (0 ≤ v5 - v7 ∧ v5 - v7 < 96 ∧ (Rg (v6 - ((Z (a0 + 16) v7.toNat) * (Z (a0 + 16) (v5 - v7).toNat))) ∧ 0 < Z a0 11 ∧ Z a0 11 ≤ 13 ∧ (∀ i1 : Int, i1 = (v6 - ((Z (a0 + 16) v7.toNat) * (Z (a0 + 16) (v5 - v7).toNat))) % Z a0 11 → (V mX12_seriesAt k n 154 [some (r_ a0), none, none, some (i_ v3), some (i_ v4), some (i_ v5), some (i_ i1), some (i_ (v7 + 1))] [] x Z Q)))))))) :
    V mX12_seriesAt k n 154 [some (r_ a0), none, none, some (i_ v3), some (i_ v4), some (i_ v5), some (i_ v6), some (i_ v7)] [] x Z Q :=
  V_iload dX12_seriesAt_154 rfl (V_iload dX12_seriesAt_156 rfl (V_icmp_ge (tgt := 194) dX12_seriesAt_158 rfl h.1 h.2.1 (fun c1 => V_aload_n dX12_seriesAt_194 rfl (G_12_30 o_a0.1 o_a0.qR30 lf_12_57 dX12_seriesAt_195 (V_iload dX12_seriesAt_198 rfl (V_aload_n dX12_seriesAt_200 rfl (V_iload dX12_seriesAt_201 rfl (V_iload dX12_seriesAt_203 rfl (V_imul dX12_seriesAt_205 (V_callV (k' := 0) (n' := 0) (t := 12) (q := (RX12, TX12, 46)) [i_ (v6 * v4)] [i_ v5, r_ (a0 + 16)] okX12_mod o_a0.1 rfl rfl lm_12_182 liX12_mod lqX12_mod (Nat.le_of_ble_eq_true rfl) (Nat.le_of_ble_eq_true rfl) (Nat.le_of_ble_eq_true rfl) (cat_of rfl) (Nat.le_of_ble_eq_true rfl) (Nat.zero_le _) (Nat.zero_le _) rfl dX12_seriesAt_206 (sp_X12_mod o_a0 (h.2.2.1 c1).1 (h.2.2.1 c1).2.1 (h.2.2.1 c1).2.2.1 (V_iast (t := 100) o_a0.qK30 (by decide) (by decide) rfl (h.2.2.1 c1).2.2.2.1 (h.2.2.1 c1).2.2.2.2.1 (Nat.le_of_ble_eq_true rfl) dX12_seriesAt_209 (V_nmZ (fun Z1 eZ1 => V_iinc (lv' := [some (r_ a0), none, none, some (i_ v3), some (i_ v4), some (i_ (v5 + 1)), some (i_ v6), some (i_ v7)]) dX12_seriesAt_210 rfl (Nat.le_of_ble_eq_true rfl) rfl (V_goto (tgt := 136) dX12_seriesAt_213 rfl (V_msk [true, false, false, true, true, true, false, false] rfl ((h.2.2.1 c1).2.2.2.2.2 Z1 eZ1))))))))))))))) (fun c1 => V_aload_n dX12_seriesAt_161 rfl (V_iload dX12_seriesAt_162 rfl (V_aload_n dX12_seriesAt_164 rfl (G_12_30 o_a0.1 o_a0.qR30 lf_12_57 dX12_seriesAt_165 (V_iload dX12_seriesAt_168 rfl (V_iald (t := 100) o_a0.qK30 (by decide) rfl (h.2.2.2 c1).1 (h.2.2.2 c1).2.1 (Nat.le_of_ble_eq_true rfl) dX12_seriesAt_170 (V_aload_n dX12_seriesAt_171 rfl (G_12_30 o_a0.1 o_a0.qR30 lf_12_57 dX12_seriesAt_172 (V_iload dX12_seriesAt_175 rfl (V_iload dX12_seriesAt_177 rfl (V_isub dX12_seriesAt_179 (V_iald (t := 100) o_a0.qK30 (by decide) rfl (h.2.2.2 c1).2.2.1 (h.2.2.2 c1).2.2.2.1 (Nat.le_of_ble_eq_true rfl) dX12_seriesAt_180 (V_imul dX12_seriesAt_181 (V_isub dX12_seriesAt_182 (V_callV (k' := 0) (n' := 0) (t := 12) (q := (RX12, TX12, 46)) [i_ (v6 - ((Z (a0 + 16) v7.toNat) * (Z (a0 + 16) (v5 - v7).toNat)))] [] okX12_mod o_a0.1 rfl rfl lm_12_182 liX12_mod lqX12_mod (Nat.le_of_ble_eq_true rfl) (Nat.le_of_ble_eq_true rfl) (Nat.le_of_ble_eq_true rfl) (cat_of rfl) (Nat.le_of_ble_eq_true rfl) (Nat.zero_le _) (Nat.zero_le _) rfl dX12_seriesAt_183 (sp_X12_mod o_a0 (h.2.2.2 c1).2.2.2.2.1 (h.2.2.2 c1).2.2.2.2.2.1 (h.2.2.2 c1).2.2.2.2.2.2.1 (V_nmi (fun i1 ei1 => V_istore (lv' := [some (r_ a0), none, none, some (i_ v3), some (i_ v4), some (i_ v5), some (i_ i1), some (i_ v7)]) dX12_seriesAt_186 (Nat.le_of_ble_eq_true rfl) rfl (V_iinc (lv' := [some (r_ a0), none, none, some (i_ v3), some (i_ v4), some (i_ v5), some (i_ i1), some (i_ (v7 + 1))]) dX12_seriesAt_188 rfl (Nat.le_of_ble_eq_true rfl) rfl (V_goto (tgt := 154) dX12_seriesAt_191 rfl (V_msk [true, false, false, true, true, true, true, true] rfl ((h.2.2.2 c1).2.2.2.2.2.2.2 i1 ei1))))))))))))))))))))))))
