/-! ===== the reference: words of a code ===== -/
theorem dX12_codesOf_0 : decode cX12_codesOf 0 = .ok (.iconst 0, 1) := by decide +kernel
theorem dX12_codesOf_1 : decode cX12_codesOf 1 = .ok (.istore 5, 2) := by decide +kernel
theorem dX12_codesOf_3 : decode cX12_codesOf 3 = .ok (.iload 5, 2) := by decide +kernel
theorem dX12_codesOf_5 : decode cX12_codesOf 5 = .ok (.bipush 32, 2) := by decide +kernel
theorem dX12_codesOf_7 : decode cX12_codesOf 7 = .ok (.if_icmp .ge 15, 3) := by decide +kernel
theorem dX12_codesOf_10 : decode cX12_codesOf 10 = .ok (.aload 4, 2) := by decide +kernel
theorem dX12_codesOf_12 : decode cX12_codesOf 12 = .ok (.iload 5, 2) := by decide +kernel
theorem dX12_codesOf_14 : decode cX12_codesOf 14 = .ok (.iconst 0, 1) := by decide +kernel
theorem dX12_codesOf_15 : decode cX12_codesOf 15 = .ok (.iastore, 1) := by decide +kernel
theorem dX12_codesOf_16 : decode cX12_codesOf 16 = .ok (.iinc 5 1, 3) := by decide +kernel
theorem dX12_codesOf_19 : decode cX12_codesOf 19 = .ok (.goto (-16), 3) := by decide +kernel
theorem dX12_codesOf_22 : decode cX12_codesOf 22 = .ok (.iload_n 3, 1) := by decide +kernel
theorem dX12_codesOf_23 : decode cX12_codesOf 23 = .ok (.istore 5, 2) := by decide +kernel
theorem dX12_codesOf_25 : decode cX12_codesOf 25 = .ok (.iconst 0, 1) := by decide +kernel
theorem dX12_codesOf_26 : decode cX12_codesOf 26 = .ok (.istore 6, 2) := by decide +kernel
theorem dX12_codesOf_28 : decode cX12_codesOf 28 = .ok (.iload 6, 2) := by decide +kernel
theorem dX12_codesOf_30 : decode cX12_codesOf 30 = .ok (.iload_n 2, 1) := by decide +kernel
theorem dX12_codesOf_31 : decode cX12_codesOf 31 = .ok (.if_icmp .ge 74, 3) := by decide +kernel
theorem dX12_codesOf_34 : decode cX12_codesOf 34 = .ok (.iload 5, 2) := by decide +kernel
theorem dX12_codesOf_36 : decode cX12_codesOf 36 = .ok (.ifCond .le 69, 3) := by decide +kernel
theorem dX12_codesOf_39 : decode cX12_codesOf 39 = .ok (.iconst 0, 1) := by decide +kernel
theorem dX12_codesOf_40 : decode cX12_codesOf 40 = .ok (.istore 7, 2) := by decide +kernel
theorem dX12_codesOf_42 : decode cX12_codesOf 42 = .ok (.iload 7, 2) := by decide +kernel
theorem dX12_codesOf_44 : decode cX12_codesOf 44 = .ok (.aload_n 0, 1) := by decide +kernel
theorem dX12_codesOf_45 : decode cX12_codesOf 45 = .ok (.getfield 423, 3) := by decide +kernel
theorem dX12_codesOf_48 : decode cX12_codesOf 48 = .ok (.if_icmp .ge 42, 3) := by decide +kernel
theorem dX12_codesOf_51 : decode cX12_codesOf 51 = .ok (.aload 4, 2) := by decide +kernel
theorem dX12_codesOf_53 : decode cX12_codesOf 53 = .ok (.iload 7, 2) := by decide +kernel
theorem dX12_codesOf_55 : decode cX12_codesOf 55 = .ok (.aload_n 0, 1) := by decide +kernel
theorem dX12_codesOf_56 : decode cX12_codesOf 56 = .ok (.aload 4, 2) := by decide +kernel
theorem dX12_codesOf_58 : decode cX12_codesOf 58 = .ok (.iload 7, 2) := by decide +kernel
theorem dX12_codesOf_60 : decode cX12_codesOf 60 = .ok (.iaload, 1) := by decide +kernel
theorem dX12_codesOf_61 : decode cX12_codesOf 61 = .ok (.iload 5, 2) := by decide +kernel
theorem dX12_codesOf_63 : decode cX12_codesOf 63 = .ok (.aload_n 0, 1) := by decide +kernel
theorem dX12_codesOf_64 : decode cX12_codesOf 64 = .ok (.getfield 179, 3) := by decide +kernel
theorem dX12_codesOf_67 : decode cX12_codesOf 67 = .ok (.irem, 1) := by decide +kernel
theorem dX12_codesOf_68 : decode cX12_codesOf 68 = .ok (.aload_n 1, 1) := by decide +kernel
theorem dX12_codesOf_69 : decode cX12_codesOf 69 = .ok (.bipush 32, 2) := by decide +kernel
theorem dX12_codesOf_71 : decode cX12_codesOf 71 = .ok (.iload 6, 2) := by decide +kernel
theorem dX12_codesOf_73 : decode cX12_codesOf 73 = .ok (.imul, 1) := by decide +kernel
theorem dX12_codesOf_74 : decode cX12_codesOf 74 = .ok (.iload 7, 2) := by decide +kernel
theorem dX12_codesOf_76 : decode cX12_codesOf 76 = .ok (.iadd, 1) := by decide +kernel
theorem dX12_codesOf_77 : decode cX12_codesOf 77 = .ok (.iaload, 1) := by decide +kernel
theorem dX12_codesOf_78 : decode cX12_codesOf 78 = .ok (.imul, 1) := by decide +kernel
theorem dX12_codesOf_79 : decode cX12_codesOf 79 = .ok (.iadd, 1) := by decide +kernel
theorem dX12_codesOf_80 : decode cX12_codesOf 80 = .ok (.invokevirtual 182, 3) := by decide +kernel
theorem dX12_codesOf_83 : decode cX12_codesOf 83 = .ok (.iastore, 1) := by decide +kernel
theorem dX12_codesOf_84 : decode cX12_codesOf 84 = .ok (.iinc 7 1, 3) := by decide +kernel
theorem dX12_codesOf_87 : decode cX12_codesOf 87 = .ok (.goto (-45), 3) := by decide +kernel
theorem dX12_codesOf_90 : decode cX12_codesOf 90 = .ok (.iload 5, 2) := by decide +kernel
theorem dX12_codesOf_92 : decode cX12_codesOf 92 = .ok (.aload_n 0, 1) := by decide +kernel
theorem dX12_codesOf_93 : decode cX12_codesOf 93 = .ok (.getfield 179, 3) := by decide +kernel
theorem dX12_codesOf_96 : decode cX12_codesOf 96 = .ok (.idiv, 1) := by decide +kernel
theorem dX12_codesOf_97 : decode cX12_codesOf 97 = .ok (.istore 5, 2) := by decide +kernel
theorem dX12_codesOf_99 : decode cX12_codesOf 99 = .ok (.iinc 6 1, 3) := by decide +kernel
theorem dX12_codesOf_102 : decode cX12_codesOf 102 = .ok (.goto (-74), 3) := by decide +kernel
theorem dX12_codesOf_105 : decode cX12_codesOf 105 = .ok (.return_, 1) := by decide +kernel
set_option maxRecDepth 20000 in
theorem b_X12_codesOf_0 {k n : Nat} {x : Wx} {Z : Zt} {Q : Option Value → Wx → Zt → Prop} {a0 : Nat} {a1 : Nat} {v2 : Int} {v3 : Int} {a4 : Nat} 
    (h : V mX12_codesOf k n 3 [some (r_ a0), some (r_ a1), some (i_ v2), some (i_ v3), some (r_ a4), some (i_ 0), none, none] [] x Z Q) :
    V mX12_codesOf k n 0 [some (r_ a0), some (r_ a1), some (i_ v2), some (i_ v3), some (r_ a4), none, none, none] [] x Z Q :=
  V_iconst dX12_codesOf_0 (V_istore (lv' := [some (r_ a0), some (r_ a1), some (i_ v2), some (i_ v3), some (r_ a4), some (i_ 0), none, none]) dX12_codesOf_1 (Nat.le_of_ble_eq_true rfl) rfl (V_msk [true, true, true, true, true, true, false, false] rfl h))
set_option maxRecDepth 20000 in
theorem b_X12_codesOf_3 {k n : Nat} {x : Wx} {Z : Zt} {Q : Option Value → Wx → Zt → Prop} {a0 : Nat} {a1 : Nat} {v2 : Int} {v3 : Int} {a4 : Nat} {v5 : Int} (s_a4 : x.1 a4 = some (100, 32))
    (h : Rg v5 ∧ (((32 ≤ v5) → (V mX12_codesOf k n 28 [some (r_ a0), some (r_ a1), some (i_ v2), none, some (r_ a4), some (i_ v3), some (i_ 0), none] [] x Z Q)) ∧ ((v5 < 32) → (0 ≤ v5 ∧ (∀ Z1 : Zt, Z1 = up Z a4 v5.toNat 0 → (V mX12_codesOf k n 3 [some (r_ a0), some (r_ a1), some (i_ v2), some (i_ v3), some (r_ a4), some (i_ (v5 + 1)), none, none] [] x Z1 Q)))))) :
    V mX12_codesOf k n 3 [some (r_ a0), some (r_ a1), some (i_ v2), some (i_ v3), some (r_ a4), some (i_ v5), none, none] [] x Z Q :=
  V_iload dX12_codesOf_3 rfl (V_bipush dX12_codesOf_5 rfl (V_icmp_ge (tgt := 22) dX12_codesOf_7 rfl h.1 (rg_c rfl) (fun c1 => V_iload_n dX12_codesOf_22 rfl (V_istore (lv' := [some (r_ a0), some (r_ a1), some (i_ v2), some (i_ v3), some (r_ a4), some (i_ v3), none, none]) dX12_codesOf_23 (Nat.le_of_ble_eq_true rfl) rfl (V_iconst dX12_codesOf_25 (V_istore (lv' := [some (r_ a0), some (r_ a1), some (i_ v2), some (i_ v3), some (r_ a4), some (i_ v3), some (i_ 0), none]) dX12_codesOf_26 (Nat.le_of_ble_eq_true rfl) rfl (V_msk [true, true, true, false, true, true, true, false] rfl (h.2.1 c1)))))) (fun c1 => V_aload dX12_codesOf_10 rfl (V_iload dX12_codesOf_12 rfl (V_iconst dX12_codesOf_14 (V_iast (t := 100) s_a4 (by decide) (by decide) rfl (h.2.2 c1).1 c1 (Nat.le_of_ble_eq_true rfl) dX12_codesOf_15 (V_nmZ (fun Z1 eZ1 => V_iinc (lv' := [some (r_ a0), some (r_ a1), some (i_ v2), some (i_ v3), some (r_ a4), some (i_ (v5 + 1)), none, none]) dX12_codesOf_16 rfl (Nat.le_of_ble_eq_true rfl) rfl (V_goto (tgt := 3) dX12_codesOf_19 rfl (V_msk [true, true, true, true, true, true, false, false] rfl ((h.2.2 c1).2 Z1 eZ1)))))))))))
set_option maxRecDepth 20000 in
theorem b_X12_codesOf_28 {k n : Nat} {x : Wx} {Z : Zt} {Q : Option Value → Wx → Zt → Prop} {a0 : Nat} {a1 : Nat} {v2 : Int} {a4 : Nat} {v5 : Int} {v6 : Int} 
    (h : Rg v6 ∧ Rg v2 ∧ (((v2 ≤ v6) → (Q none x Z)) ∧ ((v6 < v2) → (Rg v5 ∧ (((v5 ≤ 0) → (Q none x Z)) ∧ ((0 < v5) → (V mX12_codesOf k n 42 [some (r_ a0), some (r_ a1), some (i_ v2), none, some (r_ a4), some (i_ v5), some (i_ v6), some (i_ 0)] [] x Z Q))))))) :
    V mX12_codesOf k n 28 [some (r_ a0), some (r_ a1), some (i_ v2), none, some (r_ a4), some (i_ v5), some (i_ v6), none] [] x Z Q :=
  V_iload dX12_codesOf_28 rfl (V_iload_n dX12_codesOf_30 rfl (V_icmp_ge (tgt := 105) dX12_codesOf_31 rfl h.1 h.2.1 (fun c1 => V_ret dX12_codesOf_105 rfl (h.2.2.1 c1)) (fun c1 => V_iload dX12_codesOf_34 rfl (V_if_le (tgt := 105) dX12_codesOf_36 rfl (h.2.2.2 c1).1 (fun c2 => V_ret dX12_codesOf_105 rfl ((h.2.2.2 c1).2.1 c2)) (fun c2 => V_iconst dX12_codesOf_39 (V_istore (lv' := [some (r_ a0), some (r_ a1), some (i_ v2), none, some (r_ a4), some (i_ v5), some (i_ v6), some (i_ 0)]) dX12_codesOf_40 (Nat.le_of_ble_eq_true rfl) rfl (V_msk [true, true, true, false, true, true, true, true] rfl ((h.2.2.2 c1).2.2 c2))))))))
set_option maxRecDepth 20000 in
theorem b_X12_codesOf_42 {k n : Nat} {x : Wx} {Z : Zt} {Q : Option Value → Wx → Zt → Prop} {a0 : Nat} {a1 : Nat} {v2 : Int} {a4 : Nat} {v5 : Int} {v6 : Int} {v7 : Int} (o_a0 : Is12 x a0) (s_a4 : x.1 a4 = some (100, 32)) (s_a1 : x.1 a1 = some (100, 3072))
    (h : Rg v7 ∧ Rg (Z a0 39) ∧ (((Z a0 39 ≤ v7) → (Rg v5 ∧ Rg (Z a0 11) ∧ 0 < Z a0 11 ∧ (V mX12_codesOf k n 28 [some (r_ a0), some (r_ a1), some (i_ v2), none, some (r_ a4), some (i_ (Int.tdiv v5 (Z a0 11))), some (i_ (v6 + 1)), none] [] x Z Q))) ∧ ((v7 < Z a0 39) → (0 ≤ v7 ∧ v7 < 32 ∧ (Rg v5 ∧ Rg (Z a0 11) ∧ 0 < Z a0 11 ∧ (0 ≤ (32 * v6) + v7 ∧ (32 * v6) + v7 < 3072 ∧ (Rg ((Z a4 v7.toNat) + ((Int.tmod v5 (Z a0 11)) * (Z a1 ((32 * v6) + v7).toNat))) ∧ Z a0 11 ≤ 13 ∧ (∀ Z1 : Zt, Z1 = up Z a4 v7.toNat (((Z a4 v7.toNat) + ((Int.tmod v5 (Z a0 11)) * (Z a1 ((32 * v6) + v7).toNat))) % Z a0 11) → (V mX12_codesOf k n 42 [some (r_ a0), some (r_ a1), some (i_ v2), none, some (r_ a4), some (i_ v5), some (i_ v6), some (i_ (v7 + 1))] [] x Z1 Q))))))))) :
    V mX12_codesOf k n 42 [some (r_ a0), some (r_ a1), some (i_ v2), none, some (r_ a4), some (i_ v5), some (i_ v6), some (i_ v7)] [] x Z Q :=
  V_iload dX12_codesOf_42 rfl (V_aload_n dX12_codesOf_44 rfl (G_12_39 o_a0.1 lf_12_423 dX12_codesOf_45 (V_icmp_ge (tgt := 90) dX12_codesOf_48 rfl h.1 h.2.1 (fun c1 => V_iload dX12_codesOf_90 rfl (V_aload_n dX12_codesOf_92 rfl (G_12_11 o_a0.1 lf_12_179 dX12_codesOf_93 (V_idiv dX12_codesOf_96 (h.2.2.1 c1).1 (h.2.2.1 c1).2.1 (h.2.2.1 c1).2.2.1 (V_istore (lv' := [some (r_ a0), some (r_ a1), some (i_ v2), none, some (r_ a4), some (i_ (Int.tdiv v5 (Z a0 11))), some (i_ v6), some (i_ v7)]) dX12_codesOf_97 (Nat.le_of_ble_eq_true rfl) rfl (V_iinc (lv' := [some (r_ a0), some (r_ a1), some (i_ v2), none, some (r_ a4), some (i_ (Int.tdiv v5 (Z a0 11))), some (i_ (v6 + 1)), some (i_ v7)]) dX12_codesOf_99 rfl (Nat.le_of_ble_eq_true rfl) rfl (V_goto (tgt := 28) dX12_codesOf_102 rfl (V_msk [true, true, true, false, true, true, true, false] rfl (h.2.2.1 c1).2.2.2)))))))) (fun c1 => V_aload dX12_codesOf_51 rfl (V_iload dX12_codesOf_53 rfl (V_aload_n dX12_codesOf_55 rfl (V_aload dX12_codesOf_56 rfl (V_iload dX12_codesOf_58 rfl (V_iald (t := 100) s_a4 (by decide) rfl (h.2.2.2 c1).1 (h.2.2.2 c1).2.1 (Nat.le_of_ble_eq_true rfl) dX12_codesOf_60 (V_iload dX12_codesOf_61 rfl (V_aload_n dX12_codesOf_63 rfl (G_12_11 o_a0.1 lf_12_179 dX12_codesOf_64 (V_irem dX12_codesOf_67 (h.2.2.2 c1).2.2.1 (h.2.2.2 c1).2.2.2.1 (h.2.2.2 c1).2.2.2.2.1 (V_aload_n dX12_codesOf_68 rfl (V_bipush dX12_codesOf_69 rfl (V_iload dX12_codesOf_71 rfl (V_imul dX12_codesOf_73 (V_iload dX12_codesOf_74 rfl (V_iadd dX12_codesOf_76 (V_iald (t := 100) s_a1 (by decide) rfl (h.2.2.2 c1).2.2.2.2.2.1 (h.2.2.2 c1).2.2.2.2.2.2.1 (Nat.le_of_ble_eq_true rfl) dX12_codesOf_77 (V_imul dX12_codesOf_78 (V_iadd dX12_codesOf_79 (V_callV (k' := 0) (n' := 0) (t := 12) (q := (RX12, TX12, 46)) [i_ ((Z a4 v7.toNat) + ((Int.tmod v5 (Z a0 11)) * (Z a1 ((32 * v6) + v7).toNat)))] [i_ v7, r_ a4] okX12_mod o_a0.1 rfl rfl lm_12_182 liX12_mod lqX12_mod (Nat.le_of_ble_eq_true rfl) (Nat.le_of_ble_eq_true rfl) (Nat.le_of_ble_eq_true rfl) (cat_of rfl) (Nat.le_of_ble_eq_true rfl) (Nat.zero_le _) (Nat.zero_le _) rfl dX12_codesOf_80 (sp_X12_mod o_a0 (h.2.2.2 c1).2.2.2.2.2.2.2.1 (h.2.2.2 c1).2.2.2.2.1 (h.2.2.2 c1).2.2.2.2.2.2.2.2.1 (V_iast (t := 100) s_a4 (by decide) (by decide) rfl (h.2.2.2 c1).1 (h.2.2.2 c1).2.1 (Nat.le_of_ble_eq_true rfl) dX12_codesOf_83 (V_nmZ (fun Z1 eZ1 => V_iinc (lv' := [some (r_ a0), some (r_ a1), some (i_ v2), none, some (r_ a4), some (i_ v5), some (i_ v6), some (i_ (v7 + 1))]) dX12_codesOf_84 rfl (Nat.le_of_ble_eq_true rfl) rfl (V_goto (tgt := 42) dX12_codesOf_87 rfl (V_msk [true, true, true, false, true, true, true, true] rfl ((h.2.2.2 c1).2.2.2.2.2.2.2.2.2 Z1 eZ1))))))))))))))))))))))))))))))
theorem dX12_unlike_0 : decode cX12_unlike 0 = .ok (.iconst 0, 1) := by decide +kernel
theorem dX12_unlike_1 : decode cX12_unlike 1 = .ok (.istore_n 1, 1) := by decide +kernel
theorem dX12_unlike_2 : decode cX12_unlike 2 = .ok (.iconst 0, 1) := by decide +kernel
theorem dX12_unlike_3 : decode cX12_unlike 3 = .ok (.istore_n 2, 1) := by decide +kernel
theorem dX12_unlike_4 : decode cX12_unlike 4 = .ok (.iload_n 2, 1) := by decide +kernel
theorem dX12_unlike_5 : decode cX12_unlike 5 = .ok (.aload_n 0, 1) := by decide +kernel
theorem dX12_unlike_6 : decode cX12_unlike 6 = .ok (.getfield 423, 3) := by decide +kernel
theorem dX12_unlike_9 : decode cX12_unlike 9 = .ok (.if_icmp .ge 32, 3) := by decide +kernel
theorem dX12_unlike_12 : decode cX12_unlike 12 = .ok (.iload_n 1, 1) := by decide +kernel
theorem dX12_unlike_13 : decode cX12_unlike 13 = .ok (.aload_n 0, 1) := by decide +kernel
theorem dX12_unlike_14 : decode cX12_unlike 14 = .ok (.getfield 78, 3) := by decide +kernel
theorem dX12_unlike_17 : decode cX12_unlike 17 = .ok (.iload_n 2, 1) := by decide +kernel
theorem dX12_unlike_18 : decode cX12_unlike 18 = .ok (.iaload, 1) := by decide +kernel
theorem dX12_unlike_19 : decode cX12_unlike 19 = .ok (.aload_n 0, 1) := by decide +kernel
theorem dX12_unlike_20 : decode cX12_unlike 20 = .ok (.getfield 81, 3) := by decide +kernel
theorem dX12_unlike_23 : decode cX12_unlike 23 = .ok (.iload_n 2, 1) := by decide +kernel
theorem dX12_unlike_24 : decode cX12_unlike 24 = .ok (.iaload, 1) := by decide +kernel
theorem dX12_unlike_25 : decode cX12_unlike 25 = .ok (.if_icmp .ne 7, 3) := by decide +kernel
theorem dX12_unlike_28 : decode cX12_unlike 28 = .ok (.iconst 0, 1) := by decide +kernel
theorem dX12_unlike_29 : decode cX12_unlike 29 = .ok (.goto 4, 3) := by decide +kernel
theorem dX12_unlike_32 : decode cX12_unlike 32 = .ok (.iconst 1, 1) := by decide +kernel
theorem dX12_unlike_33 : decode cX12_unlike 33 = .ok (.iadd, 1) := by decide +kernel
theorem dX12_unlike_34 : decode cX12_unlike 34 = .ok (.istore_n 1, 1) := by decide +kernel
theorem dX12_unlike_35 : decode cX12_unlike 35 = .ok (.iinc 2 1, 3) := by decide +kernel
theorem dX12_unlike_38 : decode cX12_unlike 38 = .ok (.goto (-34), 3) := by decide +kernel
theorem dX12_unlike_41 : decode cX12_unlike 41 = .ok (.iload_n 1, 1) := by decide +kernel
theorem dX12_unlike_42 : decode cX12_unlike 42 = .ok (.ireturn, 1) := by decide +kernel
set_option maxRecDepth 20000 in
theorem b_X12_unlike_0 {k n : Nat} {x : Wx} {Z : Zt} {Q : Option Value → Wx → Zt → Prop} {a0 : Nat} 
    (h : V mX12_unlike k n 4 [some (r_ a0), some (i_ 0), some (i_ 0)] [] x Z Q) :
    V mX12_unlike k n 0 [some (r_ a0), none, none] [] x Z Q :=
  V_iconst dX12_unlike_0 (V_istore_n (lv' := [some (r_ a0), some (i_ 0), none]) dX12_unlike_1 (Nat.le_of_ble_eq_true rfl) rfl (V_iconst dX12_unlike_2 (V_istore_n (lv' := [some (r_ a0), some (i_ 0), some (i_ 0)]) dX12_unlike_3 (Nat.le_of_ble_eq_true rfl) rfl (V_msk [true, true, true] rfl h))))
set_option maxRecDepth 20000 in
theorem b_X12_unlike_4 {k n : Nat} {x : Wx} {Z : Zt} {Q : Option Value → Wx → Zt → Prop} {a0 : Nat} {v1 : Int} {v2 : Int} (o_a0 : Is12 x a0)
    (h : Rg v2 ∧ Rg (Z a0 39) ∧ (((Z a0 39 ≤ v2) → (Q (some (i_ v1)) x Z)) ∧ ((v2 < Z a0 39) → (0 ≤ v2 ∧ v2 < 32 ∧ (Rg (Z (a0 + 23) v2.toNat) ∧ Rg (Z (a0 + 24) v2.toNat) ∧ (((Z (a0 + 23) v2.toNat ≠ Z (a0 + 24) v2.toNat) → (V mX12_unlike k n 33 [some (r_ a0), none, some (i_ v2)] [i_ 1, i_ v1] x Z Q)) ∧ ((Z (a0 + 23) v2.toNat = Z (a0 + 24) v2.toNat) → (V mX12_unlike k n 33 [some (r_ a0), none, some (i_ v2)] [i_ 0, i_ v1] x Z Q)))))))) :
    V mX12_unlike k n 4 [some (r_ a0), some (i_ v1), some (i_ v2)] [] x Z Q :=
  V_iload_n dX12_unlike_4 rfl (V_aload_n dX12_unlike_5 rfl (G_12_39 o_a0.1 lf_12_423 dX12_unlike_6 (V_icmp_ge (tgt := 41) dX12_unlike_9 rfl h.1 h.2.1 (fun c1 => V_iload_n dX12_unlike_41 rfl (V_iret (ty := .int) dX12_unlike_42 rfl rfl (h.2.2.1 c1))) (fun c1 => V_iload_n dX12_unlike_12 rfl (V_aload_n dX12_unlike_13 rfl (G_12_42 o_a0.1 o_a0.qR42 lf_12_78 dX12_unlike_14 (V_iload_n dX12_unlike_17 rfl (V_iald (t := 100) o_a0.qK42 (by decide) rfl (h.2.2.2 c1).1 (h.2.2.2 c1).2.1 (Nat.le_of_ble_eq_true rfl) dX12_unlike_18 (V_aload_n dX12_unlike_19 rfl (G_12_43 o_a0.1 o_a0.qR43 lf_12_81 dX12_unlike_20 (V_iload_n dX12_unlike_23 rfl (V_iald (t := 100) o_a0.qK43 (by decide) rfl (h.2.2.2 c1).1 (h.2.2.2 c1).2.1 (Nat.le_of_ble_eq_true rfl) dX12_unlike_24 (V_icmp_ne (tgt := 32) dX12_unlike_25 rfl (h.2.2.2 c1).2.2.1 (h.2.2.2 c1).2.2.2.1 (fun c2 => V_iconst dX12_unlike_32 (V_msk [true, false, true] rfl ((h.2.2.2 c1).2.2.2.2.1 c2))) (fun c2 => V_iconst dX12_unlike_28 (V_goto (tgt := 33) dX12_unlike_29 rfl (V_msk [true, false, true] rfl ((h.2.2.2 c1).2.2.2.2.2 c2)))))))))))))))))
set_option maxRecDepth 20000 in
theorem b_X12_unlike_33 {k n : Nat} {x : Wx} {Z : Zt} {Q : Option Value → Wx → Zt → Prop} {a0 : Nat} {v2 : Int} {t0 : Int} {t1 : Int} 
    (h : V mX12_unlike k n 4 [some (r_ a0), some (i_ (t0 + t1)), some (i_ (v2 + 1))] [] x Z Q) :
    V mX12_unlike k n 33 [some (r_ a0), none, some (i_ v2)] [i_ t1, i_ t0] x Z Q :=
  V_iadd dX12_unlike_33 (V_istore_n (lv' := [some (r_ a0), some (i_ (t0 + t1)), some (i_ v2)]) dX12_unlike_34 (Nat.le_of_ble_eq_true rfl) rfl (V_iinc (lv' := [some (r_ a0), some (i_ (t0 + t1)), some (i_ (v2 + 1))]) dX12_unlike_35 rfl (Nat.le_of_ble_eq_true rfl) rfl (V_goto (tgt := 4) dX12_unlike_38 rfl (V_msk [true, true, true] rfl h))))
theorem dX12_isOwn_0 : decode cX12_isOwn 0 = .ok (.iconst 1, 1) := by decide +kernel
theorem dX12_isOwn_1 : decode cX12_isOwn 1 = .ok (.istore_n 1, 1) := by decide +kernel
theorem dX12_isOwn_2 : decode cX12_isOwn 2 = .ok (.iconst 0, 1) := by decide +kernel
theorem dX12_isOwn_3 : decode cX12_isOwn 3 = .ok (.istore_n 2, 1) := by decide +kernel
theorem dX12_isOwn_4 : decode cX12_isOwn 4 = .ok (.iload_n 2, 1) := by decide +kernel
theorem dX12_isOwn_5 : decode cX12_isOwn 5 = .ok (.aload_n 0, 1) := by decide +kernel
theorem dX12_isOwn_6 : decode cX12_isOwn 6 = .ok (.getfield 423, 3) := by decide +kernel
theorem dX12_isOwn_9 : decode cX12_isOwn 9 = .ok (.if_icmp .ge 34, 3) := by decide +kernel
theorem dX12_isOwn_12 : decode cX12_isOwn 12 = .ok (.iload_n 1, 1) := by decide +kernel
theorem dX12_isOwn_13 : decode cX12_isOwn 13 = .ok (.ifCond .eq 22, 3) := by decide +kernel
theorem dX12_isOwn_16 : decode cX12_isOwn 16 = .ok (.aload_n 0, 1) := by decide +kernel
theorem dX12_isOwn_17 : decode cX12_isOwn 17 = .ok (.getfield 81, 3) := by decide +kernel
theorem dX12_isOwn_20 : decode cX12_isOwn 20 = .ok (.iload_n 2, 1) := by decide +kernel
theorem dX12_isOwn_21 : decode cX12_isOwn 21 = .ok (.iaload, 1) := by decide +kernel
theorem dX12_isOwn_22 : decode cX12_isOwn 22 = .ok (.aload_n 0, 1) := by decide +kernel
theorem dX12_isOwn_23 : decode cX12_isOwn 23 = .ok (.getfield 84, 3) := by decide +kernel
theorem dX12_isOwn_26 : decode cX12_isOwn 26 = .ok (.iload_n 2, 1) := by decide +kernel
theorem dX12_isOwn_27 : decode cX12_isOwn 27 = .ok (.iaload, 1) := by decide +kernel
theorem dX12_isOwn_28 : decode cX12_isOwn 28 = .ok (.if_icmp .ne 7, 3) := by decide +kernel
theorem dX12_isOwn_31 : decode cX12_isOwn 31 = .ok (.iconst 1, 1) := by decide +kernel
theorem dX12_isOwn_32 : decode cX12_isOwn 32 = .ok (.goto 4, 3) := by decide +kernel
theorem dX12_isOwn_35 : decode cX12_isOwn 35 = .ok (.iconst 0, 1) := by decide +kernel
theorem dX12_isOwn_36 : decode cX12_isOwn 36 = .ok (.istore_n 1, 1) := by decide +kernel
theorem dX12_isOwn_37 : decode cX12_isOwn 37 = .ok (.iinc 2 1, 3) := by decide +kernel
theorem dX12_isOwn_40 : decode cX12_isOwn 40 = .ok (.goto (-36), 3) := by decide +kernel
theorem dX12_isOwn_43 : decode cX12_isOwn 43 = .ok (.iload_n 1, 1) := by decide +kernel
theorem dX12_isOwn_44 : decode cX12_isOwn 44 = .ok (.ireturn, 1) := by decide +kernel
set_option maxRecDepth 20000 in
theorem b_X12_isOwn_0 {k n : Nat} {x : Wx} {Z : Zt} {Q : Option Value → Wx → Zt → Prop} {a0 : Nat} 
    (h : V mX12_isOwn k n 4 [some (r_ a0), some (i_ 1), some (i_ 0)] [] x Z Q) :
    V mX12_isOwn k n 0 [some (r_ a0), none, none] [] x Z Q :=
  V_iconst dX12_isOwn_0 (V_istore_n (lv' := [some (r_ a0), some (i_ 1), none]) dX12_isOwn_1 (Nat.le_of_ble_eq_true rfl) rfl (V_iconst dX12_isOwn_2 (V_istore_n (lv' := [some (r_ a0), some (i_ 1), some (i_ 0)]) dX12_isOwn_3 (Nat.le_of_ble_eq_true rfl) rfl (V_msk [true, true, true] rfl h))))
set_option maxRecDepth 20000 in
theorem b_X12_isOwn_4 {k n : Nat} {x : Wx} {Z : Zt} {Q : Option Value → Wx → Zt → Prop} {a0 : Nat} {v1 : Int} {v2 : Int} (o_a0 : Is12 x a0)
    (h : Rg v2 ∧ Rg (Z a0 39) ∧ (((Z a0 39 ≤ v2) → ((v1 = 0 ∨ v1 = 1) ∧ (Q (some (i_ v1)) x Z))) ∧ ((v2 < Z a0 39) → (Rg v1 ∧ (((v1 = 0) → (V mX12_isOwn k n 35 [some (r_ a0), none, some (i_ v2)] [] x Z Q)) ∧ ((v1 ≠ 0) → (0 ≤ v2 ∧ v2 < 32 ∧ (Rg (Z (a0 + 24) v2.toNat) ∧ Rg (Z (a0 + 25) v2.toNat) ∧ (((Z (a0 + 24) v2.toNat ≠ Z (a0 + 25) v2.toNat) → (V mX12_isOwn k n 35 [some (r_ a0), none, some (i_ v2)] [] x Z Q)) ∧ ((Z (a0 + 24) v2.toNat = Z (a0 + 25) v2.toNat) → (V mX12_isOwn k n 36 [some (r_ a0), none, some (i_ v2)] [i_ 1] x Z Q))))))))))) :
    V mX12_isOwn k n 4 [some (r_ a0), some (i_ v1), some (i_ v2)] [] x Z Q :=
  V_iload_n dX12_isOwn_4 rfl (V_aload_n dX12_isOwn_5 rfl (G_12_39 o_a0.1 lf_12_423 dX12_isOwn_6 (V_icmp_ge (tgt := 43) dX12_isOwn_9 rfl h.1 h.2.1 (fun c1 => V_iload_n dX12_isOwn_43 rfl (V_iret (ty := .boolean) dX12_isOwn_44 rfl (nar_z (h.2.2.1 c1).1) (h.2.2.1 c1).2)) (fun c1 => V_iload_n dX12_isOwn_12 rfl (V_if_eq (tgt := 35) dX12_isOwn_13 rfl (h.2.2.2 c1).1 (fun c2 => V_msk [true, false, true] rfl ((h.2.2.2 c1).2.1 c2)) (fun c2 => V_aload_n dX12_isOwn_16 rfl (G_12_43 o_a0.1 o_a0.qR43 lf_12_81 dX12_isOwn_17 (V_iload_n dX12_isOwn_20 rfl (V_iald (t := 100) o_a0.qK43 (by decide) rfl ((h.2.2.2 c1).2.2 c2).1 ((h.2.2.2 c1).2.2 c2).2.1 (Nat.le_of_ble_eq_true rfl) dX12_isOwn_21 (V_aload_n dX12_isOwn_22 rfl (G_12_45 o_a0.1 o_a0.qR45 lf_12_84 dX12_isOwn_23 (V_iload_n dX12_isOwn_26 rfl (V_iald (t := 100) o_a0.qK45 (by decide) rfl ((h.2.2.2 c1).2.2 c2).1 ((h.2.2.2 c1).2.2 c2).2.1 (Nat.le_of_ble_eq_true rfl) dX12_isOwn_27 (V_icmp_ne (tgt := 35) dX12_isOwn_28 rfl ((h.2.2.2 c1).2.2 c2).2.2.1 ((h.2.2.2 c1).2.2 c2).2.2.2.1 (fun c3 => V_msk [true, false, true] rfl (((h.2.2.2 c1).2.2 c2).2.2.2.2.1 c3)) (fun c3 => V_iconst dX12_isOwn_31 (V_goto (tgt := 36) dX12_isOwn_32 rfl (V_msk [true, false, true] rfl (((h.2.2.2 c1).2.2 c2).2.2.2.2.2 c3))))))))))))))))))
set_option maxRecDepth 20000 in
theorem b_X12_isOwn_35 {k n : Nat} {x : Wx} {Z : Zt} {Q : Option Value → Wx → Zt → Prop} {a0 : Nat} {v2 : Int} 
    (h : V mX12_isOwn k n 36 [some (r_ a0), none, some (i_ v2)] [i_ 0] x Z Q) :
    V mX12_isOwn k n 35 [some (r_ a0), none, some (i_ v2)] [] x Z Q :=
  V_iconst dX12_isOwn_35 (V_msk [true, false, true] rfl h)
set_option maxRecDepth 20000 in
theorem b_X12_isOwn_36 {k n : Nat} {x : Wx} {Z : Zt} {Q : Option Value → Wx → Zt → Prop} {a0 : Nat} {v2 : Int} {t0 : Int} 
    (h : V mX12_isOwn k n 4 [some (r_ a0), some (i_ t0), some (i_ (v2 + 1))] [] x Z Q) :
    V mX12_isOwn k n 36 [some (r_ a0), none, some (i_ v2)] [i_ t0] x Z Q :=
  V_istore_n (lv' := [some (r_ a0), some (i_ t0), some (i_ v2)]) dX12_isOwn_36 (Nat.le_of_ble_eq_true rfl) rfl (V_iinc (lv' := [some (r_ a0), some (i_ t0), some (i_ (v2 + 1))]) dX12_isOwn_37 rfl (Nat.le_of_ble_eq_true rfl) rfl (V_goto (tgt := 4) dX12_isOwn_40 rfl (V_msk [true, true, true] rfl h)))
theorem dX12_drawn_0 : decode cX12_drawn 0 = .ok (.aload_n 0, 1) := by decide +kernel
theorem dX12_drawn_1 : decode cX12_drawn 1 = .ok (.aload_n 0, 1) := by decide +kernel
theorem dX12_drawn_2 : decode cX12_drawn 2 = .ok (.getfield 451, 3) := by decide +kernel
theorem dX12_drawn_5 : decode cX12_drawn 5 = .ok (.ldc_w 454, 3) := by decide +kernel
theorem dX12_drawn_8 : decode cX12_drawn 8 = .ok (.imul, 1) := by decide +kernel
theorem dX12_drawn_9 : decode cX12_drawn 9 = .ok (.sipush 12345, 3) := by decide +kernel
theorem dX12_drawn_12 : decode cX12_drawn 12 = .ok (.iadd, 1) := by decide +kernel
theorem dX12_drawn_13 : decode cX12_drawn 13 = .ok (.putfield 451, 3) := by decide +kernel
theorem dX12_drawn_16 : decode cX12_drawn 16 = .ok (.aload_n 0, 1) := by decide +kernel
theorem dX12_drawn_17 : decode cX12_drawn 17 = .ok (.getfield 451, 3) := by decide +kernel
theorem dX12_drawn_20 : decode cX12_drawn 20 = .ok (.bipush 16, 2) := by decide +kernel
theorem dX12_drawn_22 : decode cX12_drawn 22 = .ok (.iushr, 1) := by decide +kernel
theorem dX12_drawn_23 : decode cX12_drawn 23 = .ok (.iload_n 1, 1) := by decide +kernel
theorem dX12_drawn_24 : decode cX12_drawn 24 = .ok (.irem, 1) := by decide +kernel
theorem dX12_drawn_25 : decode cX12_drawn 25 = .ok (.ireturn, 1) := by decide +kernel
set_option maxRecDepth 20000 in
theorem b_X12_drawn_0 {k n : Nat} {x : Wx} {Z : Zt} {Q : Option Value → Wx → Zt → Prop} {a0 : Nat} {v1 : Int} (o_a0 : Is12 x a0)
    (h : ∀ Z1 : Zt, Z1 = up Z a0 44 (((Z a0 44) * 1103515245) + 12345) → (Rg ((Z1 a0 44) % 4294967296 / 2 ^ 16) ∧ Rg v1 ∧ 0 < v1 ∧ (Q (some (i_ (Int.tmod ((Z1 a0 44) % 4294967296 / 2 ^ 16) v1))) x Z1))) :
    V mX12_drawn k n 0 [some (r_ a0), some (i_ v1)] [] x Z Q :=
  V_aload_n dX12_drawn_0 rfl (V_aload_n dX12_drawn_1 rfl (G_12_44 o_a0.1 lf_12_451 dX12_drawn_2 (V_ldcw (z := 1103515245) dX12_drawn_5 lk_12_454 (V_imul dX12_drawn_8 (V_sipush dX12_drawn_9 rfl (V_iadd dX12_drawn_12 (P_12_44 o_a0.1 lf_12_451 dX12_drawn_13 (V_nmZ (fun Z1 eZ1 => V_aload_n dX12_drawn_16 rfl (G_12_44 o_a0.1 lf_12_451 dX12_drawn_17 (V_bipush dX12_drawn_20 rfl (V_iushr dX12_drawn_22 (ushr_eq _ _ (by decide) (by decide)) (V_iload_n dX12_drawn_23 rfl (V_irem dX12_drawn_24 (h Z1 eZ1).1 (h Z1 eZ1).2.1 (h Z1 eZ1).2.2.1 (V_iret (ty := .int) dX12_drawn_25 rfl rfl (h Z1 eZ1).2.2.2)))))))))))))))
theorem dvN_le {P : Nat} : ∀ j n : Nat, dvN P n j ≤ n
  | 0, n => Nat.le_refl n
  | j + 1, n => Nat.le_trans (dvN_le j (n / P)) (Nat.div_le_self n P)
/-- a word: made of rows, by the figures of w -/
def wdW (p : Int) (B : Nat → Nat → Int) (many len : Nat) (w : Nat) (i : Nat) : Int := if i < len then lcw p B many (dgI p w) i else 0
theorem sp_X12_codesOf {k n : Nat} {x : Wx} {Z : Zt} {Q : Option Value → Wx → Zt → Prop} {b r t : Nat} {v w : Int} (o : Is12 x b) (sr : x.1 r = some (100, 3072)) (st : x.1 t = some (100, 32)) {p : Int} {B : Nat → Nat → Int} {many len : Nat} (hp : IsP p ∧ Z b 11 = p) (hl : Z b 39 = (len : Int) ∧ len ≤ 32) (hm : v = (many : Int) ∧ many ≤ 96) (hw : Rg w ∧ 0 ≤ w) (hB : ∀ q : Nat, q < many → ∀ i : Nat, i < len → Z r (32 * q + i) = B q i ∧ 0 ≤ B q i ∧ B q i < p) (hn : t ≠ b ∧ t ≠ r) (h : ∀ Z' : Zt, ((∀ i : Nat, i < 32 → Z' t i = wdW p B many len w.toNat i) ∧ Oth Z Z' (fun c => c = t)) → Q none x Z') : V mX12_codesOf k n 0 [some (r_ b), some (r_ r), some (i_ v), some (i_ w), some (r_ t), none, none, none] [] x Z Q := by
  obtain ⟨hp, b11⟩ := hp
  obtain ⟨b39, hlen⟩ := hl
  have hpr := hp.rg
  unfold wdW at h
  obtain ⟨w0, hw0⟩ : ∃ w0 : Nat, w = (w0 : Int) := ⟨w.toNat, by omega⟩
  obtain ⟨P, hP⟩ : ∃ P : Nat, p = (P : Int) := ⟨p.toNat, by omega⟩
  have hPt : p.toNat = P := by omega
  obtain ⟨hmv, hm96⟩ := hm
  subst hmv
  rw [hw0, Int.toNat_natCast] at h
  have hwr := hw.1
  have bt : b ≠ t := fun e => hn.1 e.symm
  have rt : r ≠ t := fun e => hn.2 e.symm
  have lp : ∀ (m q : Nat) (Z1 : Zt), q + m = many → (∀ i : Nat, i < 32 → Z1 t i = if i < len then smT q (fun j => dgI p w0 j * B j i) % p else 0) → Oth Z Z1 (fun c => c = t) → V mX12_codesOf k n 28 [some (r_ b), some (r_ r), some (i_ (many : Int)), none, some (r_ t), some (i_ (dvN P w0 q : Int)), some (i_ (q : Int)), none] [] x Z1 Q := by
    intro m
    induction m with
    | zero =>
      intro q Z1 hq hz ho
      refine b_X12_codesOf_28 ⟨⟨by omega, by omega⟩, ⟨by omega, by omega⟩, fun _ => h Z1 ⟨fun i hi => ?_, ho⟩, fun c => by omega⟩
      rw [hz i hi, show q = many by omega]; rfl
    | succ m ih =>
      intro q Z1 hq hz ho
      have hyr : Rg (dvN P w0 q : Int) := by
        have := dvN_le (P := P) q w0
        exact ⟨by have := hwr.1; omega, by have := hwr.2; omega⟩
      refine b_X12_codesOf_28 ⟨⟨by omega, by omega⟩, ⟨by omega, by omega⟩, fun c => by omega, fun _ => ⟨hyr, fun c => h Z1 ⟨fun i hi => ?_, ho⟩, fun c => ?_⟩⟩
      · rw [hz i hi]
        by_cases ci : i < len
        · rw [if_pos ci, if_pos ci]
          unfold lcw
          have hz0 : dvN P w0 q = 0 := by omega
          rw [← smT_more (f := fun j => dgI p w0 j * B j i) (k := q) (m := m + 1) (fun j h1 h2 => ?_), show q + (m + 1) = many by omega]
          have : dgI p w0 j = 0 := by
            unfold dgI
            have := dvN_z hz0 (j - q)
            rw [show q + (j - q) = j by omega] at this
            rw [hPt, dgt0_dv, this, Nat.zero_mod]; rfl
          rw [this, Int.zero_mul]
        · rw [if_neg ci, if_neg ci]
      · have hfig : Int.tmod (dvN P w0 q : Int) p = dgI p w0 q := by
          unfold dgI
          rw [hPt, dgt0_dv, hP, Int.tmod_eq_emod_of_nonneg (by omega)]; rfl
        have hdiv : Int.tdiv (dvN P w0 q : Int) p = (dvN P w0 (q + 1) : Int) := by
          rw [dvN_s, hP, Int.tdiv_eq_ediv_of_nonneg (by omega)]; rfl
        have hfr : 0 ≤ dgI p w0 q ∧ dgI p w0 q < p := by rw [← hfig, Int.tmod_eq_emod_of_nonneg (by omega)]; exact emr _ (by omega)
        have lp2 : ∀ (m2 i : Nat) (Z2 : Zt), i + m2 = len → (∀ s : Nat, s < 32 → Z2 t s = if s < len then (if s < i then smT (q + 1) (fun j => dgI p w0 j * B j s) % p else smT q (fun j => dgI p w0 j * B j s) % p) else 0) → Oth Z Z2 (fun c => c = t) → V mX12_codesOf k n 42 [some (r_ b), some (r_ r), some (i_ (many : Int)), none, some (r_ t), some (i_ (dvN P w0 q : Int)), some (i_ (q : Int)), some (i_ (i : Int))] [] x Z2 Q := by
          intro m2
          induction m2 with
          | zero =>
            intro i Z2 hi hw2 ho2
            refine b_X12_codesOf_42 o st sr ?_
            rw [ho2 b bt, b39, b11, hdiv]
            refine ⟨⟨by omega, by omega⟩, ⟨by omega, by omega⟩, fun _ => ⟨hyr, ⟨by omega, by omega⟩, by omega, ih (q + 1) Z2 (by omega) (fun s hs => ?_) ho2⟩, fun c => by omega⟩
            rw [hw2 s hs]
            by_cases ct : s < len
            · rw [if_pos ct, if_pos ct, if_pos (by omega)]
            · rw [if_neg ct, if_neg ct]
          | succ m2 ih2 =>
            intro i Z2 hi hw2 ho2
            have eV : Z2 r (32 * q + i) = B q i := by rw [ho2 r rt]; exact (hB q (by omega) i (by omega)).1
            have hvr := (hB q (by omega) i (by omega)).2
            have eW : Z2 t i = smT q (fun j => dgI p w0 j * B j i) % p := by rw [hw2 i (by omega), if_pos (by omega), if_neg (by omega)]
            have hm1 := mul13 (a := dgI p w0 q) (b := B q i) ⟨by omega, by omega⟩ ⟨by omega, by omega⟩
            have hm2 := emr (smT q (fun j => dgI p w0 j * B j i)) (p := p) (by omega)
            refine b_X12_codesOf_42 o st sr ?_
            rw [ho2 b bt, b39, b11, hfig, Int.toNat_natCast, show (32 * (q : Int) + (i : Int)).toNat = 32 * q + i by omega, eV, eW]
            refine ⟨⟨by omega, by omega⟩, ⟨by omega, by omega⟩, fun c => by omega, fun _ => ⟨by omega, by omega, hyr, ⟨by omega, by omega⟩, by omega, by omega, by omega, ⟨by omega, by omega⟩, by omega, fun Z3 e3 => ih2 (i + 1) Z3 (by omega) (fun s hs => ?_) (fun c hc => ?_)⟩⟩
            · rw [e3, up_at]
              by_cases cs : s = i
              · rw [if_pos cs, if_pos (by omega), if_pos (by omega), cs]
                show _ = (smT q (fun j => dgI p w0 j * B j i) + dgI p w0 q * B q i) % p
                rw [Int.emod_add_emod]
              · rw [if_neg cs, hw2 s hs]
                by_cases c1 : s < len
                · rw [if_pos c1, if_pos c1]
                  by_cases c2 : s < i
                  · rw [if_pos c2, if_pos (by omega)]
                  · rw [if_neg c2, if_neg (by omega)]
                · rw [if_neg c1, if_neg c1]
            · rw [e3, up_row _ _ _ _ _ hc]; exact ho2 c hc
        exact lp2 len 0 Z1 (by omega) (fun s hs => by
          rw [hz s hs]
          by_cases c1 : s < len
          · rw [if_pos c1, if_pos c1, if_neg (by omega)]
          · rw [if_neg c1, if_neg c1]) ho
  have lz : ∀ (m i : Nat) (Z1 : Zt), i + m = 32 → (∀ s : Nat, s < i → Z1 t s = 0) → Oth Z Z1 (fun c => c = t) → V mX12_codesOf k n 3 [some (r_ b), some (r_ r), some (i_ (many : Int)), some (i_ (w0 : Int)), some (r_ t), some (i_ (i : Int)), none, none] [] x Z1 Q := by
    intro m
    induction m with
    | zero =>
      intro i Z1 hi hz ho
      refine b_X12_codesOf_3 st ⟨⟨by omega, by omega⟩, fun _ => lp many 0 Z1 (by omega) (fun s hs => ?_) ho, fun c => by omega⟩
      rw [hz s (by omega)]
      split
      · show (0 : Int) = 0 % p
        rw [Int.zero_emod]
      · rfl
    | succ m ih =>
      intro i Z1 hi hz ho
      refine b_X12_codesOf_3 st ⟨⟨by omega, by omega⟩, fun c => by omega, fun _ => ⟨by omega, fun Z2 e2 => ih (i + 1) Z2 (by omega) (fun s hs => ?_) (fun c hc => by rw [e2, up_row _ _ _ _ _ hc]; exact ho c hc)⟩⟩
      rw [e2, Int.toNat_natCast, up_at]
      by_cases cs : s = i
      · rw [if_pos cs]
      · rw [if_neg cs]; exact hz s (by omega)
  rw [hw0]
  exact b_X12_codesOf_0 (lz 32 0 Z (by omega) (fun s hs => absurd hs (Nat.not_lt_zero s)) (fun c _ => rfl))
theorem unl_01 (A D : Nat → Int) : ∀ m : Nat, 0 ≤ unl A D m ∧ unl A D m ≤ m
  | 0 => ⟨Int.le_refl 0, Int.le_refl 0⟩
  | m + 1 => by
    have := unl_01 A D m
    unfold unl
    split <;> omega
theorem sp_X12_unlike {k n : Nat} {x : Wx} {Z : Zt} {Q : Option Value → Wx → Zt → Prop} {b : Nat} (o : Is12 x b) {len : Nat} (hl : Z b 39 = (len : Int) ∧ len ≤ 32) (hb : ∀ i : Nat, i < len → Rg (Z (b + 23) i) ∧ Rg (Z (b + 24) i)) (h : Q (some (i_ (unl (Z (b + 23)) (Z (b + 24)) len))) x Z) : V mX12_unlike k n 0 [some (r_ b), none, none] [] x Z Q := by
  have lp : ∀ (m i : Nat), i + m = len → V mX12_unlike k n 4 [some (r_ b), some (i_ (unl (Z (b + 23)) (Z (b + 24)) i)), some (i_ (i : Int))] [] x Z Q := by
    intro m
    induction m with
    | zero =>
      intro i hi
      refine b_X12_unlike_4 o ?_
      rw [hl.1]
      exact ⟨⟨by omega, by omega⟩, ⟨by omega, by omega⟩, fun _ => by rw [show i = len by omega]; exact h, fun c => by omega⟩
    | succ m ih =>
      intro i hi
      have hh := hb i (by omega)
      have nx := ih (i + 1) (by omega)
      have e : unl (Z (b + 23)) (Z (b + 24)) (i + 1) = unl (Z (b + 23)) (Z (b + 24)) i + (if Z (b + 23) i = Z (b + 24) i then 0 else 1) := Int.add_comm _ _
      rw [e] at nx
      refine b_X12_unlike_4 o ?_
      rw [hl.1, Int.toNat_natCast]
      refine ⟨⟨by omega, by omega⟩, ⟨by omega, by omega⟩, fun c => by omega, fun _ => ⟨by omega, by omega, hh.1, hh.2, fun c => b_X12_unlike_33 ?_, fun c => b_X12_unlike_33 ?_⟩⟩
      · rw [if_neg c] at nx; exact nx
      · rw [if_pos c] at nx; exact nx
  exact b_X12_unlike_0 (lp len 0 (by omega))
theorem sp_X12_isOwn {k n : Nat} {x : Wx} {Z : Zt} {Q : Option Value → Wx → Zt → Prop} {b : Nat} (o : Is12 x b) {len : Nat} (hl : Z b 39 = (len : Int) ∧ len ≤ 32) (hb : ∀ i : Nat, i < len → Rg (Z (b + 24) i) ∧ Rg (Z (b + 25) i)) (h : ∀ r : Int, ((r = 1 ∧ ∀ i : Nat, i < len → Z (b + 24) i = Z (b + 25) i) ∨ (r = 0 ∧ ¬ ∀ i : Nat, i < len → Z (b + 24) i = Z (b + 25) i)) → Q (some (i_ r)) x Z) : V mX12_isOwn k n 0 [some (r_ b), none, none] [] x Z Q := by
  have lp : ∀ (m i : Nat) (v : Int), i + m = len → ((v = 1 ∧ ∀ j : Nat, j < i → Z (b + 24) j = Z (b + 25) j) ∨ (v = 0 ∧ ¬ ∀ i : Nat, i < len → Z (b + 24) i = Z (b + 25) i)) → V mX12_isOwn k n 4 [some (r_ b), some (i_ v), some (i_ (i : Int))] [] x Z Q := by
    intro m
    induction m with
    | zero =>
      intro i v hi hv
      refine b_X12_isOwn_4 o ?_
      rw [hl.1]
      refine ⟨⟨by omega, by omega⟩, ⟨by omega, by omega⟩, fun _ => ⟨by omega, h v ?_⟩, fun c => by omega⟩
      rcases hv with ⟨e, e2⟩ | e
      · exact Or.inl ⟨e, fun j hj => e2 j (by omega)⟩
      · exact Or.inr e
    | succ m ih =>
      intro i v hi hv
      have hh := hb i (by omega)
      refine b_X12_isOwn_4 o ?_
      rw [hl.1, Int.toNat_natCast]
      refine ⟨⟨by omega, by omega⟩, ⟨by omega, by omega⟩, fun c => by omega, fun _ => ⟨⟨by omega, by omega⟩, fun c0 => b_X12_isOwn_35 (b_X12_isOwn_36 (ih (i + 1) 0 (by omega) (Or.inr ⟨rfl, ?_⟩))), fun c0 => ⟨by omega, by omega, hh.1, hh.2, fun c1 => b_X12_isOwn_35 (b_X12_isOwn_36 (ih (i + 1) 0 (by omega) (Or.inr ⟨rfl, fun e => c1 (e i (by omega))⟩))), fun c1 => b_X12_isOwn_36 (ih (i + 1) 1 (by omega) (Or.inl ⟨rfl, fun j hj => ?_⟩))⟩⟩⟩
      · rcases hv with e | e
        · omega
        · exact e.2
      · rcases hv with e | e
        · by_cases cj : j = i
          · rw [cj]; exact c1
          · exact e.2 j (by omega)
        · omega
  exact b_X12_isOwn_0 (lp len 0 1 (by omega) (Or.inl ⟨rfl, fun j hj => absurd hj (Nat.not_lt_zero j)⟩))
def drM (v q : Int) : Int := drw v % 4294967296 / 2 ^ 16 % q
theorem sp_X12_drawn {k n : Nat} {x : Wx} {Z : Zt} {Q : Option Value → Wx → Zt → Prop} {b : Nat} {q : Int} (o : Is12 x b) (hq : 0 < q ∧ q ≤ 100) (h : ∀ Z' : Zt, Z' = up Z b 44 (drw (Z b 44)) → Q (some (i_ (drM (Z b 44) q))) x Z') : V mX12_drawn k n 0 [some (r_ b), some (i_ q)] [] x Z Q := by
  refine b_X12_drawn_0 o (fun Z1 e1 => ?_)
  have e44 : Z1 b 44 = drw (Z b 44) := by rw [e1, up_self]; rfl
  rw [e44]
  have r := emr (drw (Z b 44)) (show (0 : Int) < 4294967296 by decide)
  have r0 : 0 ≤ drw (Z b 44) % 4294967296 / 2 ^ 16 := Int.ediv_nonneg r.1 (by decide)
  have r1 : drw (Z b 44) % 4294967296 / 2 ^ 16 < 65536 := Int.ediv_lt_of_lt_mul (by decide) (by omega)
  refine ⟨⟨by omega, by omega⟩, ⟨by omega, by omega⟩, hq.1, ?_⟩
  rw [Int.tmod_eq_emod_of_nonneg r0]
  exact h Z1 e1
