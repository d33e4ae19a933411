theorem dX12_torsion_0 : decode cX12_torsion 0 = .ok (.iload_n 2, 1) := by decide +kernel
theorem dX12_torsion_1 : decode cX12_torsion 1 = .ok (.iconst 0, 1) := by decide +kernel
theorem dX12_torsion_2 : decode cX12_torsion 2 = .ok (.bipush 99, 2) := by decide +kernel
theorem dX12_torsion_4 : decode cX12_torsion 4 = .ok (.invokestatic 129, 3) := by decide +kernel
theorem dX12_torsion_7 : decode cX12_torsion 7 = .ok (.ifCond .eq 11, 3) := by decide +kernel
theorem dX12_torsion_10 : decode cX12_torsion 10 = .ok (.aload_n 0, 1) := by decide +kernel
theorem dX12_torsion_11 : decode cX12_torsion 11 = .ok (.iload_n 1, 1) := by decide +kernel
theorem dX12_torsion_12 : decode cX12_torsion 12 = .ok (.invokevirtual 249, 3) := by decide +kernel
theorem dX12_torsion_15 : decode cX12_torsion 15 = .ok (.ifCond .ne 5, 3) := by decide +kernel
theorem dX12_torsion_18 : decode cX12_torsion 18 = .ok (.iconst (-1), 1) := by decide +kernel
theorem dX12_torsion_19 : decode cX12_torsion 19 = .ok (.ireturn, 1) := by decide +kernel
theorem dX12_torsion_20 : decode cX12_torsion 20 = .ok (.aload_n 0, 1) := by decide +kernel
theorem dX12_torsion_21 : decode cX12_torsion 21 = .ok (.invokevirtual 411, 3) := by decide +kernel
theorem dX12_torsion_24 : decode cX12_torsion 24 = .ok (.iconst 0, 1) := by decide +kernel
theorem dX12_torsion_25 : decode cX12_torsion 25 = .ok (.istore_n 3, 1) := by decide +kernel
theorem dX12_torsion_26 : decode cX12_torsion 26 = .ok (.iconst 0, 1) := by decide +kernel
theorem dX12_torsion_27 : decode cX12_torsion 27 = .ok (.istore 4, 2) := by decide +kernel
theorem dX12_torsion_29 : decode cX12_torsion 29 = .ok (.iload 4, 2) := by decide +kernel
theorem dX12_torsion_31 : decode cX12_torsion 31 = .ok (.aload_n 0, 1) := by decide +kernel
theorem dX12_torsion_32 : decode cX12_torsion 32 = .ok (.getfield 405, 3) := by decide +kernel
theorem dX12_torsion_35 : decode cX12_torsion 35 = .ok (.if_icmp .ge 69, 3) := by decide +kernel
theorem dX12_torsion_38 : decode cX12_torsion 38 = .ok (.iload_n 2, 1) := by decide +kernel
theorem dX12_torsion_39 : decode cX12_torsion 39 = .ok (.ifCond .ne 29, 3) := by decide +kernel
theorem dX12_torsion_42 : decode cX12_torsion 42 = .ok (.aload_n 0, 1) := by decide +kernel
theorem dX12_torsion_43 : decode cX12_torsion 43 = .ok (.iconst 5, 1) := by decide +kernel
theorem dX12_torsion_44 : decode cX12_torsion 44 = .ok (.iload 4, 2) := by decide +kernel
theorem dX12_torsion_46 : decode cX12_torsion 46 = .ok (.imul, 1) := by decide +kernel
theorem dX12_torsion_47 : decode cX12_torsion 47 = .ok (.invokevirtual 414, 3) := by decide +kernel
theorem dX12_torsion_50 : decode cX12_torsion 50 = .ok (.istore 5, 2) := by decide +kernel
theorem dX12_torsion_52 : decode cX12_torsion 52 = .ok (.iload 5, 2) := by decide +kernel
theorem dX12_torsion_54 : decode cX12_torsion 54 = .ok (.iload_n 3, 1) := by decide +kernel
theorem dX12_torsion_55 : decode cX12_torsion 55 = .ok (.if_icmp .le 8, 3) := by decide +kernel
theorem dX12_torsion_58 : decode cX12_torsion 58 = .ok (.iload 5, 2) := by decide +kernel
theorem dX12_torsion_60 : decode cX12_torsion 60 = .ok (.goto 4, 3) := by decide +kernel
theorem dX12_torsion_63 : decode cX12_torsion 63 = .ok (.iload_n 3, 1) := by decide +kernel
theorem dX12_torsion_64 : decode cX12_torsion 64 = .ok (.istore_n 3, 1) := by decide +kernel
theorem dX12_torsion_65 : decode cX12_torsion 65 = .ok (.goto 33, 3) := by decide +kernel
theorem dX12_torsion_68 : decode cX12_torsion 68 = .ok (.aload_n 0, 1) := by decide +kernel
theorem dX12_torsion_69 : decode cX12_torsion 69 = .ok (.iconst 5, 1) := by decide +kernel
theorem dX12_torsion_70 : decode cX12_torsion 70 = .ok (.iload 4, 2) := by decide +kernel
theorem dX12_torsion_72 : decode cX12_torsion 72 = .ok (.imul, 1) := by decide +kernel
theorem dX12_torsion_73 : decode cX12_torsion 73 = .ok (.iload_n 2, 1) := by decide +kernel
theorem dX12_torsion_74 : decode cX12_torsion 74 = .ok (.sipush 2910, 3) := by decide +kernel
theorem dX12_torsion_77 : decode cX12_torsion 77 = .ok (.invokevirtual 384, 3) := by decide +kernel
theorem dX12_torsion_80 : decode cX12_torsion 80 = .ok (.iload_n 3, 1) := by decide +kernel
theorem dX12_torsion_81 : decode cX12_torsion 81 = .ok (.aload_n 0, 1) := by decide +kernel
theorem dX12_torsion_82 : decode cX12_torsion 82 = .ok (.sipush 2910, 3) := by decide +kernel
theorem dX12_torsion_85 : decode cX12_torsion 85 = .ok (.invokevirtual 399, 3) := by decide +kernel
theorem dX12_torsion_88 : decode cX12_torsion 88 = .ok (.ifCond .eq 7, 3) := by decide +kernel
theorem dX12_torsion_91 : decode cX12_torsion 91 = .ok (.iconst 1, 1) := by decide +kernel
theorem dX12_torsion_92 : decode cX12_torsion 92 = .ok (.goto 4, 3) := by decide +kernel
theorem dX12_torsion_95 : decode cX12_torsion 95 = .ok (.iconst 0, 1) := by decide +kernel
theorem dX12_torsion_96 : decode cX12_torsion 96 = .ok (.iadd, 1) := by decide +kernel
theorem dX12_torsion_97 : decode cX12_torsion 97 = .ok (.istore_n 3, 1) := by decide +kernel
theorem dX12_torsion_98 : decode cX12_torsion 98 = .ok (.iinc 4 1, 3) := by decide +kernel
theorem dX12_torsion_101 : decode cX12_torsion 101 = .ok (.goto (-72), 3) := by decide +kernel
theorem dX12_torsion_104 : decode cX12_torsion 104 = .ok (.iload_n 3, 1) := by decide +kernel
theorem dX12_torsion_105 : decode cX12_torsion 105 = .ok (.ireturn, 1) := by decide +kernel
set_option maxRecDepth 20000 in
theorem b_X12_torsion_0 {k n : Nat} {x : Wx} {Z : Zt} {Q : Option Value → Wx → Zt → Prop} {a0 : Nat} {v1 : Int} {v2 : Int} (o_a0 : Is12 x a0)
    (h : (Rg v2 ∧ Rg (0 : Int) ∧ Rg (99 : Int)) ∧ (∀ (r1 : Int), (((r1 = 1 ∧ (0 : Int) ≤ v2 ∧ v2 ≤ (99 : Int)) ∨ (r1 = 0 ∧ (v2 < (0 : Int) ∨ (99 : Int) < v2)))) → (Rg r1 ∧ (((r1 = 0) → (V mX12_torsion k n 18 [none, none, none, none, none, none] [] x Z Q)) ∧ ((r1 ≠ 0) → (∃ g1 : Nat → Nat → Int, (∃ g2 : Td, (MT (Z (a0 + 1)) g2 ∧ TdV g2 ∧ MS Z a0 g1 ∧ Rg v1 ∧ (∀ (Z'1 : Zt) (P'1 : Nat → Nat → Int) (r2 : Int), (TkC a0 g2 v1 Z Z'1 g1 P'1 r2) → (Rg r2 ∧ (((r2 ≠ 0) → (∃ g3 : Int, (∃ g4 : Nat → Int, (MF Z'1 a0 g3 g4 ∧ (mAl g3 g4).length ≤ 579 ∧ (∀ (Z'2 : Zt), (AlS a0 g3 g4 (mAl g3 g4) Z'1 Z'2) → (V mX12_torsion k n 29 [some (r_ a0), none, some (i_ v2), some (i_ 0), some (i_ 0), none] [] x Z'2 Q)))))) ∧ ((r2 = 0) → (V mX12_torsion k n 18 [none, none, none, none, none, none] [] x Z'1 Q))))))))))))) :
    V mX12_torsion k n 0 [some (r_ a0), some (i_ v1), some (i_ v2), none, none, none] [] x Z Q :=
  V_iload_n dX12_torsion_0 rfl (V_iconst dX12_torsion_1 (V_bipush dX12_torsion_2 rfl (V_callS (k' := 0) (n' := 0) [i_ v2, i_ 0, i_ 99] [] okX12_isIn lm_12_129 lsX12_isIn (Nat.le_of_ble_eq_true rfl) (Nat.le_of_ble_eq_true rfl) (Nat.le_of_ble_eq_true rfl) (cat_of rfl) (Nat.le_of_ble_eq_true rfl) (Nat.zero_le _) (Nat.zero_le _) rfl dX12_torsion_4 (sp_X12_isIn  h.1 (fun r1 p1 => V_if_eq (tgt := 18) dX12_torsion_7 rfl (h.2 r1 p1).1 (fun c1 => V_msk [false, false, false, false, false, false] rfl ((h.2 r1 p1).2.1 c1)) (fun c1 => V_aload_n dX12_torsion_10 rfl (V_iload_n dX12_torsion_11 rfl (Exists.elim ((h.2 r1 p1).2.2 c1) (fun g1 w1 => Exists.elim w1 (fun g2 w2 => V_callV (k' := 0) (n' := 0) (t := 12) (q := (RX12, TX12, 46)) [i_ v1] [] okX12_takesCurve o_a0.1 rfl rfl lm_12_249 liX12_takesCurve lqX12_takesCurve (Nat.le_of_ble_eq_true rfl) (Nat.le_of_ble_eq_true rfl) (Nat.le_of_ble_eq_true rfl) (cat_of rfl) (Nat.le_of_ble_eq_true rfl) (Nat.zero_le _) (Nat.zero_le _) rfl dX12_torsion_12 (w_X12_takesCurve o_a0 w2.1 w2.2.1 w2.2.2.1 w2.2.2.2.1 (fun Z'1 P'1 r2 p2 => V_if_ne (tgt := 20) dX12_torsion_15 rfl (w2.2.2.2.2 Z'1 P'1 r2 p2).1 (fun c2 => V_aload_n dX12_torsion_20 rfl (Exists.elim ((w2.2.2.2.2 Z'1 P'1 r2 p2).2.1 c2) (fun g3 w3 => Exists.elim w3 (fun g4 w4 => V_callV (k' := 0) (n' := 0) (t := 12) (q := (RX12, TX12, 46)) [] [] okX12_allClasses o_a0.1 rfl rfl lm_12_411 liX12_allClasses lqX12_allClasses (Nat.le_of_ble_eq_true rfl) (Nat.le_of_ble_eq_true rfl) (Nat.le_of_ble_eq_true rfl) (cat_of rfl) (Nat.le_of_ble_eq_true rfl) (Nat.zero_le _) (Nat.zero_le _) rfl dX12_torsion_21 (sp_X12_allClasses o_a0 w4.1 w4.2.1 (fun Z'2 p3 => V_iconst dX12_torsion_24 (V_istore_n (lv' := [some (r_ a0), some (i_ v1), some (i_ v2), some (i_ 0), none, none]) dX12_torsion_25 (Nat.le_of_ble_eq_true rfl) rfl (V_iconst dX12_torsion_26 (V_istore (lv' := [some (r_ a0), some (i_ v1), some (i_ v2), some (i_ 0), some (i_ 0), none]) dX12_torsion_27 (Nat.le_of_ble_eq_true rfl) rfl (V_msk [true, false, true, true, true, false] rfl (w4.2.2 Z'2 p3))))))))))) (fun c2 => V_msk [false, false, false, false, false, false] rfl ((w2.2.2.2.2 Z'1 P'1 r2 p2).2.2 c2))))))))))))))
set_option maxRecDepth 20000 in
theorem b_X12_torsion_18 {k n : Nat} {x : Wx} {Z : Zt} {Q : Option Value → Wx → Zt → Prop}  
    (h : Q (some (i_ (-1))) x Z) :
    V mX12_torsion k n 18 [none, none, none, none, none, none] [] x Z Q :=
  V_iconst dX12_torsion_18 (V_iret (ty := .int) dX12_torsion_19 rfl rfl h)
set_option maxRecDepth 20000 in
theorem b_X12_torsion_29 {k n : Nat} {x : Wx} {Z : Zt} {Q : Option Value → Wx → Zt → Prop} {a0 : Nat} {v2 : Int} {v3 : Int} {v4 : Int} (o_a0 : Is12 x a0)
    (h : Rg v4 ∧ Rg (Z a0 36) ∧ (((Z a0 36 ≤ v4) → (Q (some (i_ v3)) x Z)) ∧ ((v4 < Z a0 36) → (Rg v2 ∧ (((v2 ≠ 0) → (∃ g1 : Int, (∃ g2 : Nat → Int, (∃ g3 : UV, (MF Z a0 g1 g2 ∧ RP g1 (gen g2) g3 ∧ KC Z a0 (5 * v4).toNat g3 ∧ ((0 ≤ (5 * v4) ∧ ((5 * v4) + 5 ≤ 2915 ∨ 2925 ≤ (5 * v4)) ∧ (5 * v4) ≤ 2995) ∧ (0 ≤ (2910 : Int) ∧ ((2910 : Int) + 5 ≤ 2915 ∨ 2925 ≤ (2910 : Int)) ∧ (2910 : Int) ≤ 2995)) ∧ (-2000 ≤ v2 ∧ v2 ≤ 2000) ∧ (∀ (Z'1 : Zt), (KC Z'1 a0 (2910 : Int).toNat (tmT g1 g2 g3 v2) ∧ MF Z'1 a0 g1 g2 ∧ CG a0 (TmP (2910 : Int).toNat) Z Z'1) → (∃ g4 : UV, ((0 ≤ (2910 : Int) ∧ (2910 : Int) ≤ 2995) ∧ KC Z'1 a0 (2910 : Int).toNat g4 ∧ (Rg (if pd g4.1 = 0 then (1 : Int) else 0) ∧ ((((if pd g4.1 = 0 then (1 : Int) else 0) = 0) → (V mX12_torsion k n 96 [some (r_ a0), none, some (i_ v2), none, some (i_ v4), none] [i_ 0, i_ v3] x Z'1 Q)) ∧ (((if pd g4.1 = 0 then (1 : Int) else 0) ≠ 0) → (V mX12_torsion k n 96 [some (r_ a0), none, some (i_ v2), none, some (i_ v4), none] [i_ 1, i_ v3] x Z'1 Q)))))))))))) ∧ ((v2 = 0) → (∃ g5 : Int, (∃ g6 : Nat → Int, (∃ g7 : UV, (MF Z a0 g5 g6 ∧ RP g5 (gen g6) g7 ∧ KC Z a0 (5 * v4).toNat g7 ∧ (0 ≤ (5 * v4) ∧ (5 * v4) ≤ 2895) ∧ (1 ≤ Z a0 36 ∧ Z a0 36 ≤ 579) ∧ (∀ (Z'2 : Zt), (MF Z'2 a0 g5 g6 ∧ CG a0 (TmP 2910) Z Z'2) → (Rg (oqA g5 g6 g7 600 2 (Z a0 36)) ∧ Rg v3 ∧ ((((oqA g5 g6 g7 600 2 (Z a0 36)) ≤ v3) → (V mX12_torsion k n 64 [some (r_ a0), none, some (i_ v2), none, some (i_ v4), none] [i_ v3] x Z'2 Q)) ∧ ((v3 < (oqA g5 g6 g7 600 2 (Z a0 36))) → (V mX12_torsion k n 64 [some (r_ a0), none, some (i_ v2), none, some (i_ v4), none] [i_ (oqA g5 g6 g7 600 2 (Z a0 36))] x Z'2 Q))))))))))))))) :
    V mX12_torsion k n 29 [some (r_ a0), none, some (i_ v2), some (i_ v3), some (i_ v4), none] [] x Z Q :=
  V_iload dX12_torsion_29 rfl (V_aload_n dX12_torsion_31 rfl (G_12_36 o_a0.1 lf_12_405 dX12_torsion_32 (V_icmp_ge (tgt := 104) dX12_torsion_35 rfl h.1 h.2.1 (fun c1 => V_iload_n dX12_torsion_104 rfl (V_iret (ty := .int) dX12_torsion_105 rfl rfl (h.2.2.1 c1))) (fun c1 => V_iload_n dX12_torsion_38 rfl (V_if_ne (tgt := 68) dX12_torsion_39 rfl (h.2.2.2 c1).1 (fun c2 => V_aload_n dX12_torsion_68 rfl (V_iconst dX12_torsion_69 (V_iload dX12_torsion_70 rfl (V_imul dX12_torsion_72 (V_iload_n dX12_torsion_73 rfl (V_sipush dX12_torsion_74 rfl (Exists.elim ((h.2.2.2 c1).2.1 c2) (fun g1 w1 => Exists.elim w1 (fun g2 w2 => Exists.elim w2 (fun g3 w3 => V_callV (k' := 0) (n' := 0) (t := 12) (q := (RX12, TX12, 46)) [i_ (5 * v4), i_ v2, i_ 2910] [] okX12_timesOf o_a0.1 rfl rfl lm_12_384 liX12_timesOf lqX12_timesOf (Nat.le_of_ble_eq_true rfl) (Nat.le_of_ble_eq_true rfl) (Nat.le_of_ble_eq_true rfl) (cat_of rfl) (Nat.le_of_ble_eq_true rfl) (Nat.zero_le _) (Nat.zero_le _) rfl dX12_torsion_77 (sp_X12_timesOf o_a0 w3.1 w3.2.1 w3.2.2.1 w3.2.2.2.1 w3.2.2.2.2.1 (fun Z'1 p1 => V_iload_n dX12_torsion_80 rfl (V_aload_n dX12_torsion_81 rfl (V_sipush dX12_torsion_82 rfl (Exists.elim (w3.2.2.2.2.2 Z'1 p1) (fun g4 w4 => V_callV (k' := 0) (n' := 0) (t := 12) (q := (RX12, TX12, 46)) [i_ 2910] [i_ v3] okX12_isNone o_a0.1 rfl rfl lm_12_399 liX12_isNone lqX12_isNone (Nat.le_of_ble_eq_true rfl) (Nat.le_of_ble_eq_true rfl) (Nat.le_of_ble_eq_true rfl) (cat_of rfl) (Nat.le_of_ble_eq_true rfl) (Nat.zero_le _) (Nat.zero_le _) rfl dX12_torsion_85 (sp_X12_isNone o_a0 w4.1 w4.2.1 (V_if_eq (tgt := 95) dX12_torsion_88 rfl w4.2.2.1 (fun c3 => V_iconst dX12_torsion_95 (V_msk [true, false, true, false, true, false] rfl (w4.2.2.2.1 c3))) (fun c3 => V_iconst dX12_torsion_91 (V_goto (tgt := 96) dX12_torsion_92 rfl (V_msk [true, false, true, false, true, false] rfl (w4.2.2.2.2 c3)))))))))))))))))))))) (fun c2 => V_aload_n dX12_torsion_42 rfl (V_iconst dX12_torsion_43 (V_iload dX12_torsion_44 rfl (V_imul dX12_torsion_46 (Exists.elim ((h.2.2.2 c1).2.2 c2) (fun g5 w5 => Exists.elim w5 (fun g6 w6 => Exists.elim w6 (fun g7 w7 => V_callV (k' := 0) (n' := 0) (t := 12) (q := (RX12, TX12, 46)) [i_ (5 * v4)] [] okX12_orderOfClass o_a0.1 rfl rfl lm_12_414 liX12_orderOfClass lqX12_orderOfClass (Nat.le_of_ble_eq_true rfl) (Nat.le_of_ble_eq_true rfl) (Nat.le_of_ble_eq_true rfl) (cat_of rfl) (Nat.le_of_ble_eq_true rfl) (Nat.zero_le _) (Nat.zero_le _) rfl dX12_torsion_47 (sp_X12_orderOfClass o_a0 w7.1 w7.2.1 w7.2.2.1 w7.2.2.2.1 w7.2.2.2.2.1 (fun Z'2 p2 => V_istore (lv' := [some (r_ a0), none, some (i_ v2), some (i_ v3), some (i_ v4), some (i_ (oqA g5 g6 g7 600 2 (Z a0 36)))]) dX12_torsion_50 (Nat.le_of_ble_eq_true rfl) rfl (V_iload dX12_torsion_52 rfl (V_iload_n dX12_torsion_54 rfl (V_icmp_le (tgt := 63) dX12_torsion_55 rfl (w7.2.2.2.2.2 Z'2 p2).1 (w7.2.2.2.2.2 Z'2 p2).2.1 (fun c4 => V_iload_n dX12_torsion_63 rfl (V_msk [true, false, true, false, true, false] rfl ((w7.2.2.2.2.2 Z'2 p2).2.2.1 c4))) (fun c4 => V_iload dX12_torsion_58 rfl (V_goto (tgt := 64) dX12_torsion_60 rfl (V_msk [true, false, true, false, true, false] rfl ((w7.2.2.2.2.2 Z'2 p2).2.2.2 c4))))))))))))))))))))))
set_option maxRecDepth 20000 in
theorem b_X12_torsion_64 {k n : Nat} {x : Wx} {Z : Zt} {Q : Option Value → Wx → Zt → Prop} {a0 : Nat} {v2 : Int} {v4 : Int} {t0 : Int} 
    (h : V mX12_torsion k n 98 [some (r_ a0), none, some (i_ v2), some (i_ t0), some (i_ v4), none] [] x Z Q) :
    V mX12_torsion k n 64 [some (r_ a0), none, some (i_ v2), none, some (i_ v4), none] [i_ t0] x Z Q :=
  V_istore_n (lv' := [some (r_ a0), none, some (i_ v2), some (i_ t0), some (i_ v4), none]) dX12_torsion_64 (Nat.le_of_ble_eq_true rfl) rfl (V_goto (tgt := 98) dX12_torsion_65 rfl (V_msk [true, false, true, true, true, false] rfl h))
set_option maxRecDepth 20000 in
theorem b_X12_torsion_96 {k n : Nat} {x : Wx} {Z : Zt} {Q : Option Value → Wx → Zt → Prop} {a0 : Nat} {v2 : Int} {v4 : Int} {t0 : Int} {t1 : Int} 
    (h : V mX12_torsion k n 98 [some (r_ a0), none, some (i_ v2), some (i_ (t0 + t1)), some (i_ v4), none] [] x Z Q) :
    V mX12_torsion k n 96 [some (r_ a0), none, some (i_ v2), none, some (i_ v4), none] [i_ t1, i_ t0] x Z Q :=
  V_iadd dX12_torsion_96 (V_istore_n (lv' := [some (r_ a0), none, some (i_ v2), some (i_ (t0 + t1)), some (i_ v4), none]) dX12_torsion_97 (Nat.le_of_ble_eq_true rfl) rfl (V_msk [true, false, true, true, true, false] rfl h))
set_option maxRecDepth 20000 in
theorem b_X12_torsion_98 {k n : Nat} {x : Wx} {Z : Zt} {Q : Option Value → Wx → Zt → Prop} {a0 : Nat} {v2 : Int} {v3 : Int} {v4 : Int} 
    (h : V mX12_torsion k n 29 [some (r_ a0), none, some (i_ v2), some (i_ v3), some (i_ (v4 + 1)), none] [] x Z Q) :
    V mX12_torsion k n 98 [some (r_ a0), none, some (i_ v2), some (i_ v3), some (i_ v4), none] [] x Z Q :=
  V_iinc (lv' := [some (r_ a0), none, some (i_ v2), some (i_ v3), some (i_ (v4 + 1)), none]) dX12_torsion_98 rfl (Nat.le_of_ble_eq_true rfl) rfl (V_goto (tgt := 29) dX12_torsion_101 rfl (V_msk [true, false, true, true, true, false] rfl h))
/-- the greatest order (d = 0), or how many d kills, of the first k -/
def tsN (p : Int) (F : Nat → Int) (d : Int) (L : List UV) : Nat → Int
  | 0 => 0
  | k + 1 => if d = 0 then (if oqA p F (L.getD k czero) 600 2 L.length ≤ tsN p F d L k then tsN p F d L k else oqA p F (L.getD k czero) 600 2 L.length) else (if pd (tmT p F (L.getD k czero) d).1 = 0 then 1 else 0) + tsN p F d L k
def mATorsion (T : Td) (c d : Int) : Int := if (0 ≤ c ∧ c < T.ct 0) ∧ 0 ≤ d ∧ d ≤ 99 then tsN (T.p c.toNat) (T.F c.toNat) d (mAl (T.p c.toNat) (T.F c.toNat)) (mAl (T.p c.toNat) (T.F c.toNat)).length else -1
theorem alL_ok {p g : Int} (hp : IsP p) {F : Nat → Int} {d : Nat} (hd : d = 1 ∨ d = 2) (hg : (d : Int) ≤ g) (hg2 : g ≤ 2) : ∀ m c : Nat, AllP p g (alL p F d m c)
  | 0, _ => AllP.nil
  | m + 1, c => by
    unfold alL
    refine AllP.ap ?_ (alL_ok hp hd hg hg2 m (c + 1))
    split
    · exact AllP.one (cdU_ok hp hd hg hg2 _)
    · exact AllP.nil
theorem mAl_ok {p : Int} {F : Nat → Int} (hC : CF p (gen F) F) : AllP p (gen F) (mAl p F) := by
  have hgn := hC.2.2.2.2
  unfold mAl
  refine AllP.ap (AllP.ap (AllP.one (czero_ok hC.1 (by omega))) (alL_ok hC.1 (Or.inl rfl) (by omega) (by omega) _ _)) ?_
  split
  · exact alL_ok hC.1 (Or.inr rfl) (by omega) (by omega) _ _
  · exact AllP.nil
theorem oqA_rg {p : Int} {F : Nat → Int} {A : UV} : ∀ (m : Nat) (q n : Int), 2 ≤ q → 1 ≤ n → 1 ≤ oqA p F A m q n ∧ oqA p F A m q n ≤ n
  | 0, q, n, _, h => ⟨h, Int.le_refl _⟩
  | m + 1, q, n, hq, h => by
    unfold oqA
    split
    · have h1 := oqL_rg (p := p) (F := F) (A := A) hq 12 n h
      have h2 := oqA_rg (p := p) (F := F) (A := A) m (q + 1) (oqL p F A q 12 n) (by omega) h1.1
      omega
    · omega
theorem tsN_rg {p : Int} {F : Nat → Int} {d : Int} {L : List UV} (hL : 1 ≤ L.length ∧ L.length ≤ 579) : ∀ k : Nat, 0 ≤ tsN p F d L k ∧ tsN p F d L k ≤ 579 + (k : Int)
  | 0 => ⟨Int.le_refl _, by show (0 : Int) ≤ _; omega⟩
  | k + 1 => by
    have ih := tsN_rg (p := p) (F := F) (d := d) hL k
    unfold tsN
    by_cases cd : d = 0
    · rw [if_pos cd]
      have := oqA_rg (p := p) (F := F) (A := L.getD k czero) 600 2 (L.length : Int) (by decide) (by omega)
      split <;> omega
    · rw [if_neg cd]
      split <;> omega
theorem sp_X12_torsion {k n : Nat} {x : Wx} {Z : Zt} {Q : Option Value → Wx → Zt → Prop} {b : Nat} {c d : Int} {S : Ab} (hI : MI x Z b S) (hV : AbV S) (hc : Rg c) (hd : Rg d) (hN : (0 ≤ c ∧ c < S.nw.ct 0) → (mAl (S.nw.p c.toNat) (S.nw.F c.toNat)).length ≤ 579) (h : RAm b x Z Q (mATorsion S.nw c d)) : V mX12_torsion k n 0 [some (r_ b), some (i_ c), some (i_ d), none, none, none] [] x Z Q := by
  obtain ⟨o, hT, _⟩ := id hI
  unfold mATorsion at h
  have no : ∀ Z' : Zt, Mq b Z Z' → ¬ ((0 ≤ c ∧ c < S.nw.ct 0) ∧ 0 ≤ d ∧ d ≤ 99) → V mX12_torsion k n 18 [none, none, none, none, none, none] [] x Z' Q := fun Z' h1 h2 => b_X12_torsion_18 (by rw [if_neg h2] at h; exact h Z' h1)
  refine b_X12_torsion_0 o ⟨⟨hd, rg_z, ⟨by decide, by decide⟩⟩, fun r1 h1 => ⟨⟨by omega, by omega⟩, fun c1 => no Z Mq.rf (by omega), fun c1 => ⟨_, S.nw, hT, hV.1, MS.any, hc, fun Z1 P1 r2 ht => ⟨ht.rg.1, fun c2 => ?_, fun c2 => no Z1 (ht.no c2).2 (fun e => (ht.no c2).1 e.1)⟩⟩⟩⟩
  obtain ⟨hcc, hF, hq⟩ := ht.yes hV.1 c2
  have hN := hN hcc
  rw [if_pos ⟨hcc, by omega⟩] at h
  generalize S.nw.p c.toNat = p at h hF hN
  generalize S.nw.F c.toNat = F at h hF hN
  have hC := hF.2.1
  have aok := mAl_ok hC
  refine ⟨p, F, hF, hN, fun Z2 hS2 => ?_⟩
  have h1 : 1 ≤ (mAl p F).length := by unfold mAl; rw [List.length_append, List.length_append]; show 1 ≤ 1 + _ + _; omega
  obtain ⟨L, hL⟩ : ∃ L : List UV, mAl p F = L := ⟨_, rfl⟩
  rw [hL] at h hN h1 aok hS2
  have q2 : Mq b Z Z2 := hq.tr ⟨hS2.2.2.2 _ (by omega) (by omega) (by omega), hS2.2.2.2 _ (by omega) (by omega) (by omega), fun c hc => hS2.2.2.2 c (by omega) (by omega) (by omega)⟩
  have kp : ∀ Z3 Z4 : Zt, AlS b p F L Z1 Z3 → MF Z4 b p F → CG b (TmP 2910) Z3 Z4 → AlS b p F L Z1 Z4 := fun Z3 Z4 hS f4 g4 => ⟨by rw [g4.1 b (by omega) (by omega)]; exact hS.1, fun i hi => (hS.2.1 i hi).cg g4 (fun j hj => ⟨by omega, by omega⟩), f4, fun q q1 q2 q3 => by rw [g4.1 q q2 q3]; exact hS.2.2.2 q q1 q2 q3⟩
  have lp : ∀ (m j : Nat) (Z3 : Zt), j + m = L.length → AlS b p F L Z1 Z3 → Mq b Z Z3 → V mX12_torsion k n 29 [some (r_ b), none, some (i_ d), some (i_ (tsN p F d L j)), some (i_ (j : Int)), none] [] x Z3 Q := by
    intro m
    induction m with
    | zero =>
      intro j Z3 hj hS q3
      have e : j = L.length := by omega
      subst e
      refine b_X12_torsion_29 o ?_
      rw [hS.1]
      exact ⟨⟨by omega, by omega⟩, ⟨by omega, by omega⟩, fun _ => h Z3 q3, fun cc => by omega⟩
    | succ m ih =>
      intro j Z3 hj hS q3
      have hjl : j < L.length := by omega
      have rA := aok.at hjl
      have hts := tsN_rg (p := p) (F := F) (d := d) ⟨h1, hN⟩ j
      have nx : ∀ (v : Int) (Z4 : Zt), v = tsN p F d L (j + 1) → MF Z4 b p F → CG b (TmP 2910) Z3 Z4 → V mX12_torsion k n 98 [some (r_ b), none, some (i_ d), some (i_ v), some (i_ (j : Int)), none] [] x Z4 Q := fun v Z4 e f4 g4 => by
        rw [e]
        exact b_X12_torsion_98 (ih (j + 1) Z4 (by omega) (kp Z3 Z4 hS f4 g4) (q3.tr g4.mq))
      have eT : tsN p F d L (j + 1) = if d = 0 then (if oqA p F (L.getD j czero) 600 2 L.length ≤ tsN p F d L j then tsN p F d L j else oqA p F (L.getD j czero) 600 2 L.length) else (if pd (tmT p F (L.getD j czero) d).1 = 0 then 1 else 0) + tsN p F d L j := rfl
      have k5 : KC Z3 b (5 * (j : Int)).toNat (L.getD j czero) := by rw [show (5 * (j : Int)).toNat = 5 * j from by omega]; exact hS.2.1 j hjl
      refine b_X12_torsion_29 o ?_
      rw [hS.1]
      refine ⟨⟨by omega, by omega⟩, ⟨by omega, by omega⟩, fun cc => by omega, fun _ => ⟨hd, fun c3 => ⟨p, F, _, hS.2.2.1, rA, k5, ⟨by omega, by decide⟩, ⟨by omega, by omega⟩, fun Z4 hz4 => ⟨_, by decide, hz4.1, ?_⟩⟩, fun c3 => ⟨p, F, _, hS.2.2.1, rA, k5, by omega, ⟨by omega, by omega⟩, fun Z4 hz4 => ?_⟩⟩⟩
      · rw [if_neg c3] at eT
        by_cases c4 : pd (tmT p F (L.getD j czero) d).1 = 0
        · rw [if_pos c4] at eT ⊢
          exact ⟨⟨by decide, by decide⟩, fun cc => by omega, fun _ => b_X12_torsion_96 (nx _ Z4 (by rw [eT]; omega) hz4.2.1 hz4.2.2)⟩
        · rw [if_neg c4] at eT ⊢
          exact ⟨⟨by decide, by decide⟩, fun _ => b_X12_torsion_96 (nx _ Z4 (by rw [eT]; omega) hz4.2.1 hz4.2.2), fun cc => absurd rfl cc⟩
      · rw [if_pos c3] at eT
        have ho := oqA_rg (p := p) (F := F) (A := L.getD j czero) 600 2 (L.length : Int) (by decide) (by omega)
        refine ⟨⟨by omega, by omega⟩, ⟨by omega, by omega⟩, fun c4 => b_X12_torsion_64 (nx _ Z4 ?_ hz4.1 hz4.2), fun c4 => b_X12_torsion_64 (nx _ Z4 ?_ hz4.1 hz4.2)⟩
        · rw [eT, if_pos c4]
        · rw [eT, if_neg (by omega)]
  exact lp L.length 0 Z2 (by omega) hS2 q2
