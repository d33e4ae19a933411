/-! ===== the reference: the three sorts of lines ===== -/
theorem dX12_curveLine_0 : decode cX12_curveLine 0 = .ok (.aload_n 0, 1) := by decide +kernel
theorem dX12_curveLine_1 : decode cX12_curveLine 1 = .ok (.iconst 1, 1) := by decide +kernel
theorem dX12_curveLine_2 : decode cX12_curveLine 2 = .ok (.iconst 2, 1) := by decide +kernel
theorem dX12_curveLine_3 : decode cX12_curveLine 3 = .ok (.invokevirtual 144, 3) := by decide +kernel
theorem dX12_curveLine_6 : decode cX12_curveLine 6 = .ok (.iconst 1, 1) := by decide +kernel
theorem dX12_curveLine_7 : decode cX12_curveLine 7 = .ok (.if_icmp .ne 46, 3) := by decide +kernel
theorem dX12_curveLine_10 : decode cX12_curveLine 10 = .ok (.aload_n 0, 1) := by decide +kernel
theorem dX12_curveLine_11 : decode cX12_curveLine 11 = .ok (.getfield 103, 3) := by decide +kernel
theorem dX12_curveLine_14 : decode cX12_curveLine 14 = .ok (.iconst 1, 1) := by decide +kernel
theorem dX12_curveLine_15 : decode cX12_curveLine 15 = .ok (.if_icmp .ne 22, 3) := by decide +kernel
theorem dX12_curveLine_18 : decode cX12_curveLine 18 = .ok (.aload_n 0, 1) := by decide +kernel
theorem dX12_curveLine_19 : decode cX12_curveLine 19 = .ok (.getfield 119, 3) := by decide +kernel
theorem dX12_curveLine_22 : decode cX12_curveLine 22 = .ok (.invokestatic 147, 3) := by decide +kernel
theorem dX12_curveLine_25 : decode cX12_curveLine 25 = .ok (.ifCond .ne 12, 3) := by decide +kernel
theorem dX12_curveLine_28 : decode cX12_curveLine 28 = .ok (.aload_n 0, 1) := by decide +kernel
theorem dX12_curveLine_29 : decode cX12_curveLine 29 = .ok (.iconst 2, 1) := by decide +kernel
theorem dX12_curveLine_30 : decode cX12_curveLine 30 = .ok (.aload_n 0, 1) := by decide +kernel
theorem dX12_curveLine_31 : decode cX12_curveLine 31 = .ok (.getfield 100, 3) := by decide +kernel
theorem dX12_curveLine_34 : decode cX12_curveLine 34 = .ok (.invokevirtual 133, 3) := by decide +kernel
theorem dX12_curveLine_37 : decode cX12_curveLine 37 = .ok (.aload_n 0, 1) := by decide +kernel
theorem dX12_curveLine_38 : decode cX12_curveLine 38 = .ok (.getfield 17, 3) := by decide +kernel
theorem dX12_curveLine_41 : decode cX12_curveLine 41 = .ok (.iconst 0, 1) := by decide +kernel
theorem dX12_curveLine_42 : decode cX12_curveLine 42 = .ok (.aload_n 0, 1) := by decide +kernel
theorem dX12_curveLine_43 : decode cX12_curveLine 43 = .ok (.iconst 0, 1) := by decide +kernel
theorem dX12_curveLine_44 : decode cX12_curveLine 44 = .ok (.bipush 99, 2) := by decide +kernel
theorem dX12_curveLine_46 : decode cX12_curveLine 46 = .ok (.invokevirtual 140, 3) := by decide +kernel
theorem dX12_curveLine_49 : decode cX12_curveLine 49 = .ok (.iastore, 1) := by decide +kernel
theorem dX12_curveLine_50 : decode cX12_curveLine 50 = .ok (.goto 90, 3) := by decide +kernel
theorem dX12_curveLine_53 : decode cX12_curveLine 53 = .ok (.aload_n 0, 1) := by decide +kernel
theorem dX12_curveLine_54 : decode cX12_curveLine 54 = .ok (.getfield 122, 3) := by decide +kernel
theorem dX12_curveLine_57 : decode cX12_curveLine 57 = .ok (.ifCond .ne 83, 3) := by decide +kernel
theorem dX12_curveLine_60 : decode cX12_curveLine 60 = .ok (.iconst 0, 1) := by decide +kernel
theorem dX12_curveLine_61 : decode cX12_curveLine 61 = .ok (.istore_n 1, 1) := by decide +kernel
theorem dX12_curveLine_62 : decode cX12_curveLine 62 = .ok (.iload_n 1, 1) := by decide +kernel
theorem dX12_curveLine_63 : decode cX12_curveLine 63 = .ok (.iconst 4, 1) := by decide +kernel
theorem dX12_curveLine_64 : decode cX12_curveLine 64 = .ok (.if_icmp .ge 24, 3) := by decide +kernel
theorem dX12_curveLine_67 : decode cX12_curveLine 67 = .ok (.aload_n 0, 1) := by decide +kernel
theorem dX12_curveLine_68 : decode cX12_curveLine 68 = .ok (.getfield 17, 3) := by decide +kernel
theorem dX12_curveLine_71 : decode cX12_curveLine 71 = .ok (.iconst 2, 1) := by decide +kernel
theorem dX12_curveLine_72 : decode cX12_curveLine 72 = .ok (.iload_n 1, 1) := by decide +kernel
theorem dX12_curveLine_73 : decode cX12_curveLine 73 = .ok (.iadd, 1) := by decide +kernel
theorem dX12_curveLine_74 : decode cX12_curveLine 74 = .ok (.aload_n 0, 1) := by decide +kernel
theorem dX12_curveLine_75 : decode cX12_curveLine 75 = .ok (.iconst 0, 1) := by decide +kernel
theorem dX12_curveLine_76 : decode cX12_curveLine 76 = .ok (.bipush 12, 2) := by decide +kernel
theorem dX12_curveLine_78 : decode cX12_curveLine 78 = .ok (.invokevirtual 140, 3) := by decide +kernel
theorem dX12_curveLine_81 : decode cX12_curveLine 81 = .ok (.iastore, 1) := by decide +kernel
theorem dX12_curveLine_82 : decode cX12_curveLine 82 = .ok (.iinc 1 1, 3) := by decide +kernel
theorem dX12_curveLine_85 : decode cX12_curveLine 85 = .ok (.goto (-23), 3) := by decide +kernel
theorem dX12_curveLine_88 : decode cX12_curveLine 88 = .ok (.aload_n 0, 1) := by decide +kernel
theorem dX12_curveLine_89 : decode cX12_curveLine 89 = .ok (.getfield 17, 3) := by decide +kernel
theorem dX12_curveLine_92 : decode cX12_curveLine 92 = .ok (.iconst 1, 1) := by decide +kernel
theorem dX12_curveLine_93 : decode cX12_curveLine 93 = .ok (.iconst 4, 1) := by decide +kernel
theorem dX12_curveLine_94 : decode cX12_curveLine 94 = .ok (.iastore, 1) := by decide +kernel
theorem dX12_curveLine_95 : decode cX12_curveLine 95 = .ok (.aload_n 0, 1) := by decide +kernel
theorem dX12_curveLine_96 : decode cX12_curveLine 96 = .ok (.getfield 103, 3) := by decide +kernel
theorem dX12_curveLine_99 : decode cX12_curveLine 99 = .ok (.iconst 1, 1) := by decide +kernel
theorem dX12_curveLine_100 : decode cX12_curveLine 100 = .ok (.if_icmp .ne 40, 3) := by decide +kernel
theorem dX12_curveLine_103 : decode cX12_curveLine 103 = .ok (.iconst 4, 1) := by decide +kernel
theorem dX12_curveLine_104 : decode cX12_curveLine 104 = .ok (.istore_n 1, 1) := by decide +kernel
theorem dX12_curveLine_105 : decode cX12_curveLine 105 = .ok (.iload_n 1, 1) := by decide +kernel
theorem dX12_curveLine_106 : decode cX12_curveLine 106 = .ok (.bipush 6, 2) := by decide +kernel
theorem dX12_curveLine_108 : decode cX12_curveLine 108 = .ok (.if_icmp .ge 24, 3) := by decide +kernel
theorem dX12_curveLine_111 : decode cX12_curveLine 111 = .ok (.aload_n 0, 1) := by decide +kernel
theorem dX12_curveLine_112 : decode cX12_curveLine 112 = .ok (.getfield 17, 3) := by decide +kernel
theorem dX12_curveLine_115 : decode cX12_curveLine 115 = .ok (.iconst 2, 1) := by decide +kernel
theorem dX12_curveLine_116 : decode cX12_curveLine 116 = .ok (.iload_n 1, 1) := by decide +kernel
theorem dX12_curveLine_117 : decode cX12_curveLine 117 = .ok (.iadd, 1) := by decide +kernel
theorem dX12_curveLine_118 : decode cX12_curveLine 118 = .ok (.aload_n 0, 1) := by decide +kernel
theorem dX12_curveLine_119 : decode cX12_curveLine 119 = .ok (.iconst 0, 1) := by decide +kernel
theorem dX12_curveLine_120 : decode cX12_curveLine 120 = .ok (.bipush 12, 2) := by decide +kernel
theorem dX12_curveLine_122 : decode cX12_curveLine 122 = .ok (.invokevirtual 140, 3) := by decide +kernel
theorem dX12_curveLine_125 : decode cX12_curveLine 125 = .ok (.iastore, 1) := by decide +kernel
theorem dX12_curveLine_126 : decode cX12_curveLine 126 = .ok (.iinc 1 1, 3) := by decide +kernel
theorem dX12_curveLine_129 : decode cX12_curveLine 129 = .ok (.goto (-24), 3) := by decide +kernel
theorem dX12_curveLine_132 : decode cX12_curveLine 132 = .ok (.aload_n 0, 1) := by decide +kernel
theorem dX12_curveLine_133 : decode cX12_curveLine 133 = .ok (.getfield 17, 3) := by decide +kernel
theorem dX12_curveLine_136 : decode cX12_curveLine 136 = .ok (.iconst 1, 1) := by decide +kernel
theorem dX12_curveLine_137 : decode cX12_curveLine 137 = .ok (.bipush 6, 2) := by decide +kernel
theorem dX12_curveLine_139 : decode cX12_curveLine 139 = .ok (.iastore, 1) := by decide +kernel
theorem dX12_curveLine_140 : decode cX12_curveLine 140 = .ok (.aload_n 0, 1) := by decide +kernel
theorem dX12_curveLine_141 : decode cX12_curveLine 141 = .ok (.invokevirtual 150, 3) := by decide +kernel
theorem dX12_curveLine_144 : decode cX12_curveLine 144 = .ok (.return_, 1) := by decide +kernel
set_option maxRecDepth 20000 in
theorem b_X12_curveLine_0 {k n : Nat} {x : Wx} {Z : Zt} {Q : Option Value → Wx → Zt → Prop} {a0 : Nat} (o_a0 : Is12 x a0)
    (h : ∃ g1 : Nat → Int, (∃ g2 : Nat, (∃ g3 : Nat → Int, (ML g1 g2 g3 Z a0 ∧ (1 ≤ (1 : Int) ∧ (2 : Int) ≤ 6 ∧ (1 : Int) ≤ (2 : Int)) ∧ (∀ (r1 : Int) (Z'1 : Zt), (TKS g1 g2 g3 Z Z'1 a0 (1 : Int) (2 : Int) r1) → (Rg r1 ∧ (((r1 ≠ 1) → (Rg (Z'1 a0 8) ∧ (((Z'1 a0 8 ≠ 0) → (V mX12_curveLine k n 140 [some (r_ a0), none] [] x Z'1 Q)) ∧ ((Z'1 a0 8 = 0) → (V mX12_curveLine k n 62 [some (r_ a0), some (i_ 0)] [] x Z'1 Q))))) ∧ ((r1 = 1) → (Rg (Z'1 a0 5) ∧ (((Z'1 a0 5 ≠ 1) → (V mX12_curveLine k n 37 [some (r_ a0), none] [] x Z'1 Q)) ∧ ((Z'1 a0 5 = 1) → (Rg (Z'1 a0 6) ∧ (∀ (r2 : Int), (((r2 = 1 ∧ IsP (Z'1 a0 6)) ∨ (r2 = 0 ∧ ¬ IsP (Z'1 a0 6)))) → (Rg r2 ∧ (((r2 ≠ 0) → (V mX12_curveLine k n 37 [some (r_ a0), none] [] x Z'1 Q)) ∧ ((r2 = 0) → (((Z'1 a0 8 = 1) ∨ (Z'1 a0 8 = 0 ∧ Rg (Z'1 (a0 + 1) 4) ∧ Rg (Z'1 a0 4) ∧ (Z'1 (a0 + 1) 4 ≠ 0 → Rg (Z'1 (a0 + 1) 5) ∧ Z'1 (a0 + 1) 5 < (Z'1 a0 4)))) ∧ (∀ Z1 : Zt, Z1 = alsZ Z'1 a0 (2 : Int) (Z'1 a0 4) → (V mX12_curveLine k n 37 [some (r_ a0), none] [] x Z1 Q))))))))))))))))))) :
    V mX12_curveLine k n 0 [some (r_ a0), none] [] x Z Q :=
  V_aload_n dX12_curveLine_0 rfl (V_iconst dX12_curveLine_1 (V_iconst dX12_curveLine_2 (Exists.elim h (fun g1 w1 => Exists.elim w1 (fun g2 w2 => Exists.elim w2 (fun g3 w3 => V_callV (k' := 0) (n' := 0) (t := 12) (q := (RX12, TX12, 46)) [i_ 1, i_ 2] [] okX12_takes o_a0.1 rfl rfl lm_12_144 liX12_takes lqX12_takes (Nat.le_of_ble_eq_true rfl) (Nat.le_of_ble_eq_true rfl) (Nat.le_of_ble_eq_true rfl) (cat_of rfl) (Nat.le_of_ble_eq_true rfl) (Nat.zero_le _) (Nat.zero_le _) rfl dX12_curveLine_3 (sp_X12_takes o_a0 w3.1 w3.2.1 (fun r1 Z'1 p1 => V_iconst dX12_curveLine_6 (V_icmp_ne (tgt := 53) dX12_curveLine_7 rfl (w3.2.2 r1 Z'1 p1).1 (rg_c rfl) (fun c1 => V_aload_n dX12_curveLine_53 rfl (G_12_8 o_a0.1 lf_12_122 dX12_curveLine_54 (V_if_ne (tgt := 140) dX12_curveLine_57 rfl ((w3.2.2 r1 Z'1 p1).2.1 c1).1 (fun c2 => V_msk [true, false] rfl (((w3.2.2 r1 Z'1 p1).2.1 c1).2.1 c2)) (fun c2 => V_iconst dX12_curveLine_60 (V_istore_n (lv' := [some (r_ a0), some (i_ 0)]) dX12_curveLine_61 (Nat.le_of_ble_eq_true rfl) rfl (V_msk [true, true] rfl (((w3.2.2 r1 Z'1 p1).2.1 c1).2.2 c2))))))) (fun c1 => V_aload_n dX12_curveLine_10 rfl (G_12_5 o_a0.1 lf_12_103 dX12_curveLine_11 (V_iconst dX12_curveLine_14 (V_icmp_ne (tgt := 37) dX12_curveLine_15 rfl ((w3.2.2 r1 Z'1 p1).2.2 c1).1 (rg_c rfl) (fun c3 => V_msk [true, false] rfl (((w3.2.2 r1 Z'1 p1).2.2 c1).2.1 c3)) (fun c3 => V_aload_n dX12_curveLine_18 rfl (G_12_6 o_a0.1 lf_12_119 dX12_curveLine_19 (V_callS (k' := 0) (n' := 0) [i_ (Z'1 a0 6)] [] okX12_isPrime lm_12_147 lsX12_isPrime (Nat.le_of_ble_eq_true rfl) (Nat.le_of_ble_eq_true rfl) (Nat.le_of_ble_eq_true rfl) (cat_of rfl) (Nat.le_of_ble_eq_true rfl) (Nat.zero_le _) (Nat.zero_le _) rfl dX12_curveLine_22 (sp_X12_isPrime  (((w3.2.2 r1 Z'1 p1).2.2 c1).2.2 c3).1 (fun r2 p2 => V_if_ne (tgt := 37) dX12_curveLine_25 rfl ((((w3.2.2 r1 Z'1 p1).2.2 c1).2.2 c3).2 r2 p2).1 (fun c4 => V_msk [true, false] rfl (((((w3.2.2 r1 Z'1 p1).2.2 c1).2.2 c3).2 r2 p2).2.1 c4)) (fun c4 => V_aload_n dX12_curveLine_28 rfl (V_iconst dX12_curveLine_29 (V_aload_n dX12_curveLine_30 rfl (G_12_4 o_a0.1 lf_12_100 dX12_curveLine_31 (V_callV (k' := 0) (n' := 0) (t := 12) (q := (RX12, TX12, 46)) [i_ 2, i_ (Z'1 a0 4)] [] okX12_also o_a0.1 rfl rfl lm_12_133 liX12_also lqX12_also (Nat.le_of_ble_eq_true rfl) (Nat.le_of_ble_eq_true rfl) (Nat.le_of_ble_eq_true rfl) (cat_of rfl) (Nat.le_of_ble_eq_true rfl) (Nat.zero_le _) (Nat.zero_le _) rfl dX12_curveLine_34 (sp_X12_also o_a0 (((((w3.2.2 r1 Z'1 p1).2.2 c1).2.2 c3).2 r2 p2).2.2 c4).1 (V_nmZ (fun Z1 eZ1 => V_msk [true, false] rfl ((((((w3.2.2 r1 Z'1 p1).2.2 c1).2.2 c3).2 r2 p2).2.2 c4).2 Z1 eZ1)))))))))))))))))))))))))))
set_option maxRecDepth 20000 in
theorem b_X12_curveLine_37 {k n : Nat} {x : Wx} {Z : Zt} {Q : Option Value → Wx → Zt → Prop} {a0 : Nat} (o_a0 : Is12 x a0)
    (h : ∃ g1 : Nat → Int, (∃ g2 : Nat, (∃ g3 : Nat → Int, (MLw g1 g2 g3 Z a0 (99 : Int) ∧ (0 : Int) = 0 ∧ (0 ≤ (99 : Int) ∧ (99 : Int) ≤ 99) ∧ (∀ (r1 : Int) (Z'1 : Zt), (NR g1 (99 : Int) g3 r1 ∧ ML g1 g2 (numF g1 (99 : Int) g3) Z'1 a0 ∧ RF a0 Z Z'1) → (∀ Z1 : Zt, Z1 = up Z'1 (a0 + 3) 0 r1 → (V mX12_curveLine k n 140 [some (r_ a0), none] [] x Z1 Q))))))) :
    V mX12_curveLine k n 37 [some (r_ a0), none] [] x Z Q :=
  V_aload_n dX12_curveLine_37 rfl (G_12_9 o_a0.1 o_a0.qR9 lf_12_17 dX12_curveLine_38 (V_iconst dX12_curveLine_41 (V_aload_n dX12_curveLine_42 rfl (V_iconst dX12_curveLine_43 (V_bipush dX12_curveLine_44 rfl (Exists.elim h (fun g1 w1 => Exists.elim w1 (fun g2 w2 => Exists.elim w2 (fun g3 w3 => V_callV (k' := 0) (n' := 0) (t := 12) (q := (RX12, TX12, 46)) [i_ 0, i_ 99] [i_ 0, r_ (a0 + 3)] okX12_numbered o_a0.1 rfl rfl lm_12_140 liX12_numbered lqX12_numbered (Nat.le_of_ble_eq_true rfl) (Nat.le_of_ble_eq_true rfl) (Nat.le_of_ble_eq_true rfl) (cat_of rfl) (Nat.le_of_ble_eq_true rfl) (Nat.zero_le _) (Nat.zero_le _) rfl dX12_curveLine_46 (sp_X12_numbered o_a0 w3.1 w3.2.1 w3.2.2.1 (fun r1 Z'1 p1 => V_iast (t := 100) o_a0.qK9 (by decide) (by decide) rfl (by decide) (by decide) (Nat.le_of_ble_eq_true rfl) dX12_curveLine_49 (V_nmZ (fun Z1 eZ1 => V_goto (tgt := 140) dX12_curveLine_50 rfl (V_msk [true, false] rfl ((w3.2.2.2 r1 Z'1 p1) Z1 eZ1)))))))))))))))
set_option maxRecDepth 20000 in
theorem b_X12_curveLine_62 {k n : Nat} {x : Wx} {Z : Zt} {Q : Option Value → Wx → Zt → Prop} {a0 : Nat} {v1 : Int} (o_a0 : Is12 x a0)
    (h : Rg v1 ∧ (((4 ≤ v1) → (∀ Z1 : Zt, Z1 = up Z (a0 + 3) 1 4 → (Rg (Z1 a0 5) ∧ (((Z1 a0 5 ≠ 1) → (V mX12_curveLine k n 140 [some (r_ a0), none] [] x Z1 Q)) ∧ ((Z1 a0 5 = 1) → (V mX12_curveLine k n 105 [some (r_ a0), some (i_ 4)] [] x Z1 Q)))))) ∧ ((v1 < 4) → (∃ g1 : Nat → Int, (∃ g2 : Nat, (∃ g3 : Nat → Int, (MLw g1 g2 g3 Z a0 (12 : Int) ∧ (0 : Int) = 0 ∧ (0 ≤ (12 : Int) ∧ (12 : Int) ≤ 99) ∧ (∀ (r1 : Int) (Z'1 : Zt), (NR g1 (12 : Int) g3 r1 ∧ ML g1 g2 (numF g1 (12 : Int) g3) Z'1 a0 ∧ RF a0 Z Z'1) → (0 ≤ 2 + v1 ∧ 2 + v1 < 26 ∧ (∀ Z2 : Zt, Z2 = up Z'1 (a0 + 3) (2 + v1).toNat r1 → (V mX12_curveLine k n 62 [some (r_ a0), some (i_ (v1 + 1))] [] x Z2 Q))))))))))) :
    V mX12_curveLine k n 62 [some (r_ a0), some (i_ v1)] [] x Z Q :=
  V_iload_n dX12_curveLine_62 rfl (V_iconst dX12_curveLine_63 (V_icmp_ge (tgt := 88) dX12_curveLine_64 rfl h.1 (rg_c rfl) (fun c1 => V_aload_n dX12_curveLine_88 rfl (G_12_9 o_a0.1 o_a0.qR9 lf_12_17 dX12_curveLine_89 (V_iconst dX12_curveLine_92 (V_iconst dX12_curveLine_93 (V_iast (t := 100) o_a0.qK9 (by decide) (by decide) rfl (by decide) (by decide) (Nat.le_of_ble_eq_true rfl) dX12_curveLine_94 (V_nmZ (fun Z1 eZ1 => V_aload_n dX12_curveLine_95 rfl (G_12_5 o_a0.1 lf_12_103 dX12_curveLine_96 (V_iconst dX12_curveLine_99 (V_icmp_ne (tgt := 140) dX12_curveLine_100 rfl ((h.2.1 c1) Z1 eZ1).1 (rg_c rfl) (fun c2 => V_msk [true, false] rfl (((h.2.1 c1) Z1 eZ1).2.1 c2)) (fun c2 => V_iconst dX12_curveLine_103 (V_istore_n (lv' := [some (r_ a0), some (i_ 4)]) dX12_curveLine_104 (Nat.le_of_ble_eq_true rfl) rfl (V_msk [true, true] rfl (((h.2.1 c1) Z1 eZ1).2.2 c2)))))))))))))) (fun c1 => V_aload_n dX12_curveLine_67 rfl (G_12_9 o_a0.1 o_a0.qR9 lf_12_17 dX12_curveLine_68 (V_iconst dX12_curveLine_71 (V_iload_n dX12_curveLine_72 rfl (V_iadd dX12_curveLine_73 (V_aload_n dX12_curveLine_74 rfl (V_iconst dX12_curveLine_75 (V_bipush dX12_curveLine_76 rfl (Exists.elim (h.2.2 c1) (fun g1 w1 => Exists.elim w1 (fun g2 w2 => Exists.elim w2 (fun g3 w3 => V_callV (k' := 0) (n' := 0) (t := 12) (q := (RX12, TX12, 46)) [i_ 0, i_ 12] [i_ (2 + v1), r_ (a0 + 3)] okX12_numbered o_a0.1 rfl rfl lm_12_140 liX12_numbered lqX12_numbered (Nat.le_of_ble_eq_true rfl) (Nat.le_of_ble_eq_true rfl) (Nat.le_of_ble_eq_true rfl) (cat_of rfl) (Nat.le_of_ble_eq_true rfl) (Nat.zero_le _) (Nat.zero_le _) rfl dX12_curveLine_78 (sp_X12_numbered o_a0 w3.1 w3.2.1 w3.2.2.1 (fun r1 Z'1 p1 => V_iast (t := 100) o_a0.qK9 (by decide) (by decide) rfl (w3.2.2.2 r1 Z'1 p1).1 (w3.2.2.2 r1 Z'1 p1).2.1 (Nat.le_of_ble_eq_true rfl) dX12_curveLine_81 (V_nmZ (fun Z2 eZ2 => V_iinc (lv' := [some (r_ a0), some (i_ (v1 + 1))]) dX12_curveLine_82 rfl (Nat.le_of_ble_eq_true rfl) rfl (V_goto (tgt := 62) dX12_curveLine_85 rfl (V_msk [true, true] rfl ((w3.2.2.2 r1 Z'1 p1).2.2 Z2 eZ2)))))))))))))))))))))
set_option maxRecDepth 20000 in
theorem b_X12_curveLine_105 {k n : Nat} {x : Wx} {Z : Zt} {Q : Option Value → Wx → Zt → Prop} {a0 : Nat} {v1 : Int} (o_a0 : Is12 x a0)
    (h : Rg v1 ∧ (((6 ≤ v1) → (∀ Z1 : Zt, Z1 = up Z (a0 + 3) 1 6 → (V mX12_curveLine k n 140 [some (r_ a0), none] [] x Z1 Q))) ∧ ((v1 < 6) → (∃ g1 : Nat → Int, (∃ g2 : Nat, (∃ g3 : Nat → Int, (MLw g1 g2 g3 Z a0 (12 : Int) ∧ (0 : Int) = 0 ∧ (0 ≤ (12 : Int) ∧ (12 : Int) ≤ 99) ∧ (∀ (r1 : Int) (Z'1 : Zt), (NR g1 (12 : Int) g3 r1 ∧ ML g1 g2 (numF g1 (12 : Int) g3) Z'1 a0 ∧ RF a0 Z Z'1) → (0 ≤ 2 + v1 ∧ 2 + v1 < 26 ∧ (∀ Z2 : Zt, Z2 = up Z'1 (a0 + 3) (2 + v1).toNat r1 → (V mX12_curveLine k n 105 [some (r_ a0), some (i_ (v1 + 1))] [] x Z2 Q))))))))))) :
    V mX12_curveLine k n 105 [some (r_ a0), some (i_ v1)] [] x Z Q :=
  V_iload_n dX12_curveLine_105 rfl (V_bipush dX12_curveLine_106 rfl (V_icmp_ge (tgt := 132) dX12_curveLine_108 rfl h.1 (rg_c rfl) (fun c1 => V_aload_n dX12_curveLine_132 rfl (G_12_9 o_a0.1 o_a0.qR9 lf_12_17 dX12_curveLine_133 (V_iconst dX12_curveLine_136 (V_bipush dX12_curveLine_137 rfl (V_iast (t := 100) o_a0.qK9 (by decide) (by decide) rfl (by decide) (by decide) (Nat.le_of_ble_eq_true rfl) dX12_curveLine_139 (V_nmZ (fun Z1 eZ1 => V_msk [true, false] rfl ((h.2.1 c1) Z1 eZ1)))))))) (fun c1 => V_aload_n dX12_curveLine_111 rfl (G_12_9 o_a0.1 o_a0.qR9 lf_12_17 dX12_curveLine_112 (V_iconst dX12_curveLine_115 (V_iload_n dX12_curveLine_116 rfl (V_iadd dX12_curveLine_117 (V_aload_n dX12_curveLine_118 rfl (V_iconst dX12_curveLine_119 (V_bipush dX12_curveLine_120 rfl (Exists.elim (h.2.2 c1) (fun g1 w1 => Exists.elim w1 (fun g2 w2 => Exists.elim w2 (fun g3 w3 => V_callV (k' := 0) (n' := 0) (t := 12) (q := (RX12, TX12, 46)) [i_ 0, i_ 12] [i_ (2 + v1), r_ (a0 + 3)] okX12_numbered o_a0.1 rfl rfl lm_12_140 liX12_numbered lqX12_numbered (Nat.le_of_ble_eq_true rfl) (Nat.le_of_ble_eq_true rfl) (Nat.le_of_ble_eq_true rfl) (cat_of rfl) (Nat.le_of_ble_eq_true rfl) (Nat.zero_le _) (Nat.zero_le _) rfl dX12_curveLine_122 (sp_X12_numbered o_a0 w3.1 w3.2.1 w3.2.2.1 (fun r1 Z'1 p1 => V_iast (t := 100) o_a0.qK9 (by decide) (by decide) rfl (w3.2.2.2 r1 Z'1 p1).1 (w3.2.2.2 r1 Z'1 p1).2.1 (Nat.le_of_ble_eq_true rfl) dX12_curveLine_125 (V_nmZ (fun Z2 eZ2 => V_iinc (lv' := [some (r_ a0), some (i_ (v1 + 1))]) dX12_curveLine_126 rfl (Nat.le_of_ble_eq_true rfl) rfl (V_goto (tgt := 105) dX12_curveLine_129 rfl (V_msk [true, true] rfl ((w3.2.2.2 r1 Z'1 p1).2.2 Z2 eZ2)))))))))))))))))))))
set_option maxRecDepth 20000 in
theorem b_X12_curveLine_140 {k n : Nat} {x : Wx} {Z : Zt} {Q : Option Value → Wx → Zt → Prop} {a0 : Nat} (o_a0 : Is12 x a0)
    (h : ∃ g1 : Nat → Int, (∃ g2 : Nat, (∃ g3 : Nat → Int, (ML g1 g2 g3 Z a0 ∧ (∀ (Z'1 : Zt), (ML g1 g2 (clsF g1 g3) Z'1 a0 ∧ RF a0 Z Z'1) → (Q none x Z'1)))))) :
    V mX12_curveLine k n 140 [some (r_ a0), none] [] x Z Q :=
  V_aload_n dX12_curveLine_140 rfl (Exists.elim h (fun g1 w1 => Exists.elim w1 (fun g2 w2 => Exists.elim w2 (fun g3 w3 => V_callV (k' := 0) (n' := 0) (t := 12) (q := (RX12, TX12, 46)) [] [] okX12_endsLine o_a0.1 rfl rfl lm_12_150 liX12_endsLine lqX12_endsLine (Nat.le_of_ble_eq_true rfl) (Nat.le_of_ble_eq_true rfl) (Nat.le_of_ble_eq_true rfl) (cat_of rfl) (Nat.le_of_ble_eq_true rfl) (Nat.zero_le _) (Nat.zero_le _) rfl dX12_curveLine_141 (sp_X12_endsLine o_a0 w3.1 (fun Z'1 p1 => V_ret dX12_curveLine_144 rfl (w3.2 Z'1 p1)))))))
theorem dX12_sumLine_0 : decode cX12_sumLine 0 = .ok (.aload_n 0, 1) := by decide +kernel
theorem dX12_sumLine_1 : decode cX12_sumLine 1 = .ok (.getfield 100, 3) := by decide +kernel
theorem dX12_sumLine_4 : decode cX12_sumLine 4 = .ok (.istore_n 1, 1) := by decide +kernel
theorem dX12_sumLine_5 : decode cX12_sumLine 5 = .ok (.aload_n 0, 1) := by decide +kernel
theorem dX12_sumLine_6 : decode cX12_sumLine 6 = .ok (.iconst 3, 1) := by decide +kernel
theorem dX12_sumLine_7 : decode cX12_sumLine 7 = .ok (.iconst 4, 1) := by decide +kernel
theorem dX12_sumLine_8 : decode cX12_sumLine 8 = .ok (.invokevirtual 144, 3) := by decide +kernel
theorem dX12_sumLine_11 : decode cX12_sumLine 11 = .ok (.istore_n 2, 1) := by decide +kernel
theorem dX12_sumLine_12 : decode cX12_sumLine 12 = .ok (.iload_n 2, 1) := by decide +kernel
theorem dX12_sumLine_13 : decode cX12_sumLine 13 = .ok (.iconst 4, 1) := by decide +kernel
theorem dX12_sumLine_14 : decode cX12_sumLine 14 = .ok (.if_icmp .ne 15, 3) := by decide +kernel
theorem dX12_sumLine_17 : decode cX12_sumLine 17 = .ok (.aload_n 0, 1) := by decide +kernel
theorem dX12_sumLine_18 : decode cX12_sumLine 18 = .ok (.getfield 17, 3) := by decide +kernel
theorem dX12_sumLine_21 : decode cX12_sumLine 21 = .ok (.iconst 1, 1) := by decide +kernel
theorem dX12_sumLine_22 : decode cX12_sumLine 22 = .ok (.aload_n 0, 1) := by decide +kernel
theorem dX12_sumLine_23 : decode cX12_sumLine 23 = .ok (.bipush 9, 2) := by decide +kernel
theorem dX12_sumLine_25 : decode cX12_sumLine 25 = .ok (.invokevirtual 153, 3) := by decide +kernel
theorem dX12_sumLine_28 : decode cX12_sumLine 28 = .ok (.iastore, 1) := by decide +kernel
theorem dX12_sumLine_29 : decode cX12_sumLine 29 = .ok (.iload_n 2, 1) := by decide +kernel
theorem dX12_sumLine_30 : decode cX12_sumLine 30 = .ok (.iconst 3, 1) := by decide +kernel
theorem dX12_sumLine_31 : decode cX12_sumLine 31 = .ok (.if_icmp .ne 115, 3) := by decide +kernel
theorem dX12_sumLine_34 : decode cX12_sumLine 34 = .ok (.aload_n 0, 1) := by decide +kernel
theorem dX12_sumLine_35 : decode cX12_sumLine 35 = .ok (.getfield 17, 3) := by decide +kernel
theorem dX12_sumLine_38 : decode cX12_sumLine 38 = .ok (.iconst 0, 1) := by decide +kernel
theorem dX12_sumLine_39 : decode cX12_sumLine 39 = .ok (.iaload, 1) := by decide +kernel
theorem dX12_sumLine_40 : decode cX12_sumLine 40 = .ok (.bipush 8, 2) := by decide +kernel
theorem dX12_sumLine_42 : decode cX12_sumLine 42 = .ok (.if_icmp .lt 9, 3) := by decide +kernel
theorem dX12_sumLine_45 : decode cX12_sumLine 45 = .ok (.aload_n 0, 1) := by decide +kernel
theorem dX12_sumLine_46 : decode cX12_sumLine 46 = .ok (.iconst 3, 1) := by decide +kernel
theorem dX12_sumLine_47 : decode cX12_sumLine 47 = .ok (.iload_n 1, 1) := by decide +kernel
theorem dX12_sumLine_48 : decode cX12_sumLine 48 = .ok (.invokevirtual 133, 3) := by decide +kernel
theorem dX12_sumLine_51 : decode cX12_sumLine 51 = .ok (.aload_n 0, 1) := by decide +kernel
theorem dX12_sumLine_52 : decode cX12_sumLine 52 = .ok (.iconst 0, 1) := by decide +kernel
theorem dX12_sumLine_53 : decode cX12_sumLine 53 = .ok (.bipush 12, 2) := by decide +kernel
theorem dX12_sumLine_55 : decode cX12_sumLine 55 = .ok (.invokevirtual 140, 3) := by decide +kernel
theorem dX12_sumLine_58 : decode cX12_sumLine 58 = .ok (.istore_n 3, 1) := by decide +kernel
theorem dX12_sumLine_59 : decode cX12_sumLine 59 = .ok (.aload_n 0, 1) := by decide +kernel
theorem dX12_sumLine_60 : decode cX12_sumLine 60 = .ok (.iconst 0, 1) := by decide +kernel
theorem dX12_sumLine_61 : decode cX12_sumLine 61 = .ok (.bipush 12, 2) := by decide +kernel
theorem dX12_sumLine_63 : decode cX12_sumLine 63 = .ok (.invokevirtual 140, 3) := by decide +kernel
theorem dX12_sumLine_66 : decode cX12_sumLine 66 = .ok (.istore 4, 2) := by decide +kernel
theorem dX12_sumLine_68 : decode cX12_sumLine 68 = .ok (.aload_n 0, 1) := by decide +kernel
theorem dX12_sumLine_69 : decode cX12_sumLine 69 = .ok (.iconst 5, 1) := by decide +kernel
theorem dX12_sumLine_70 : decode cX12_sumLine 70 = .ok (.invokevirtual 153, 3) := by decide +kernel
theorem dX12_sumLine_73 : decode cX12_sumLine 73 = .ok (.istore 5, 2) := by decide +kernel
theorem dX12_sumLine_75 : decode cX12_sumLine 75 = .ok (.aload_n 0, 1) := by decide +kernel
theorem dX12_sumLine_76 : decode cX12_sumLine 76 = .ok (.getfield 17, 3) := by decide +kernel
theorem dX12_sumLine_79 : decode cX12_sumLine 79 = .ok (.iconst 0, 1) := by decide +kernel
theorem dX12_sumLine_80 : decode cX12_sumLine 80 = .ok (.iaload, 1) := by decide +kernel
theorem dX12_sumLine_81 : decode cX12_sumLine 81 = .ok (.bipush 8, 2) := by decide +kernel
theorem dX12_sumLine_83 : decode cX12_sumLine 83 = .ok (.if_icmp .ge 53, 3) := by decide +kernel
theorem dX12_sumLine_86 : decode cX12_sumLine 86 = .ok (.aload_n 0, 1) := by decide +kernel
theorem dX12_sumLine_87 : decode cX12_sumLine 87 = .ok (.getfield 17, 3) := by decide +kernel
theorem dX12_sumLine_90 : decode cX12_sumLine 90 = .ok (.iconst 2, 1) := by decide +kernel
theorem dX12_sumLine_91 : decode cX12_sumLine 91 = .ok (.iconst 3, 1) := by decide +kernel
theorem dX12_sumLine_92 : decode cX12_sumLine 92 = .ok (.aload_n 0, 1) := by decide +kernel
theorem dX12_sumLine_93 : decode cX12_sumLine 93 = .ok (.getfield 17, 3) := by decide +kernel
theorem dX12_sumLine_96 : decode cX12_sumLine 96 = .ok (.iconst 0, 1) := by decide +kernel
theorem dX12_sumLine_97 : decode cX12_sumLine 97 = .ok (.iaload, 1) := by decide +kernel
theorem dX12_sumLine_98 : decode cX12_sumLine 98 = .ok (.imul, 1) := by decide +kernel
theorem dX12_sumLine_99 : decode cX12_sumLine 99 = .ok (.iadd, 1) := by decide +kernel
theorem dX12_sumLine_100 : decode cX12_sumLine 100 = .ok (.iload_n 3, 1) := by decide +kernel
theorem dX12_sumLine_101 : decode cX12_sumLine 101 = .ok (.iastore, 1) := by decide +kernel
theorem dX12_sumLine_102 : decode cX12_sumLine 102 = .ok (.aload_n 0, 1) := by decide +kernel
theorem dX12_sumLine_103 : decode cX12_sumLine 103 = .ok (.getfield 17, 3) := by decide +kernel
theorem dX12_sumLine_106 : decode cX12_sumLine 106 = .ok (.iconst 3, 1) := by decide +kernel
theorem dX12_sumLine_107 : decode cX12_sumLine 107 = .ok (.iconst 3, 1) := by decide +kernel
theorem dX12_sumLine_108 : decode cX12_sumLine 108 = .ok (.aload_n 0, 1) := by decide +kernel
theorem dX12_sumLine_109 : decode cX12_sumLine 109 = .ok (.getfield 17, 3) := by decide +kernel
theorem dX12_sumLine_112 : decode cX12_sumLine 112 = .ok (.iconst 0, 1) := by decide +kernel
theorem dX12_sumLine_113 : decode cX12_sumLine 113 = .ok (.iaload, 1) := by decide +kernel
theorem dX12_sumLine_114 : decode cX12_sumLine 114 = .ok (.imul, 1) := by decide +kernel
theorem dX12_sumLine_115 : decode cX12_sumLine 115 = .ok (.iadd, 1) := by decide +kernel
theorem dX12_sumLine_116 : decode cX12_sumLine 116 = .ok (.iload 4, 2) := by decide +kernel
theorem dX12_sumLine_118 : decode cX12_sumLine 118 = .ok (.iastore, 1) := by decide +kernel
theorem dX12_sumLine_119 : decode cX12_sumLine 119 = .ok (.aload_n 0, 1) := by decide +kernel
theorem dX12_sumLine_120 : decode cX12_sumLine 120 = .ok (.getfield 17, 3) := by decide +kernel
theorem dX12_sumLine_123 : decode cX12_sumLine 123 = .ok (.iconst 4, 1) := by decide +kernel
theorem dX12_sumLine_124 : decode cX12_sumLine 124 = .ok (.iconst 3, 1) := by decide +kernel
theorem dX12_sumLine_125 : decode cX12_sumLine 125 = .ok (.aload_n 0, 1) := by decide +kernel
theorem dX12_sumLine_126 : decode cX12_sumLine 126 = .ok (.getfield 17, 3) := by decide +kernel
theorem dX12_sumLine_129 : decode cX12_sumLine 129 = .ok (.iconst 0, 1) := by decide +kernel
theorem dX12_sumLine_130 : decode cX12_sumLine 130 = .ok (.iaload, 1) := by decide +kernel
theorem dX12_sumLine_131 : decode cX12_sumLine 131 = .ok (.imul, 1) := by decide +kernel
theorem dX12_sumLine_132 : decode cX12_sumLine 132 = .ok (.iadd, 1) := by decide +kernel
theorem dX12_sumLine_133 : decode cX12_sumLine 133 = .ok (.iload 5, 2) := by decide +kernel
theorem dX12_sumLine_135 : decode cX12_sumLine 135 = .ok (.iastore, 1) := by decide +kernel
theorem dX12_sumLine_136 : decode cX12_sumLine 136 = .ok (.aload_n 0, 1) := by decide +kernel
theorem dX12_sumLine_137 : decode cX12_sumLine 137 = .ok (.getfield 17, 3) := by decide +kernel
theorem dX12_sumLine_140 : decode cX12_sumLine 140 = .ok (.iconst 0, 1) := by decide +kernel
theorem dX12_sumLine_141 : decode cX12_sumLine 141 = .ok (.dup2, 1) := by decide +kernel
theorem dX12_sumLine_142 : decode cX12_sumLine 142 = .ok (.iaload, 1) := by decide +kernel
theorem dX12_sumLine_143 : decode cX12_sumLine 143 = .ok (.iconst 1, 1) := by decide +kernel
theorem dX12_sumLine_144 : decode cX12_sumLine 144 = .ok (.iadd, 1) := by decide +kernel
theorem dX12_sumLine_145 : decode cX12_sumLine 145 = .ok (.iastore, 1) := by decide +kernel
theorem dX12_sumLine_146 : decode cX12_sumLine 146 = .ok (.aload_n 0, 1) := by decide +kernel
theorem dX12_sumLine_147 : decode cX12_sumLine 147 = .ok (.invokevirtual 150, 3) := by decide +kernel
theorem dX12_sumLine_150 : decode cX12_sumLine 150 = .ok (.return_, 1) := by decide +kernel
set_option maxRecDepth 20000 in
theorem b_X12_sumLine_0 {k n : Nat} {x : Wx} {Z : Zt} {Q : Option Value → Wx → Zt → Prop} {a0 : Nat} (o_a0 : Is12 x a0)
    (h : ∃ g1 : Nat → Int, (∃ g2 : Nat, (∃ g3 : Nat → Int, (ML g1 g2 g3 Z a0 ∧ (1 ≤ (3 : Int) ∧ (4 : Int) ≤ 6 ∧ (3 : Int) ≤ (4 : Int)) ∧ (∀ (r1 : Int) (Z'1 : Zt), (TKS g1 g2 g3 Z Z'1 a0 (3 : Int) (4 : Int) r1) → (Rg r1 ∧ (((r1 ≠ 4) → (V mX12_sumLine k n 29 [some (r_ a0), some (i_ (Z a0 4)), some (i_ r1), none, none, none] [] x Z'1 Q)) ∧ ((r1 = 4) → (∃ g4 : Nat → Int, (∃ g5 : Nat, (∃ g6 : Nat → Int, (ML g4 g5 g6 Z'1 a0 ∧ (0 ≤ (9 : Int) ∧ (9 : Int) ≤ 99) ∧ (∀ (r2 : Int) (Z'2 : Zt), (SR g4 (9 : Int) g6 r2 ∧ ML g4 g5 (sgnF g4 (9 : Int) g6) Z'2 a0 ∧ RF a0 Z'1 Z'2) → (∀ Z1 : Zt, Z1 = up Z'2 (a0 + 3) 1 r2 → (V mX12_sumLine k n 29 [some (r_ a0), some (i_ (Z a0 4)), some (i_ r1), none, none, none] [] x Z1 Q))))))))))))))) :
    V mX12_sumLine k n 0 [some (r_ a0), none, none, none, none, none] [] x Z Q :=
  V_aload_n dX12_sumLine_0 rfl (G_12_4 o_a0.1 lf_12_100 dX12_sumLine_1 (V_istore_n (lv' := [some (r_ a0), some (i_ (Z a0 4)), none, none, none, none]) dX12_sumLine_4 (Nat.le_of_ble_eq_true rfl) rfl (V_aload_n dX12_sumLine_5 rfl (V_iconst dX12_sumLine_6 (V_iconst dX12_sumLine_7 (Exists.elim h (fun g1 w1 => Exists.elim w1 (fun g2 w2 => Exists.elim w2 (fun g3 w3 => V_callV (k' := 0) (n' := 0) (t := 12) (q := (RX12, TX12, 46)) [i_ 3, i_ 4] [] okX12_takes o_a0.1 rfl rfl lm_12_144 liX12_takes lqX12_takes (Nat.le_of_ble_eq_true rfl) (Nat.le_of_ble_eq_true rfl) (Nat.le_of_ble_eq_true rfl) (cat_of rfl) (Nat.le_of_ble_eq_true rfl) (Nat.zero_le _) (Nat.zero_le _) rfl dX12_sumLine_8 (sp_X12_takes o_a0 w3.1 w3.2.1 (fun r1 Z'1 p1 => V_istore_n (lv' := [some (r_ a0), some (i_ (Z a0 4)), some (i_ r1), none, none, none]) dX12_sumLine_11 (Nat.le_of_ble_eq_true rfl) rfl (V_iload_n dX12_sumLine_12 rfl (V_iconst dX12_sumLine_13 (V_icmp_ne (tgt := 29) dX12_sumLine_14 rfl (w3.2.2 r1 Z'1 p1).1 (rg_c rfl) (fun c1 => V_msk [true, true, true, false, false, false] rfl ((w3.2.2 r1 Z'1 p1).2.1 c1)) (fun c1 => V_aload_n dX12_sumLine_17 rfl (G_12_9 o_a0.1 o_a0.qR9 lf_12_17 dX12_sumLine_18 (V_iconst dX12_sumLine_21 (V_aload_n dX12_sumLine_22 rfl (V_bipush dX12_sumLine_23 rfl (Exists.elim ((w3.2.2 r1 Z'1 p1).2.2 c1) (fun g4 w4 => Exists.elim w4 (fun g5 w5 => Exists.elim w5 (fun g6 w6 => V_callV (k' := 0) (n' := 0) (t := 12) (q := (RX12, TX12, 46)) [i_ 9] [i_ 1, r_ (a0 + 3)] okX12_signed o_a0.1 rfl rfl lm_12_153 liX12_signed lqX12_signed (Nat.le_of_ble_eq_true rfl) (Nat.le_of_ble_eq_true rfl) (Nat.le_of_ble_eq_true rfl) (cat_of rfl) (Nat.le_of_ble_eq_true rfl) (Nat.zero_le _) (Nat.zero_le _) rfl dX12_sumLine_25 (sp_X12_signed o_a0 w6.1 w6.2.1 (fun r2 Z'2 p2 => V_iast (t := 100) o_a0.qK9 (by decide) (by decide) rfl (by decide) (by decide) (Nat.le_of_ble_eq_true rfl) dX12_sumLine_28 (V_nmZ (fun Z1 eZ1 => V_msk [true, true, true, false, false, false] rfl ((w6.2.2 r2 Z'2 p2) Z1 eZ1))))))))))))))))))))))))))))
set_option maxRecDepth 20000 in
theorem b_X12_sumLine_29 {k n : Nat} {x : Wx} {Z : Zt} {Q : Option Value → Wx → Zt → Prop} {a0 : Nat} {v1 : Int} {v2 : Int} (o_a0 : Is12 x a0)
    (h : Rg v2 ∧ (((v2 ≠ 3) → (V mX12_sumLine k n 146 [some (r_ a0), none, none, none, none, none] [] x Z Q)) ∧ ((v2 = 3) → (Rg (Z (a0 + 3) 0) ∧ (((Z (a0 + 3) 0 < 8) → (V mX12_sumLine k n 51 [some (r_ a0), none, none, none, none, none] [] x Z Q)) ∧ ((8 ≤ Z (a0 + 3) 0) → (((Z a0 8 = 1) ∨ (Z a0 8 = 0 ∧ Rg (Z (a0 + 1) 4) ∧ Rg v1 ∧ (Z (a0 + 1) 4 ≠ 0 → Rg (Z (a0 + 1) 5) ∧ Z (a0 + 1) 5 < v1))) ∧ (∀ Z1 : Zt, Z1 = alsZ Z a0 (3 : Int) v1 → (V mX12_sumLine k n 51 [some (r_ a0), none, none, none, none, none] [] x Z1 Q))))))))) :
    V mX12_sumLine k n 29 [some (r_ a0), some (i_ v1), some (i_ v2), none, none, none] [] x Z Q :=
  V_iload_n dX12_sumLine_29 rfl (V_iconst dX12_sumLine_30 (V_icmp_ne (tgt := 146) dX12_sumLine_31 rfl h.1 (rg_c rfl) (fun c1 => V_msk [true, false, false, false, false, false] rfl (h.2.1 c1)) (fun c1 => V_aload_n dX12_sumLine_34 rfl (G_12_9 o_a0.1 o_a0.qR9 lf_12_17 dX12_sumLine_35 (V_iconst dX12_sumLine_38 (V_iald (t := 100) o_a0.qK9 (by decide) rfl (by decide) (by decide) (Nat.le_of_ble_eq_true rfl) dX12_sumLine_39 (V_bipush dX12_sumLine_40 rfl (V_icmp_lt (tgt := 51) dX12_sumLine_42 rfl (h.2.2 c1).1 (rg_c rfl) (fun c2 => V_msk [true, false, false, false, false, false] rfl ((h.2.2 c1).2.1 c2)) (fun c2 => V_aload_n dX12_sumLine_45 rfl (V_iconst dX12_sumLine_46 (V_iload_n dX12_sumLine_47 rfl (V_callV (k' := 0) (n' := 0) (t := 12) (q := (RX12, TX12, 46)) [i_ 3, i_ v1] [] okX12_also o_a0.1 rfl rfl lm_12_133 liX12_also lqX12_also (Nat.le_of_ble_eq_true rfl) (Nat.le_of_ble_eq_true rfl) (Nat.le_of_ble_eq_true rfl) (cat_of rfl) (Nat.le_of_ble_eq_true rfl) (Nat.zero_le _) (Nat.zero_le _) rfl dX12_sumLine_48 (sp_X12_also o_a0 ((h.2.2 c1).2.2 c2).1 (V_nmZ (fun Z1 eZ1 => V_msk [true, false, false, false, false, false] rfl (((h.2.2 c1).2.2 c2).2 Z1 eZ1))))))))))))))))
set_option maxRecDepth 20000 in
theorem b_X12_sumLine_51 {k n : Nat} {x : Wx} {Z : Zt} {Q : Option Value → Wx → Zt → Prop} {a0 : Nat} (o_a0 : Is12 x a0)
    (h : ∃ g1 : Nat → Int, (∃ g2 : Nat, (∃ g3 : Nat → Int, (MLw g1 g2 g3 Z a0 (12 : Int) ∧ (0 : Int) = 0 ∧ (0 ≤ (12 : Int) ∧ (12 : Int) ≤ 99) ∧ (∀ (r1 : Int) (Z'1 : Zt), (NR g1 (12 : Int) g3 r1 ∧ ML g1 g2 (numF g1 (12 : Int) g3) Z'1 a0 ∧ RF a0 Z Z'1) → (∃ g4 : Nat → Int, (∃ g5 : Nat, (∃ g6 : Nat → Int, (MLw g4 g5 g6 Z'1 a0 (12 : Int) ∧ (0 : Int) = 0 ∧ (0 ≤ (12 : Int) ∧ (12 : Int) ≤ 99) ∧ (∀ (r2 : Int) (Z'2 : Zt), (NR g4 (12 : Int) g6 r2 ∧ ML g4 g5 (numF g4 (12 : Int) g6) Z'2 a0 ∧ RF a0 Z'1 Z'2) → (∃ g7 : Nat → Int, (∃ g8 : Nat, (∃ g9 : Nat → Int, (ML g7 g8 g9 Z'2 a0 ∧ (0 ≤ (5 : Int) ∧ (5 : Int) ≤ 99) ∧ (∀ (r3 : Int) (Z'3 : Zt), (SR g7 (5 : Int) g9 r3 ∧ ML g7 g8 (sgnF g7 (5 : Int) g9) Z'3 a0 ∧ RF a0 Z'2 Z'3) → (Rg (Z'3 (a0 + 3) 0) ∧ (((8 ≤ Z'3 (a0 + 3) 0) → (V mX12_sumLine k n 136 [some (r_ a0), none, none, none, none, none] [] x Z'3 Q)) ∧ ((Z'3 (a0 + 3) 0 < 8) → (0 ≤ 2 + (3 * (Z'3 (a0 + 3) 0)) ∧ 2 + (3 * (Z'3 (a0 + 3) 0)) < 26 ∧ (∀ Z1 : Zt, Z1 = up Z'3 (a0 + 3) (2 + (3 * (Z'3 (a0 + 3) 0))).toNat r1 → (0 ≤ 3 + (3 * (Z1 (a0 + 3) 0)) ∧ 3 + (3 * (Z1 (a0 + 3) 0)) < 26 ∧ (∀ Z2 : Zt, Z2 = up Z1 (a0 + 3) (3 + (3 * (Z1 (a0 + 3) 0))).toNat r2 → (0 ≤ 4 + (3 * (Z2 (a0 + 3) 0)) ∧ 4 + (3 * (Z2 (a0 + 3) 0)) < 26 ∧ (∀ Z3 : Zt, Z3 = up Z2 (a0 + 3) (4 + (3 * (Z2 (a0 + 3) 0))).toNat r3 → (V mX12_sumLine k n 136 [some (r_ a0), none, none, none, none, none] [] x Z3 Q))))))))))))))))))))))))) :
    V mX12_sumLine k n 51 [some (r_ a0), none, none, none, none, none] [] x Z Q :=
  V_aload_n dX12_sumLine_51 rfl (V_iconst dX12_sumLine_52 (V_bipush dX12_sumLine_53 rfl (Exists.elim h (fun g1 w1 => Exists.elim w1 (fun g2 w2 => Exists.elim w2 (fun g3 w3 => V_callV (k' := 0) (n' := 0) (t := 12) (q := (RX12, TX12, 46)) [i_ 0, i_ 12] [] okX12_numbered o_a0.1 rfl rfl lm_12_140 liX12_numbered lqX12_numbered (Nat.le_of_ble_eq_true rfl) (Nat.le_of_ble_eq_true rfl) (Nat.le_of_ble_eq_true rfl) (cat_of rfl) (Nat.le_of_ble_eq_true rfl) (Nat.zero_le _) (Nat.zero_le _) rfl dX12_sumLine_55 (sp_X12_numbered o_a0 w3.1 w3.2.1 w3.2.2.1 (fun r1 Z'1 p1 => V_istore_n (lv' := [some (r_ a0), none, none, some (i_ r1), none, none]) dX12_sumLine_58 (Nat.le_of_ble_eq_true rfl) rfl (V_aload_n dX12_sumLine_59 rfl (V_iconst dX12_sumLine_60 (V_bipush dX12_sumLine_61 rfl (Exists.elim (w3.2.2.2 r1 Z'1 p1) (fun g4 w4 => Exists.elim w4 (fun g5 w5 => Exists.elim w5 (fun g6 w6 => V_callV (k' := 0) (n' := 0) (t := 12) (q := (RX12, TX12, 46)) [i_ 0, i_ 12] [] okX12_numbered o_a0.1 rfl rfl lm_12_140 liX12_numbered lqX12_numbered (Nat.le_of_ble_eq_true rfl) (Nat.le_of_ble_eq_true rfl) (Nat.le_of_ble_eq_true rfl) (cat_of rfl) (Nat.le_of_ble_eq_true rfl) (Nat.zero_le _) (Nat.zero_le _) rfl dX12_sumLine_63 (sp_X12_numbered o_a0 w6.1 w6.2.1 w6.2.2.1 (fun r2 Z'2 p2 => V_istore (lv' := [some (r_ a0), none, none, some (i_ r1), some (i_ r2), none]) dX12_sumLine_66 (Nat.le_of_ble_eq_true rfl) rfl (V_aload_n dX12_sumLine_68 rfl (V_iconst dX12_sumLine_69 (Exists.elim (w6.2.2.2 r2 Z'2 p2) (fun g7 w7 => Exists.elim w7 (fun g8 w8 => Exists.elim w8 (fun g9 w9 => V_callV (k' := 0) (n' := 0) (t := 12) (q := (RX12, TX12, 46)) [i_ 5] [] okX12_signed o_a0.1 rfl rfl lm_12_153 liX12_signed lqX12_signed (Nat.le_of_ble_eq_true rfl) (Nat.le_of_ble_eq_true rfl) (Nat.le_of_ble_eq_true rfl) (cat_of rfl) (Nat.le_of_ble_eq_true rfl) (Nat.zero_le _) (Nat.zero_le _) rfl dX12_sumLine_70 (sp_X12_signed o_a0 w9.1 w9.2.1 (fun r3 Z'3 p3 => V_istore (lv' := [some (r_ a0), none, none, some (i_ r1), some (i_ r2), some (i_ r3)]) dX12_sumLine_73 (Nat.le_of_ble_eq_true rfl) rfl (V_aload_n dX12_sumLine_75 rfl (G_12_9 o_a0.1 o_a0.qR9 lf_12_17 dX12_sumLine_76 (V_iconst dX12_sumLine_79 (V_iald (t := 100) o_a0.qK9 (by decide) rfl (by decide) (by decide) (Nat.le_of_ble_eq_true rfl) dX12_sumLine_80 (V_bipush dX12_sumLine_81 rfl (V_icmp_ge (tgt := 136) dX12_sumLine_83 rfl (w9.2.2 r3 Z'3 p3).1 (rg_c rfl) (fun c1 => V_msk [true, false, false, false, false, false] rfl ((w9.2.2 r3 Z'3 p3).2.1 c1)) (fun c1 => V_aload_n dX12_sumLine_86 rfl (G_12_9 o_a0.1 o_a0.qR9 lf_12_17 dX12_sumLine_87 (V_iconst dX12_sumLine_90 (V_iconst dX12_sumLine_91 (V_aload_n dX12_sumLine_92 rfl (G_12_9 o_a0.1 o_a0.qR9 lf_12_17 dX12_sumLine_93 (V_iconst dX12_sumLine_96 (V_iald (t := 100) o_a0.qK9 (by decide) rfl (by decide) (by decide) (Nat.le_of_ble_eq_true rfl) dX12_sumLine_97 (V_imul dX12_sumLine_98 (V_iadd dX12_sumLine_99 (V_iload_n dX12_sumLine_100 rfl (V_iast (t := 100) o_a0.qK9 (by decide) (by decide) rfl ((w9.2.2 r3 Z'3 p3).2.2 c1).1 ((w9.2.2 r3 Z'3 p3).2.2 c1).2.1 (Nat.le_of_ble_eq_true rfl) dX12_sumLine_101 (V_nmZ (fun Z1 eZ1 => V_aload_n dX12_sumLine_102 rfl (G_12_9 o_a0.1 o_a0.qR9 lf_12_17 dX12_sumLine_103 (V_iconst dX12_sumLine_106 (V_iconst dX12_sumLine_107 (V_aload_n dX12_sumLine_108 rfl (G_12_9 o_a0.1 o_a0.qR9 lf_12_17 dX12_sumLine_109 (V_iconst dX12_sumLine_112 (V_iald (t := 100) o_a0.qK9 (by decide) rfl (by decide) (by decide) (Nat.le_of_ble_eq_true rfl) dX12_sumLine_113 (V_imul dX12_sumLine_114 (V_iadd dX12_sumLine_115 (V_iload dX12_sumLine_116 rfl (V_iast (t := 100) o_a0.qK9 (by decide) (by decide) rfl (((w9.2.2 r3 Z'3 p3).2.2 c1).2.2 Z1 eZ1).1 (((w9.2.2 r3 Z'3 p3).2.2 c1).2.2 Z1 eZ1).2.1 (Nat.le_of_ble_eq_true rfl) dX12_sumLine_118 (V_nmZ (fun Z2 eZ2 => V_aload_n dX12_sumLine_119 rfl (G_12_9 o_a0.1 o_a0.qR9 lf_12_17 dX12_sumLine_120 (V_iconst dX12_sumLine_123 (V_iconst dX12_sumLine_124 (V_aload_n dX12_sumLine_125 rfl (G_12_9 o_a0.1 o_a0.qR9 lf_12_17 dX12_sumLine_126 (V_iconst dX12_sumLine_129 (V_iald (t := 100) o_a0.qK9 (by decide) rfl (by decide) (by decide) (Nat.le_of_ble_eq_true rfl) dX12_sumLine_130 (V_imul dX12_sumLine_131 (V_iadd dX12_sumLine_132 (V_iload dX12_sumLine_133 rfl (V_iast (t := 100) o_a0.qK9 (by decide) (by decide) rfl ((((w9.2.2 r3 Z'3 p3).2.2 c1).2.2 Z1 eZ1).2.2 Z2 eZ2).1 ((((w9.2.2 r3 Z'3 p3).2.2 c1).2.2 Z1 eZ1).2.2 Z2 eZ2).2.1 (Nat.le_of_ble_eq_true rfl) dX12_sumLine_135 (V_nmZ (fun Z3 eZ3 => V_msk [true, false, false, false, false, false] rfl (((((w9.2.2 r3 Z'3 p3).2.2 c1).2.2 Z1 eZ1).2.2 Z2 eZ2).2.2 Z3 eZ3))))))))))))))))))))))))))))))))))))))))))))))))))))))))))))))))))))))))
set_option maxRecDepth 20000 in
theorem b_X12_sumLine_136 {k n : Nat} {x : Wx} {Z : Zt} {Q : Option Value → Wx → Zt → Prop} {a0 : Nat} (o_a0 : Is12 x a0)
    (h : ∀ Z1 : Zt, Z1 = up Z (a0 + 3) 0 ((Z (a0 + 3) 0) + 1) → (V mX12_sumLine k n 146 [some (r_ a0), none, none, none, none, none] [] x Z1 Q)) :
    V mX12_sumLine k n 136 [some (r_ a0), none, none, none, none, none] [] x Z Q :=
  V_aload_n dX12_sumLine_136 rfl (G_12_9 o_a0.1 o_a0.qR9 lf_12_17 dX12_sumLine_137 (V_iconst dX12_sumLine_140 (V_dup2 dX12_sumLine_141 rfl rfl (V_iald (t := 100) o_a0.qK9 (by decide) rfl (by decide) (by decide) (Nat.le_of_ble_eq_true rfl) dX12_sumLine_142 (V_iconst dX12_sumLine_143 (V_iadd dX12_sumLine_144 (V_iast (t := 100) o_a0.qK9 (by decide) (by decide) rfl (by decide) (by decide) (Nat.le_of_ble_eq_true rfl) dX12_sumLine_145 (V_nmZ (fun Z1 eZ1 => V_msk [true, false, false, false, false, false] rfl (h Z1 eZ1))))))))))
set_option maxRecDepth 20000 in
theorem b_X12_sumLine_146 {k n : Nat} {x : Wx} {Z : Zt} {Q : Option Value → Wx → Zt → Prop} {a0 : Nat} (o_a0 : Is12 x a0)
    (h : ∃ g1 : Nat → Int, (∃ g2 : Nat, (∃ g3 : Nat → Int, (ML g1 g2 g3 Z a0 ∧ (∀ (Z'1 : Zt), (ML g1 g2 (clsF g1 g3) Z'1 a0 ∧ RF a0 Z Z'1) → (Q none x Z'1)))))) :
    V mX12_sumLine k n 146 [some (r_ a0), none, none, none, none, none] [] x Z Q :=
  V_aload_n dX12_sumLine_146 rfl (Exists.elim h (fun g1 w1 => Exists.elim w1 (fun g2 w2 => Exists.elim w2 (fun g3 w3 => V_callV (k' := 0) (n' := 0) (t := 12) (q := (RX12, TX12, 46)) [] [] okX12_endsLine o_a0.1 rfl rfl lm_12_150 liX12_endsLine lqX12_endsLine (Nat.le_of_ble_eq_true rfl) (Nat.le_of_ble_eq_true rfl) (Nat.le_of_ble_eq_true rfl) (cat_of rfl) (Nat.le_of_ble_eq_true rfl) (Nat.zero_le _) (Nat.zero_le _) rfl dX12_sumLine_147 (sp_X12_endsLine o_a0 w3.1 (fun Z'1 p1 => V_ret dX12_sumLine_150 rfl (w3.2 Z'1 p1)))))))
theorem dX12_functionLine_0 : decode cX12_functionLine 0 = .ok (.aload_n 0, 1) := by decide +kernel
theorem dX12_functionLine_1 : decode cX12_functionLine 1 = .ok (.iconst 5, 1) := by decide +kernel
theorem dX12_functionLine_2 : decode cX12_functionLine 2 = .ok (.bipush 6, 2) := by decide +kernel
theorem dX12_functionLine_4 : decode cX12_functionLine 4 = .ok (.invokevirtual 144, 3) := by decide +kernel
theorem dX12_functionLine_7 : decode cX12_functionLine 7 = .ok (.istore_n 1, 1) := by decide +kernel
theorem dX12_functionLine_8 : decode cX12_functionLine 8 = .ok (.aload_n 0, 1) := by decide +kernel
theorem dX12_functionLine_9 : decode cX12_functionLine 9 = .ok (.iconst 0, 1) := by decide +kernel
theorem dX12_functionLine_10 : decode cX12_functionLine 10 = .ok (.iload_n 1, 1) := by decide +kernel
theorem dX12_functionLine_11 : decode cX12_functionLine 11 = .ok (.iconst 5, 1) := by decide +kernel
theorem dX12_functionLine_12 : decode cX12_functionLine 12 = .ok (.if_icmp .ne 7, 3) := by decide +kernel
theorem dX12_functionLine_15 : decode cX12_functionLine 15 = .ok (.iconst 4, 1) := by decide +kernel
theorem dX12_functionLine_16 : decode cX12_functionLine 16 = .ok (.goto 4, 3) := by decide +kernel
theorem dX12_functionLine_19 : decode cX12_functionLine 19 = .ok (.iconst 2, 1) := by decide +kernel
theorem dX12_functionLine_20 : decode cX12_functionLine 20 = .ok (.invokevirtual 140, 3) := by decide +kernel
theorem dX12_functionLine_23 : decode cX12_functionLine 23 = .ok (.istore_n 2, 1) := by decide +kernel
theorem dX12_functionLine_24 : decode cX12_functionLine 24 = .ok (.aload_n 0, 1) := by decide +kernel
theorem dX12_functionLine_25 : decode cX12_functionLine 25 = .ok (.iconst 0, 1) := by decide +kernel
theorem dX12_functionLine_26 : decode cX12_functionLine 26 = .ok (.bipush 12, 2) := by decide +kernel
theorem dX12_functionLine_28 : decode cX12_functionLine 28 = .ok (.invokevirtual 140, 3) := by decide +kernel
theorem dX12_functionLine_31 : decode cX12_functionLine 31 = .ok (.istore_n 3, 1) := by decide +kernel
theorem dX12_functionLine_32 : decode cX12_functionLine 32 = .ok (.aload_n 0, 1) := by decide +kernel
theorem dX12_functionLine_33 : decode cX12_functionLine 33 = .ok (.getfield 17, 3) := by decide +kernel
theorem dX12_functionLine_36 : decode cX12_functionLine 36 = .ok (.iload_n 1, 1) := by decide +kernel
theorem dX12_functionLine_37 : decode cX12_functionLine 37 = .ok (.bipush 6, 2) := by decide +kernel
theorem dX12_functionLine_39 : decode cX12_functionLine 39 = .ok (.if_icmp .ne 7, 3) := by decide +kernel
theorem dX12_functionLine_42 : decode cX12_functionLine 42 = .ok (.iconst 5, 1) := by decide +kernel
theorem dX12_functionLine_43 : decode cX12_functionLine 43 = .ok (.goto 4, 3) := by decide +kernel
theorem dX12_functionLine_46 : decode cX12_functionLine 46 = .ok (.iconst 0, 1) := by decide +kernel
theorem dX12_functionLine_47 : decode cX12_functionLine 47 = .ok (.iload_n 2, 1) := by decide +kernel
theorem dX12_functionLine_48 : decode cX12_functionLine 48 = .ok (.iadd, 1) := by decide +kernel
theorem dX12_functionLine_49 : decode cX12_functionLine 49 = .ok (.iload_n 3, 1) := by decide +kernel
theorem dX12_functionLine_50 : decode cX12_functionLine 50 = .ok (.iastore, 1) := by decide +kernel
theorem dX12_functionLine_51 : decode cX12_functionLine 51 = .ok (.aload_n 0, 1) := by decide +kernel
theorem dX12_functionLine_52 : decode cX12_functionLine 52 = .ok (.invokevirtual 150, 3) := by decide +kernel
theorem dX12_functionLine_55 : decode cX12_functionLine 55 = .ok (.return_, 1) := by decide +kernel
set_option maxRecDepth 20000 in
theorem b_X12_functionLine_0 {k n : Nat} {x : Wx} {Z : Zt} {Q : Option Value → Wx → Zt → Prop} {a0 : Nat} (o_a0 : Is12 x a0)
    (h : ∃ g1 : Nat → Int, (∃ g2 : Nat, (∃ g3 : Nat → Int, (ML g1 g2 g3 Z a0 ∧ (1 ≤ (5 : Int) ∧ (6 : Int) ≤ 6 ∧ (5 : Int) ≤ (6 : Int)) ∧ (∀ (r1 : Int) (Z'1 : Zt), (TKS g1 g2 g3 Z Z'1 a0 (5 : Int) (6 : Int) r1) → (Rg r1 ∧ (((r1 ≠ 5) → (V mX12_functionLine k n 20 [some (r_ a0), some (i_ r1), none, none] [i_ 2, i_ 0, r_ a0] x Z'1 Q)) ∧ ((r1 = 5) → (V mX12_functionLine k n 20 [some (r_ a0), some (i_ r1), none, none] [i_ 4, i_ 0, r_ a0] x Z'1 Q))))))))) :
    V mX12_functionLine k n 0 [some (r_ a0), none, none, none] [] x Z Q :=
  V_aload_n dX12_functionLine_0 rfl (V_iconst dX12_functionLine_1 (V_bipush dX12_functionLine_2 rfl (Exists.elim h (fun g1 w1 => Exists.elim w1 (fun g2 w2 => Exists.elim w2 (fun g3 w3 => V_callV (k' := 0) (n' := 0) (t := 12) (q := (RX12, TX12, 46)) [i_ 5, i_ 6] [] okX12_takes o_a0.1 rfl rfl lm_12_144 liX12_takes lqX12_takes (Nat.le_of_ble_eq_true rfl) (Nat.le_of_ble_eq_true rfl) (Nat.le_of_ble_eq_true rfl) (cat_of rfl) (Nat.le_of_ble_eq_true rfl) (Nat.zero_le _) (Nat.zero_le _) rfl dX12_functionLine_4 (sp_X12_takes o_a0 w3.1 w3.2.1 (fun r1 Z'1 p1 => V_istore_n (lv' := [some (r_ a0), some (i_ r1), none, none]) dX12_functionLine_7 (Nat.le_of_ble_eq_true rfl) rfl (V_aload_n dX12_functionLine_8 rfl (V_iconst dX12_functionLine_9 (V_iload_n dX12_functionLine_10 rfl (V_iconst dX12_functionLine_11 (V_icmp_ne (tgt := 19) dX12_functionLine_12 rfl (w3.2.2 r1 Z'1 p1).1 (rg_c rfl) (fun c1 => V_iconst dX12_functionLine_19 (V_msk [true, true, false, false] rfl ((w3.2.2 r1 Z'1 p1).2.1 c1))) (fun c1 => V_iconst dX12_functionLine_15 (V_goto (tgt := 20) dX12_functionLine_16 rfl (V_msk [true, true, false, false] rfl ((w3.2.2 r1 Z'1 p1).2.2 c1)))))))))))))))))
set_option maxRecDepth 20000 in
theorem b_X12_functionLine_20 {k n : Nat} {x : Wx} {Z : Zt} {Q : Option Value → Wx → Zt → Prop} {a0 : Nat} {v1 : Int} {b0_ : Nat} {t1 : Int} {t2 : Int} (o_b0 : Is12 x b0_) (o_a0 : Is12 x a0)
    (h : ∃ g1 : Nat → Int, (∃ g2 : Nat, (∃ g3 : Nat → Int, (MLw g1 g2 g3 Z b0_ t2 ∧ t1 = 0 ∧ (0 ≤ t2 ∧ t2 ≤ 99) ∧ (∀ (r1 : Int) (Z'1 : Zt), (NR g1 t2 g3 r1 ∧ ML g1 g2 (numF g1 t2 g3) Z'1 b0_ ∧ RF b0_ Z Z'1) → (∃ g4 : Nat → Int, (∃ g5 : Nat, (∃ g6 : Nat → Int, (MLw g4 g5 g6 Z'1 a0 (12 : Int) ∧ (0 : Int) = 0 ∧ (0 ≤ (12 : Int) ∧ (12 : Int) ≤ 99) ∧ (∀ (r2 : Int) (Z'2 : Zt), (NR g4 (12 : Int) g6 r2 ∧ ML g4 g5 (numF g4 (12 : Int) g6) Z'2 a0 ∧ RF a0 Z'1 Z'2) → (Rg v1 ∧ (((v1 ≠ 6) → (V mX12_functionLine k n 47 [some (r_ a0), none, some (i_ r1), some (i_ r2)] [i_ 0, r_ (a0 + 3)] x Z'2 Q)) ∧ ((v1 = 6) → (V mX12_functionLine k n 47 [some (r_ a0), none, some (i_ r1), some (i_ r2)] [i_ 5, r_ (a0 + 3)] x Z'2 Q)))))))))))))) :
    V mX12_functionLine k n 20 [some (r_ a0), some (i_ v1), none, none] [i_ t2, i_ t1, r_ b0_] x Z Q :=
  Exists.elim h (fun g1 w1 => Exists.elim w1 (fun g2 w2 => Exists.elim w2 (fun g3 w3 => V_callV (k' := 0) (n' := 0) (t := 12) (q := (RX12, TX12, 46)) [i_ t1, i_ t2] [] okX12_numbered o_b0.1 rfl rfl lm_12_140 liX12_numbered lqX12_numbered (Nat.le_of_ble_eq_true rfl) (Nat.le_of_ble_eq_true rfl) (Nat.le_of_ble_eq_true rfl) (cat_of rfl) (Nat.le_of_ble_eq_true rfl) (Nat.zero_le _) (Nat.zero_le _) rfl dX12_functionLine_20 (sp_X12_numbered o_b0 w3.1 w3.2.1 w3.2.2.1 (fun r1 Z'1 p1 => V_istore_n (lv' := [some (r_ a0), some (i_ v1), some (i_ r1), none]) dX12_functionLine_23 (Nat.le_of_ble_eq_true rfl) rfl (V_aload_n dX12_functionLine_24 rfl (V_iconst dX12_functionLine_25 (V_bipush dX12_functionLine_26 rfl (Exists.elim (w3.2.2.2 r1 Z'1 p1) (fun g4 w4 => Exists.elim w4 (fun g5 w5 => Exists.elim w5 (fun g6 w6 => V_callV (k' := 0) (n' := 0) (t := 12) (q := (RX12, TX12, 46)) [i_ 0, i_ 12] [] okX12_numbered o_a0.1 rfl rfl lm_12_140 liX12_numbered lqX12_numbered (Nat.le_of_ble_eq_true rfl) (Nat.le_of_ble_eq_true rfl) (Nat.le_of_ble_eq_true rfl) (cat_of rfl) (Nat.le_of_ble_eq_true rfl) (Nat.zero_le _) (Nat.zero_le _) rfl dX12_functionLine_28 (sp_X12_numbered o_a0 w6.1 w6.2.1 w6.2.2.1 (fun r2 Z'2 p2 => V_istore_n (lv' := [some (r_ a0), some (i_ v1), some (i_ r1), some (i_ r2)]) dX12_functionLine_31 (Nat.le_of_ble_eq_true rfl) rfl (V_aload_n dX12_functionLine_32 rfl (G_12_9 o_a0.1 o_a0.qR9 lf_12_17 dX12_functionLine_33 (V_iload_n dX12_functionLine_36 rfl (V_bipush dX12_functionLine_37 rfl (V_icmp_ne (tgt := 46) dX12_functionLine_39 rfl (w6.2.2.2 r2 Z'2 p2).1 (rg_c rfl) (fun c1 => V_iconst dX12_functionLine_46 (V_msk [true, false, true, true] rfl ((w6.2.2.2 r2 Z'2 p2).2.1 c1))) (fun c1 => V_iconst dX12_functionLine_42 (V_goto (tgt := 47) dX12_functionLine_43 rfl (V_msk [true, false, true, true] rfl ((w6.2.2.2 r2 Z'2 p2).2.2 c1)))))))))))))))))))))))
set_option maxRecDepth 20000 in
theorem b_X12_functionLine_47 {k n : Nat} {x : Wx} {Z : Zt} {Q : Option Value → Wx → Zt → Prop} {a0 : Nat} {v2 : Int} {v3 : Int} {b0_ : Nat} {t1 : Int} (o_a0 : Is12 x a0) (s_b0 : x.1 b0_ = some (100, 26))
    (h : 0 ≤ t1 + v2 ∧ t1 + v2 < 26 ∧ (∀ Z1 : Zt, Z1 = up Z b0_ (t1 + v2).toNat v3 → (∃ g1 : Nat → Int, (∃ g2 : Nat, (∃ g3 : Nat → Int, (ML g1 g2 g3 Z1 a0 ∧ (∀ (Z'1 : Zt), (ML g1 g2 (clsF g1 g3) Z'1 a0 ∧ RF a0 Z1 Z'1) → (Q none x Z'1)))))))) :
    V mX12_functionLine k n 47 [some (r_ a0), none, some (i_ v2), some (i_ v3)] [i_ t1, r_ b0_] x Z Q :=
  V_iload_n dX12_functionLine_47 rfl (V_iadd dX12_functionLine_48 (V_iload_n dX12_functionLine_49 rfl (V_iast (t := 100) s_b0 (by decide) (by decide) rfl h.1 h.2.1 (Nat.le_of_ble_eq_true rfl) dX12_functionLine_50 (V_nmZ (fun Z1 eZ1 => V_aload_n dX12_functionLine_51 rfl (Exists.elim (h.2.2 Z1 eZ1) (fun g1 w1 => Exists.elim w1 (fun g2 w2 => Exists.elim w2 (fun g3 w3 => V_callV (k' := 0) (n' := 0) (t := 12) (q := (RX12, TX12, 46)) [] [] okX12_endsLine o_a0.1 rfl rfl lm_12_150 liX12_endsLine lqX12_endsLine (Nat.le_of_ble_eq_true rfl) (Nat.le_of_ble_eq_true rfl) (Nat.le_of_ble_eq_true rfl) (cat_of rfl) (Nat.le_of_ble_eq_true rfl) (Nat.zero_le _) (Nat.zero_le _) rfl dX12_functionLine_52 (sp_X12_endsLine o_a0 w3.1 (fun Z'1 p1 => V_ret dX12_functionLine_55 rfl (w3.2 Z'1 p1))))))))))))
/-- a row as read here and there -/
def RwT (t : Int) (r R : Nat → Int) : Prop := if t = 0 then R 0 = r 0 ∧ R 1 = r 1 + 1 ∧ ∀ i : Nat, (i : Int) ≤ r 1 → R (2 + i) = r (2 + i) else if t = 1 then R 0 = r 0 ∧ R 1 = r 1 ∧ ∀ i : Nat, (i : Int) < 3 * r 0 → R (2 + i) = r (2 + i) else ∀ i : Nat, i < 8 → R i = r i
def LnR (s : Nat → Int) (m : Nat) (t : Int) (q : Rq) (Z : Zt) (b : Nat) : Prop := ML s m q.1 Z b ∧ (q.1 1 = 0 → RwT t q.2 (Z (b + 3)))
def RL (b : Nat) (Z Z' : Zt) : Prop := (∀ c, c ≠ b → c ≠ b + 1 → c ≠ b + 3 → Z' c = Z c) ∧ (∀ i : Nat, (i < 3 ∨ 8 < i) → Z' b i = Z b i) ∧ (∀ i : Nat, i ≠ 4 → i ≠ 5 → Z' (b + 1) i = Z (b + 1) i)
theorem RL.rf {b : Nat} {Z : Zt} : RL b Z Z := ⟨fun _ _ _ _ => rfl, fun _ _ => rfl, fun _ _ _ => rfl⟩
theorem RL.tr {b : Nat} {Z Z1 Z2 : Zt} (h : RL b Z Z1) (g : RL b Z1 Z2) : RL b Z Z2 := ⟨fun c h1 h2 h3 => (g.1 c h1 h2 h3).trans (h.1 c h1 h2 h3), fun i hi => (g.2.1 i hi).trans (h.2.1 i hi), fun i h1 h2 => (g.2.2 i h1 h2).trans (h.2.2 i h1 h2)⟩
theorem RF.rl {b : Nat} {Z Z1 : Zt} (h : RF b Z Z1) : RL b Z Z1 := ⟨fun c h1 h2 _ => h.1 c h1 h2, h.2.1, h.2.2⟩
theorem RL.put {b i : Nat} {v : Int} {Z Z1 : Zt} (e : Z1 = up Z (b + 3) i v) : RL b Z Z1 := ⟨fun c _ _ h3 => by rw [e, up_row _ _ _ _ _ h3], fun j _ => by rw [e, up_row _ _ _ _ _ (by omega)], fun j _ _ => by rw [e, up_row _ _ _ _ _ (by omega)]⟩
theorem ML.put {s : Nat → Int} {m : Nat} {f : Nat → Int} {Z Z1 : Zt} {b i : Nat} {v : Int} (h : ML s m f Z b) (e : Z1 = up Z (b + 3) i v) : ML s m f Z1 b := by
  have e0 : Z1 b = Z b := by rw [e, up_row _ _ _ _ _ (by omega)]
  have e1 : Z1 (b + 1) = Z (b + 1) := by rw [e, up_row _ _ _ _ _ (by omega)]
  unfold ML LV Ded MB at h ⊢
  rw [e0, e1]; exact h
theorem RF.r3 {b : Nat} {Z Z1 : Zt} (h : RF b Z Z1) : Z1 (b + 3) = Z (b + 3) := h.1 _ (by omega) (by omega)
theorem dd_cn {s : Nat → Int} : ∀ (m i : Nat) (q : Rq), q.1 1 = 1 → q.1 6 = 5 → (cnN s m i q).1 = q.1
  | 0, _, _, _, _ => rfl
  | m + 1, i, q, h1, h6 => by
    have e : (cnI s i q).1 = q.1 := dd_num h1 h6
    show (cnN s m (i + 1) (cnI s i q)).1 = q.1
    rw [dd_cn m (i + 1) (cnI s i q) (by rw [e]; exact h1) (by rw [e]; exact h6), e]
theorem ipr_iff (v : Int) : ipr v = true ↔ IsP v := by
  unfold ipr IsP; rw [decide_eq_true_eq]
theorem sp_X12_curveLine {k n : Nat} {x : Wx} {Z : Zt} {Q : Option Value → Wx → Zt → Prop} {b : Nat} (o : Is12 x b) {s : Nat → Int} {m : Nat} {q : Rq} (hM : LnR s m 0 q Z b) (h : ∀ Z' : Zt, (LnR s m 0 (clS s q) Z' b ∧ RL b Z Z') → Q none x Z') : V mX12_curveLine k n 0 [some (r_ b), none] [] x Z Q := by
  obtain ⟨hM, hR⟩ := hM
  unfold RwT at hR
  rw [if_pos rfl] at hR
  have tail : ∀ (X : Rq) (Z1 : Zt), X = clX s q → ML s m X.1 Z1 b → (X.1 1 = 0 → Z1 (b + 3) 0 = X.2 0 ∧ Z1 (b + 3) 1 = X.2 1 + 1 ∧ ∀ i : Nat, (i : Int) ≤ X.2 1 → Z1 (b + 3) (2 + i) = X.2 (2 + i)) → RL b Z Z1 → V mX12_curveLine k n 140 [some (r_ b), none] [] x Z1 Q := by
    intro X Z1 hX h1 h2 h3
    refine b_X12_curveLine_140 o ⟨s, m, X.1, h1, fun Z2 hz => ?_⟩
    refine h Z2 ⟨⟨?_, fun e => ?_⟩, h3.tr hz.2.rl⟩
    · unfold clS; rw [← hX]; exact hz.1
    · unfold clS at e ⊢
      rw [← hX] at e ⊢
      have := h2 (cls_0 e)
      unfold RwT
      rw [if_pos rfl, hz.2.r3]; exact this
  refine b_X12_curveLine_0 o ⟨s, m, q.1, hM, by decide, fun r1 Z1 hT => ?_⟩
  unfold TKS at hT
  rcases hT with ⟨⟨u1, u2⟩, hw, ⟨hL, hO, h6⟩, hM1, hL1, hF1⟩ | ⟨r0, hw, hD1, hF1⟩
  · have w1 := hw 1 (by decide) (by decide)
    have w2 := hw 2 (by decide) (by decide)
    have w1 : isW s q.1 10 = true ↔ (1 : Int) = r1 := w1
    have w2 : isW s q.1 11 = true ↔ (2 : Int) = r1 := w2
    have hi := hL.2.2.1
    refine ⟨⟨by omega, by omega⟩, fun c1 => ?_, fun c1 => ?_⟩
    · -- curve
      have k8 := hL1.2.2.2.2.1.2
      refine ⟨by rw [k8]; exact rg_z, fun e => absurd k8 e, fun _ => ?_⟩
      have hX : clX s q = cnS s (nxF s q.1, q.2) := by unfold clX; rw [if_neg (fun e => by have := w1.mp e; omega), if_pos (w2.mpr (by omega))]
      have lp2 : ∀ (m' i : Nat) (q' : Rq) (Z2 : Zt), i + m' = 6 → ML s m q'.1 Z2 b → (q'.1 1 = 0 → Z2 (b + 3) 0 = q'.2 0 ∧ ∀ j : Nat, j < i → Z2 (b + 3) (2 + j) = q'.2 (2 + j)) → RL b Z Z2 → (∀ Z3 : Zt, ML s m (cnN s m' i q').1 Z3 b → ((cnN s m' i q').1 1 = 0 → Z3 (b + 3) 0 = (cnN s m' i q').2 0 ∧ ∀ j : Nat, j < 6 → Z3 (b + 3) (2 + j) = (cnN s m' i q').2 (2 + j)) → Z3 (b + 3) 1 = 6 → RL b Z Z3 → V mX12_curveLine k n 140 [some (r_ b), none] [] x Z3 Q) → V mX12_curveLine k n 105 [some (r_ b), some (i_ (i : Int))] [] x Z2 Q := by
        intro m'
        induction m' with
        | zero =>
          intro i q' Z2 hi' h1 h2 h3 hk
          refine b_X12_curveLine_105 o ⟨⟨by omega, by omega⟩, fun _ Z3 e3 => ?_, fun c => by omega⟩
          refine hk Z3 (h1.put e3) (fun e => ?_) (by rw [e3, up_self]) (h3.tr (RL.put e3))
          have := h2 e
          rw [e3]
          refine ⟨by rw [up_at, if_neg (by decide)]; exact this.1, fun j hj => ?_⟩
          rw [up_at, if_neg (by omega)]; exact this.2 j (by omega)
        | succ m' ih =>
          intro i q' Z2 hi' h1 h2 h3 hk
          refine b_X12_curveLine_105 o ⟨⟨by omega, by omega⟩, fun c => by omega, fun _ => ⟨s, m, q'.1, h1.w 12, rfl, by decide, fun r2 Z3 hz => ⟨by omega, by omega, fun Z4 e4 => ?_⟩⟩⟩
          obtain ⟨⟨g1, g2⟩, g3, g4⟩ := hz
          rw [show (2 + (i : Int)).toNat = 2 + i from by omega] at e4
          refine ih (i + 1) (cnI s i q') Z4 (by omega) (g3.put e4) (fun e => ?_) ((h3.tr g4.rl).tr (RL.put e4)) hk
          have e' : numF s 12 q'.1 1 = 0 := e
          have := h2 (num_0 h1.mb.2.2.1 e').1
          rw [e4]
          refine ⟨?_, fun j hj => ?_⟩
          · rw [up_at, if_neg (by omega), g4.r3]
            show _ = upf q'.2 (2 + i) _ 0
            rw [upf_ne _ _ (by omega)]; exact this.1
          · rw [up_at, g4.r3]
            show _ = upf q'.2 (2 + i) _ (2 + j)
            by_cases cj : j = i
            · rw [cj, if_pos rfl, upf_at]; exact g2 e'
            · rw [if_neg (by omega), upf_ne _ _ (by omega)]; exact this.2 j (by omega)
      have lp1 : ∀ (m' i : Nat) (q' : Rq) (Z2 : Zt), i + m' = 4 → ML s m q'.1 Z2 b → (q'.1 1 = 0 → Z2 (b + 3) 0 = q'.2 0 ∧ ∀ j : Nat, j < i → Z2 (b + 3) (2 + j) = q'.2 (2 + j)) → RL b Z Z2 → cnN s m' i q' = cnN s 4 0 (nxF s q.1, q.2) → V mX12_curveLine k n 62 [some (r_ b), some (i_ (i : Int))] [] x Z2 Q := by
        intro m'
        induction m' with
        | zero =>
          intro i q' Z2 hi' h1 h2 h3 hk
          have hk : q' = cnN s 4 0 (nxF s q.1, q.2) := hk
          refine b_X12_curveLine_62 o ⟨⟨by omega, by omega⟩, fun _ Z3 e3 => ?_, fun c => by omega⟩
          have h3' := h1.put e3
          have f3 := h3.tr (RL.put e3)
          have rows : q'.1 1 = 0 → Z3 (b + 3) 0 = q'.2 0 ∧ ∀ j : Nat, j < 4 → Z3 (b + 3) (2 + j) = q'.2 (2 + j) := fun e => by
            have := h2 e
            rw [e3]
            refine ⟨by rw [up_at, if_neg (by decide)]; exact this.1, fun j hj => ?_⟩
            rw [up_at, if_neg (by omega)]; exact this.2 j (by omega)
          refine ⟨h3'.w5, fun c5 => ?_, fun c5 => ?_⟩
          · have n6 : ¬ q'.1 6 = 2 := by
              rcases h3' with ⟨hl, _⟩ | hd
              · exact fun e => c5 (hl.num.1.mpr e)
              · have := hd.2.2.2.2.1; omega
            have hX2 : clX s q = (q'.1, upf (upf (upf q'.2 6 0) 7 0) 1 3) := by rw [hX]; unfold cnS; rw [← hk, if_neg n6]
            refine tail _ Z3 hX2.symm h3' (fun e => ?_) f3
            have := rows e
            refine ⟨?_, ?_, fun j hj => ?_⟩
            · show _ = upf (upf (upf q'.2 6 0) 7 0) 1 3 0
              rw [upf_ne _ _ (by decide), upf_ne _ _ (by decide), upf_ne _ _ (by decide)]; exact this.1
            · show _ = upf (upf (upf q'.2 6 0) 7 0) 1 3 1 + 1
              rw [upf_at, e3, up_self]; rfl
            · have hj : (j : Int) ≤ upf (upf (upf q'.2 6 0) 7 0) 1 3 1 := hj
              rw [upf_at] at hj
              show _ = upf (upf (upf q'.2 6 0) 7 0) 1 3 (2 + j)
              rw [upf_ne _ _ (by omega), upf_ne _ _ (by omega), upf_ne _ _ (by omega)]; exact this.2 j (by omega)
          · refine lp2 2 4 q' Z3 rfl h3' rows f3 (fun Z4 g1 g2 g3 g4 => ?_)
            by_cases n6 : q'.1 6 = 2
            · have hX2 : clX s q = ((cnN s 2 4 q').1, upf (cnN s 2 4 q').2 1 5) := by rw [hX]; unfold cnS; rw [← hk, if_pos n6]
              refine tail _ Z4 hX2.symm g1 (fun e => ?_) g4
              have := g2 e
              refine ⟨?_, ?_, fun j hj => ?_⟩
              · show _ = upf (cnN s 2 4 q').2 1 5 0
                rw [upf_ne _ _ (by decide)]; exact this.1
              · show _ = upf (cnN s 2 4 q').2 1 5 1 + 1
                rw [upf_at, g3]; rfl
              · have hj : (j : Int) ≤ upf (cnN s 2 4 q').2 1 5 1 := hj
                rw [upf_at] at hj
                show _ = upf (cnN s 2 4 q').2 1 5 (2 + j)
                rw [upf_ne _ _ (by omega)]; exact this.2 j (by omega)
            · rcases h3' with ⟨hl, _⟩ | hd
              · exact absurd (hl.num.1.mp c5) n6
              · have hd1 := hd.2.2.2.2.1
                have hX2 : clX s q = (q'.1, upf (upf (upf q'.2 6 0) 7 0) 1 3) := by rw [hX]; unfold cnS; rw [← hk, if_neg n6]
                rw [dd_cn 2 4 q' hd1.1 hd1.2.1] at g1
                exact tail _ Z4 hX2.symm g1 (fun e => by have e : q'.1 1 = 0 := e; omega) g4
        | succ m' ih =>
          intro i q' Z2 hi' h1 h2 h3 hk
          refine b_X12_curveLine_62 o ⟨⟨by omega, by omega⟩, fun c => by omega, fun _ => ⟨s, m, q'.1, h1.w 12, rfl, by decide, fun r2 Z3 hz => ⟨by omega, by omega, fun Z4 e4 => ?_⟩⟩⟩
          obtain ⟨⟨g1, g2⟩, g3, g4⟩ := hz
          rw [show (2 + (i : Int)).toNat = 2 + i from by omega] at e4
          refine ih (i + 1) (cnI s i q') Z4 (by omega) (g3.put e4) (fun e => ?_) ((h3.tr g4.rl).tr (RL.put e4)) hk
          have e' : numF s 12 q'.1 1 = 0 := e
          have := h2 (num_0 h1.mb.2.2.1 e').1
          rw [e4]
          refine ⟨?_, fun j hj => ?_⟩
          · rw [up_at, if_neg (by omega), g4.r3]
            show _ = upf q'.2 (2 + i) _ 0
            rw [upf_ne _ _ (by omega)]; exact this.1
          · rw [up_at, g4.r3]
            show _ = upf q'.2 (2 + i) _ (2 + j)
            by_cases cj : j = i
            · rw [cj, if_pos rfl, upf_at]; exact g2 e'
            · rw [if_neg (by omega), upf_ne _ _ (by omega)]; exact this.2 j (by omega)
      refine lp1 4 0 (nxF s q.1, q.2) Z1 rfl hM1 (fun e => ⟨?_, fun j hj => absurd hj (Nat.not_lt_zero j)⟩) hF1.rl rfl
      have e : nxF s q.1 1 = 0 := e
      rw [nx_f1] at e
      rw [hF1.r3]; exact (hR e).1
    · -- prime
      have hX : clX s q = (prmF s (nxF s q.1), upf q.2 0 (numV s (nxF s q.1))) := by unfold clX; rw [if_pos (w1.mpr (by omega))]
      have go : ∀ (f2 : Nat → Int) (Z2 : Zt), MLw s m f2 Z2 b 99 → numF s 99 f2 = prmF s (nxF s q.1) → (prmF s (nxF s q.1) 1 = 0 → numV s f2 = numV s (nxF s q.1)) → RF b Z1 Z2 → V mX12_curveLine k n 37 [some (r_ b), none] [] x Z2 Q := by
        intro f2 Z2 h1 h2 h3 h4
        refine b_X12_curveLine_37 o ⟨s, m, f2, h1, rfl, by decide, fun r2 Z3 hz Z4 e4 => ?_⟩
        obtain ⟨⟨g1, g2⟩, g3, g4⟩ := hz
        rw [h2] at g2 g3
        refine tail _ Z4 hX.symm (g3.put e4) (fun e => ?_) ((hF1.rl.tr (h4.tr g4).rl).tr (RL.put e4))
        have e : prmF s (nxF s q.1) 1 = 0 := e
        have e0 := (prm_0 e).1
        rw [nx_f1] at e0
        have := hR e0
        have r3 : Z3 (b + 3) = Z (b + 3) := by rw [g4.r3, h4.r3, hF1.r3]
        refine ⟨?_, ?_, fun j hj => ?_⟩
        · show _ = upf q.2 0 (numV s (nxF s q.1)) 0
          rw [upf_at, e4, up_self, g2 e, h3 e]
        · show _ = upf q.2 0 (numV s (nxF s q.1)) 1 + 1
          rw [upf_ne _ _ (by decide), e4, up_at, if_neg (by decide), r3]; exact this.2.1
        · have hj : (j : Int) ≤ upf q.2 0 (numV s (nxF s q.1)) 1 := hj
          rw [upf_ne _ _ (by decide)] at hj
          show _ = upf q.2 0 (numV s (nxF s q.1)) (2 + j)
          rw [upf_ne _ _ (by omega), e4, up_at, if_neg (by omega), r3]; exact this.2.2 j hj
      obtain ⟨l1, l2⟩ := hL1.num
      have hi1 := hL1.2.2.1
      refine ⟨hM1.w5, fun c5 => ?_, fun c5 => ?_⟩
      · have n6 : ¬ nxF s q.1 6 = 2 := fun e => c5 (l1.mpr e)
        refine go (nxF s q.1) Z1 (hM1.w 99) ?_ (fun _ => rfl) RF.rf
        unfold numF prmF; rw [if_neg n6, if_neg n6]
      · have n6 : nxF s q.1 6 = 2 := l1.mp c5
        have hv := val_rg hi1 n6
        rw [l2 c5]
        refine ⟨⟨by omega, by omega⟩, fun r2 hr2 => ⟨⟨by omega, by omega⟩, fun d => ?_, fun d => ?_⟩⟩
        · have hyp : IsP (valF s (nxF s q.1)) := by
            rcases hr2 with e | e
            · exact e.2
            · exact absurd e.1 d
          refine go (nxF s q.1) Z1 (hM1.w 99) ?_ (fun _ => rfl) RF.rf
          unfold numF prmF; rw [if_pos n6, if_pos n6, if_pos (by omega), if_pos ((ipr_iff _).mpr hyp)]
        · have hnp : ¬ IsP (valF s (nxF s q.1)) := by
            rcases hr2 with e | e
            · omega
            · exact e.2
          obtain ⟨hB, h4, _, hP, ⟨h1, k8⟩, ⟨h3, h7⟩, ⟨ha, hb⟩, _, _⟩ := id hL1
          have hO1 : nxF s q.1 1 ≠ 0 → nxF s q.1 2 < nxF s q.1 7 := by
            rcases hM1 with ⟨_, hh⟩ | hd
            · exact hh
            · exact absurd hd.2.2.2.2.1.1 h1
          have hP1 := hP.1
          have hP2 := hP.2
          have hf1 := hi1.2.2.1
          have hir := hi1.2.1
          have hi4 := hi1.1
          refine ⟨Or.inr ⟨k8, by rw [ha]; exact ⟨by omega, by omega⟩, by rw [h7]; exact ⟨by omega, by omega⟩, fun e0 => ?_⟩, fun Z2 e2 => ?_⟩
          · rw [ha] at e0
            rw [hb, h7]; exact ⟨⟨by omega, by omega⟩, hO1 e0⟩
          · rw [h7] at e2
            obtain ⟨n1, n2⟩ := hL1.note (w := 2) (Or.inl rfl)
            rw [← e2] at n1 n2
            obtain ⟨k1, k2, k3⟩ := note_f 2 (nxF s q.1)
            have vE : valF s (noteF 2 (nxF s q.1)) = valF s (nxF s q.1) := by unfold valF; rw [k3 5 (by decide) (by decide), k3 7 (by decide) (by decide)]
            refine go (noteF 2 (nxF s q.1)) Z2 (Or.inl ⟨n1, Or.inr ⟨by decide, fun e0 => ?_⟩⟩) ?_ (fun e => ?_) n2
            · rw [k2, k3 7 (by decide) (by decide)]
              split
              · omega
              · rename_i c9; have := hO1 c9; omega
            · unfold numF prmF
              rw [if_pos (by rw [k3 6 (by decide) (by decide)]; exact n6), if_pos n6, vE, if_pos (by omega), if_neg (fun e => hnp ((ipr_iff _).mp e))]
            · unfold numV; rw [k3 6 (by decide) (by decide), vE]
  · have w1 : isW s q.1 10 = false := hw 1 (by decide) (by decide)
    have w2 : isW s q.1 11 = false := hw 2 (by decide) (by decide)
    have hX : clX s q = (stopF q.1, q.2) := by unfold clX; rw [w1, w2]; rfl
    refine ⟨⟨by omega, by omega⟩, fun _ => ⟨by have := hD1.2.2.2.2.1.2.2; exact ⟨by omega, by omega⟩, fun _ => tail _ Z1 hX.symm (Or.inr hD1) (fun e => ?_) hF1.rl, fun e => by have := hD1.2.2.2.2.1.2.2; omega⟩, fun c => by omega⟩
    have e : stopF q.1 1 = 0 := e
    rw [stop_f1] at e; cases e
/-- the word, then the note of the place before it -/
theorem LV.alsN {s : Nat → Int} {m : Nat} {f : Nat → Int} {Z Z' : Zt} {b : Nat} (hL : LV s m f Z b) (hO : f 1 ≠ 0 → f 2 < f 7) (h6 : f 6 ≠ 0) (hL1 : LV s m (nxF s f) Z' b) : ML s m (nxF s (noteF 3 f)) (alsZ Z' b 3 (f 7)) b ∧ RF b Z' (alsZ Z' b 3 (f 7)) := by
  have h75 := hL.gt h6
  have hi := hL.2.2.1
  have hP := hL.2.2.2.1
  have h1 := hL.2.2.2.2.1.1
  obtain ⟨k1, k2, k3⟩ := note_f 3 f
  have n1 : noteF 3 f 1 ≠ 1 := by rw [k1]; split <;> omega
  obtain ⟨a5, a6, a7, a2⟩ := nx_f (s := s) n1
  obtain ⟨c5, c6, c7, c2⟩ := nx_f (s := s) h1
  rw [k3 4 (by decide) (by decide), k3 5 (by decide) (by decide)] at a5 a6 a7
  have b7 := nx_7 (s := s) hi h1
  obtain ⟨hB, h4, hi1, hP1, ⟨h1', h8⟩, ⟨h3, h7⟩, ⟨ha, hb⟩, ⟨e5, e6⟩, hk⟩ := hL1
  obtain ⟨r1, r2, r3, r4⟩ := als_row (w := 3) (p := f 7) h8
  have hr : RF b Z' (alsZ Z' b 3 (f 7)) := ⟨fun c _ c2 => r1 c c2, fun i _ => by rw [r1 b (by omega)], r4⟩
  have hiN : RInv s (noteF 3 f) := hi.note (by decide)
  rw [ha] at r2 r3
  rw [hb, c2] at r3
  rw [nx_f1] at r2 r3
  have q5 : nxF s (noteF 3 f) 5 = nxF s f 5 := by rw [a5, c5]
  have q6 : nxF s (noteF 3 f) 6 = nxF s f 6 := by rw [a6, c6]
  have q7 : nxF s (noteF 3 f) 7 = nxF s f 7 := by rw [a7, c7]
  refine ⟨Or.inl ⟨⟨hB.rf hr, by rw [nx_4, k3 4 (by decide) (by decide)]; exact hL.2.1, hiN.nx, (hP.note hi).nx, ⟨by rw [nx_f1]; exact n1, by rw [r1 b (by omega)]; exact h8⟩, ⟨by rw [r1 b (by omega), q5]; exact h3, by rw [r1 b (by omega), q7]; exact h7⟩, ⟨by rw [r2, nx_f1, k1], by rw [r3, a2, k2]⟩, ⟨by rw [q5, q7]; exact e5, by rw [q6, q7]; exact e6⟩, by rw [r1 b (by omega), q7]; exact hk⟩, fun e => ?_⟩, hr⟩
  rw [nx_f1, k1] at e
  rw [a2, k2, q7]
  split
  · omega
  · rename_i c9; have := hO c9; omega
theorem sp_X12_sumLine {k n : Nat} {x : Wx} {Z : Zt} {Q : Option Value → Wx → Zt → Prop} {b : Nat} (o : Is12 x b) {s : Nat → Int} {m : Nat} {q : Rq} (hM : LnR s m 1 q Z b) (h0 : 0 ≤ Z (b + 3) 0 ∧ Z (b + 3) 0 ≤ 1000) (h : ∀ Z' : Zt, (LnR s m 1 (smS s q) Z' b ∧ RL b Z Z' ∧ (0 ≤ Z' (b + 3) 0 ∧ Z' (b + 3) 0 ≤ Z (b + 3) 0 + 1)) → Q none x Z') : V mX12_sumLine k n 0 [some (r_ b), none, none, none, none, none] [] x Z Q := by
  obtain ⟨hM, hR⟩ := hM
  unfold RwT at hR
  rw [if_neg (by decide), if_pos rfl] at hR
  have tail : ∀ (X : Rq) (Z1 : Zt), X = smX s q → ML s m X.1 Z1 b → (X.1 1 = 0 → Z1 (b + 3) 0 = X.2 0 ∧ Z1 (b + 3) 1 = X.2 1 ∧ ∀ i : Nat, (i : Int) < 3 * X.2 0 → Z1 (b + 3) (2 + i) = X.2 (2 + i)) → RL b Z Z1 → (0 ≤ Z1 (b + 3) 0 ∧ Z1 (b + 3) 0 ≤ Z (b + 3) 0 + 1) → V mX12_sumLine k n 146 [some (r_ b), none, none, none, none, none] [] x Z1 Q := by
    intro X Z1 hX h1 h2 h3 h4
    refine b_X12_sumLine_146 o ⟨s, m, X.1, h1, fun Z2 hz => ?_⟩
    refine h Z2 ⟨⟨?_, fun e => ?_⟩, h3.tr hz.2.rl, by rw [hz.2.r3]; exact h4⟩
    · unfold smS; rw [← hX]; exact hz.1
    · unfold smS at e ⊢
      rw [← hX] at e ⊢
      have := h2 (cls_0 e)
      unfold RwT
      rw [if_neg (by decide), if_pos rfl, hz.2.r3]; exact this
  refine b_X12_sumLine_0 o ⟨s, m, q.1, hM, by decide, fun r1 Z1 hT => ?_⟩
  unfold TKS at hT
  rcases hT with ⟨⟨u1, u2⟩, hw, ⟨hL, hO, h6⟩, hM1, hL1, hF1⟩ | ⟨r0, hw, hD1, hF1⟩
  · have w3 : isW s q.1 13 = true ↔ (3 : Int) = r1 := hw 3 (by decide) (by decide)
    have w4 : isW s q.1 12 = true ↔ (4 : Int) = r1 := hw 4 (by decide) (by decide)
    have hi := hL.2.2.1
    refine ⟨⟨by omega, by omega⟩, fun c1 => b_X12_sumLine_29 o ⟨⟨by omega, by omega⟩, fun c2 => by omega, fun c2 => ?_⟩, fun c1 => ?_⟩
    · -- at
      have hX : smX s q = enS s q := by unfold smX; rw [if_neg (fun e => by have := w4.mp e; omega), if_pos (w3.mpr (by omega))]
      have go : ∀ Z2 : Zt, ML s m (enF1 s q) Z2 b → RF b Z1 Z2 → V mX12_sumLine k n 51 [some (r_ b), none, none, none, none, none] [] x Z2 Q := by
        intro Z2 h1 h2
        refine b_X12_sumLine_51 o ⟨s, m, enF1 s q, h1.w 12, rfl, by decide, fun r2 Z3 hz3 => ⟨s, m, enF2 s q, hz3.2.1.w 12, rfl, by decide, fun r3 Z4 hz4 => ⟨s, m, enF3 s q, hz4.2.1, by decide, fun r4 Z5 hz5 => ?_⟩⟩⟩
        have r30 : Z5 (b + 3) = Z (b + 3) := by rw [hz5.2.2.r3, hz4.2.2.r3, hz3.2.2.r3, h2.r3, hF1.r3]
        have f5 : RL b Z Z5 := hF1.rl.tr (h2.tr (hz3.2.2.tr (hz4.2.2.tr hz5.2.2))).rl
        have hM5 : ML s m (enS s q).1 Z5 b := hz5.2.1
        have hi1 := h1.mb.2.2.1
        have hi2 := hz3.2.1.mb.2.2.1
        have hi3 := hz4.2.1.mb.2.2.1
        have key : (enS s q).1 1 = 0 → q.1 1 = 0 ∧ q.2 0 < 8 ∧ r2 = numV s (enF1 s q) ∧ r3 = numV s (enF2 s q) ∧ r4 = sgnV s (enF3 s q) := fun e => by
          have e4 : sgnF s 5 (enF3 s q) 1 = 0 := e
          have e3 := (sgn_0 hi3 (by decide) e4).1
          have e2 := (num_0 hi2 e3).1
          have e1 := (num_0 hi1 e2).1
          have e0 : eN q 1 = 0 := by unfold enF1 at e1; rw [nx_f1] at e1; exact e1
          refine ⟨eN_0 e0, ?_, hz3.1.2 e2, hz4.1.2 e3, hz5.1.2 e4⟩
          unfold eN at e0
          by_cases c8 : q.2 0 < 8
          · exact c8
          · rw [if_neg c8] at e0; exact absurd e0 (note_f1 (by decide) _)
        rw [r30]
        refine ⟨⟨by omega, by omega⟩, fun c8 => b_X12_sumLine_136 o (fun Z6 e6 => ?_), fun c8 => ?_⟩
        · refine tail _ Z6 hX.symm (hM5.put e6) (fun e => ?_) (f5.tr (RL.put e6)) (by rw [e6, up_self, r30]; omega)
          obtain ⟨k1, k2, _⟩ := key e
          have := (hR k1).1
          omega
        · obtain ⟨j, hj⟩ : ∃ j : Nat, Z (b + 3) 0 = (j : Int) := ⟨(Z (b + 3) 0).toNat, by omega⟩
          rw [hj]
          refine ⟨by omega, by omega, fun Z6 e6 => ?_⟩
          rw [show (2 + 3 * (j : Int)).toNat = 2 + 3 * j from by omega] at e6
          have a60 : Z6 (b + 3) 0 = (j : Int) := by rw [e6, up_at, if_neg (by omega), r30, hj]
          rw [a60]
          refine ⟨by omega, by omega, fun Z7 e7 => ?_⟩
          rw [show (3 + 3 * (j : Int)).toNat = 3 + 3 * j from by omega] at e7
          have a70 : Z7 (b + 3) 0 = (j : Int) := by rw [e7, up_at, if_neg (by omega), a60]
          rw [a70]
          refine ⟨by omega, by omega, fun Z8 e8 => b_X12_sumLine_136 o (fun Z9 e9 => ?_)⟩
          rw [show (4 + 3 * (j : Int)).toNat = 4 + 3 * j from by omega] at e8
          have a80 : Z8 (b + 3) 0 = (j : Int) := by rw [e8, up_at, if_neg (by omega), a70]
          rw [a80] at e9
          have row9 : ∀ i : Nat, Z9 (b + 3) i = if i = 0 then (j : Int) + 1 else if i = 4 + 3 * j then r4 else if i = 3 + 3 * j then r3 else if i = 2 + 3 * j then r2 else Z (b + 3) i := fun i => by
            rw [e9, up_at, e8, up_at, e7, up_at, e6, up_at, r30]
          refine tail _ Z9 hX.symm ((((hM5.put e6).put e7).put e8).put e9) (fun e => ?_) ((((f5.tr (RL.put e6)).tr (RL.put e7)).tr (RL.put e8)).tr (RL.put e9)) (by rw [row9, if_pos rfl]; omega)
          obtain ⟨k1, k2, k3, k4, k5⟩ := key e
          obtain ⟨o1, o2, o3⟩ := hR k1
          have ej : (q.2 0).toNat = j := by omega
          have u : ∀ i : Nat, (enS s q).2 i = if i = 0 then (j : Int) + 1 else if i = 4 + 3 * j then sgnV s (enF3 s q) else if i = 3 + 3 * j then numV s (enF2 s q) else if i = 2 + 3 * j then numV s (enF1 s q) else q.2 i := fun i => by
            unfold enS
            dsimp only
            rw [if_pos k2, ej, show q.2 0 = (j : Int) from by omega]; rfl
          rw [u 0, if_pos rfl, u 1, if_neg (by decide), if_neg (by omega), if_neg (by omega), if_neg (by omega)]
          refine ⟨by rw [row9, if_pos rfl], by rw [row9, if_neg (by decide), if_neg (by omega), if_neg (by omega), if_neg (by omega)]; exact o2, fun i hi => ?_⟩
          rw [row9, u, ← k3, ← k4, ← k5]
          by_cases i4 : 2 + i = 4 + 3 * j
          · rw [if_neg (by omega), if_pos i4, if_neg (by omega), if_pos i4]
          · by_cases i3 : 2 + i = 3 + 3 * j
            · rw [if_neg (by omega), if_neg i4, if_pos i3, if_neg (by omega), if_neg i4, if_pos i3]
            · by_cases i2 : 2 + i = 2 + 3 * j
              · rw [if_neg (by omega), if_neg i4, if_neg i3, if_pos i2, if_neg (by omega), if_neg i4, if_neg i3, if_pos i2]
              · rw [if_neg (by omega), if_neg i4, if_neg i3, if_neg i2, if_neg (by omega), if_neg i4, if_neg i3, if_neg i2]
                exact o3 i (by omega)
      rw [hF1.r3]
      refine ⟨⟨by omega, by omega⟩, fun c8 => go Z1 ?_ RF.rf, fun c8 => ?_⟩
      · by_cases c0 : q.1 1 = 0
        · have e : eN q = q.1 := by unfold eN; rw [if_pos (by have := (hR c0).1; omega)]
          unfold enF1; rw [e]; exact hM1
        · have e : eN q = q.1 := by
            unfold eN
            split
            · rfl
            · unfold noteF; rw [if_neg c0]
          unfold enF1; rw [e]; exact hM1
      · obtain ⟨hB, h4, hi1, hP, ⟨h1, k8⟩, ⟨h3, h7⟩, ⟨ha, hb⟩, _, _⟩ := id hL1
        have hP1 := hP.1
        have hP2 := hP.2
        have hf1 := hi1.2.2.1
        have hir := hi.2.1
        have hi4 := hi.1
        have z4 : Z b 4 = q.1 7 := hL.2.2.2.2.2.1.2
        refine ⟨Or.inr ⟨k8, by rw [ha]; exact ⟨by omega, by omega⟩, by rw [z4]; exact ⟨by omega, by omega⟩, fun e0 => ?_⟩, fun Z2 e2 => ?_⟩
        · rw [ha, nx_f1] at e0
          rw [hb, z4]
          refine ⟨⟨by omega, by omega⟩, ?_⟩
          rw [(nx_f (s := s) hL.2.2.2.2.1.1).2.2.2]; exact hO e0
        · rw [z4] at e2
          obtain ⟨g1, g2⟩ := hL.alsN hO (by omega) hL1
          rw [← e2] at g1 g2
          refine go Z2 ?_ g2
          by_cases c0 : q.1 1 = 0
          · have e : eN q = noteF 3 q.1 := by unfold eN; rw [if_neg (by have := (hR c0).1; omega)]
            unfold enF1; rw [e]; exact g1
          · have e : eN q = noteF 3 q.1 := by
              unfold eN
              split
              · unfold noteF; rw [if_neg c0]
              · rfl
            unfold enF1; rw [e]; exact g1
    · -- far
      have hX : smX s q = (sgnF s 9 (nxF s q.1), upf q.2 1 (sgnV s (nxF s q.1))) := by unfold smX; rw [if_pos (w4.mpr (by omega))]
      refine ⟨s, m, nxF s q.1, hM1, by decide, fun r2 Z2 hz Z3 e3 => b_X12_sumLine_29 o ⟨⟨by omega, by omega⟩, fun _ => ?_, fun c2 => by omega⟩⟩
      obtain ⟨⟨g1, g2⟩, g3, g4⟩ := hz
      have r30 : Z2 (b + 3) = Z (b + 3) := by rw [g4.r3, hF1.r3]
      have row3 : ∀ i : Nat, Z3 (b + 3) i = if i = 1 then r2 else Z (b + 3) i := fun i => by rw [e3, up_at, r30]
      refine tail _ Z3 hX.symm (g3.put e3) (fun e => ?_) ((hF1.tr g4).rl.tr (RL.put e3)) (by rw [row3, if_neg (by decide)]; omega)
      have e : sgnF s 9 (nxF s q.1) 1 = 0 := e
      have e0 := (sgn_0 hM1.mb.2.2.1 (by decide) e).1
      rw [nx_f1] at e0
      obtain ⟨o1, o2, o3⟩ := hR e0
      refine ⟨?_, ?_, fun i hi => ?_⟩
      · show _ = upf q.2 1 (sgnV s (nxF s q.1)) 0
        rw [row3, if_neg (by decide), upf_ne _ _ (by decide)]; exact o1
      · show _ = upf q.2 1 (sgnV s (nxF s q.1)) 1
        rw [row3, if_pos rfl, upf_at]; exact g2 e
      · have hi : (i : Int) < 3 * upf q.2 1 (sgnV s (nxF s q.1)) 0 := hi
        rw [upf_ne _ _ (by decide)] at hi
        show _ = upf q.2 1 (sgnV s (nxF s q.1)) (2 + i)
        rw [row3, if_neg (by omega), upf_ne _ _ (by omega)]; exact o3 i hi
  · have w3 : isW s q.1 13 = false := hw 3 (by decide) (by decide)
    have w4 : isW s q.1 12 = false := hw 4 (by decide) (by decide)
    have hX : smX s q = (stopF q.1, q.2) := by unfold smX; rw [w3, w4]; rfl
    refine ⟨⟨by omega, by omega⟩, fun _ => b_X12_sumLine_29 o ⟨⟨by omega, by omega⟩, fun _ => tail _ Z1 hX.symm (Or.inr hD1) (fun e => ?_) hF1.rl (by rw [hF1.r3]; omega), fun c => by omega⟩, fun c => by omega⟩
    have e : stopF q.1 1 = 0 := e
    rw [stop_f1] at e; cases e
theorem sp_X12_functionLine {k n : Nat} {x : Wx} {Z : Zt} {Q : Option Value → Wx → Zt → Prop} {b : Nat} (o : Is12 x b) {s : Nat → Int} {m : Nat} {q : Rq} (hM : LnR s m 2 q Z b) (h : ∀ Z' : Zt, (LnR s m 2 (fnS s q) Z' b ∧ RL b Z Z') → Q none x Z') : V mX12_functionLine k n 0 [some (r_ b), none, none, none] [] x Z Q := by
  obtain ⟨hM, hR⟩ := hM
  unfold RwT at hR
  rw [if_neg (by decide), if_neg (by decide)] at hR
  have body : ∀ (f1 : Nat → Int) (Z1 : Zt) (v t2 : Int) (bb : Nat), (v = 6 ∧ bb = 5 ∧ t2 = 2) ∨ (v ≠ 6 ∧ bb = 0 ∧ (t2 = 4 ∨ t2 = 2)) → Rg v → ML s m f1 Z1 b → RF b Z Z1 → (∀ (X : Rq) (Z2 : Zt), X.1 = clsF s (numF s 12 (numF s t2 f1)) → ML s m X.1 Z2 b → (X.1 1 = 0 → f1 1 = 0 ∧ ∀ i : Nat, Z2 (b + 3) i = if i = bb + (numV s f1).toNat then numV s (numF s t2 f1) else Z (b + 3) i) → RL b Z Z2 → Q none x Z2) → V mX12_functionLine k n 20 [some (r_ b), some (i_ v), none, none] [i_ t2, i_ 0, r_ b] x Z1 Q := by
    intro f1 Z1 v t2 bb hv hvr h1 h2 hk
    have ht : t2 = 4 ∨ t2 = 2 := by omega
    refine b_X12_functionLine_20 o o ⟨s, m, f1, h1.w t2, rfl, by omega, fun r1 Z2 hz2 => ⟨s, m, numF s t2 f1, hz2.2.1.w 12, rfl, by decide, fun r2 Z3 hz3 => ?_⟩⟩
    obtain ⟨⟨a1, a2⟩, a3, a4⟩ := hz2
    obtain ⟨⟨d1, d2⟩, d3, d4⟩ := hz3
    have fin : ∀ t1 : Int, t1 = (bb : Int) → V mX12_functionLine k n 47 [some (r_ b), none, some (i_ r1), some (i_ r2)] [i_ t1, r_ (b + 3)] x Z3 Q := fun t1 ht1 => by
      subst ht1
      refine b_X12_functionLine_47 o o.2.2.2.2.2.2.1 ⟨by omega, by omega, fun Z4 e4 => ⟨s, m, _, d3.put e4, fun Z5 hz5 => ?_⟩⟩
      refine hk (clsF s (numF s 12 (numF s t2 f1)), q.2) Z5 rfl hz5.1 (fun e => ?_) ((h2.tr (a4.tr d4)).rl.tr ((RL.put e4).tr hz5.2.rl))
      have e : clsF s (numF s 12 (numF s t2 f1)) 1 = 0 := e
      have e3 := cls_0 e
      have e2 := (num_0 a3.mb.2.2.1 e3).1
      have e1 := (num_0 h1.mb.2.2.1 e2).1
      have hr1 := a2 e2
      have hr2 := d2 e3
      have hN := (num_0 h1.mb.2.2.1 e2).2
      refine ⟨e1, fun i => ?_⟩
      rw [hz5.2.r3, e4, up_at, d4.r3, a4.r3, h2.r3, hr1, hr2, show ((bb : Int) + numV s f1).toNat = bb + (numV s f1).toNat from by omega]
    refine ⟨hvr, fun c => fin 0 (by omega), fun c => fin 5 (by omega)⟩
  refine b_X12_functionLine_0 o ⟨s, m, q.1, hM, by decide, fun r1 Z1 hT => ?_⟩
  unfold TKS at hT
  rcases hT with ⟨⟨u1, u2⟩, hw, ⟨hL, hO, h6⟩, hM1, hL1, hF1⟩ | ⟨r0, hw, hD1, hF1⟩
  · have w5 : isW s q.1 15 = true ↔ (5 : Int) = r1 := hw 5 (by decide) (by decide)
    have w6 : isW s q.1 14 = true ↔ (6 : Int) = r1 := hw 6 (by decide) (by decide)
    have fin : ∀ (t2 : Int) (bb : Nat), fnS s q = fnY s q t2 bb → 0 ≤ t2 → (∀ (X : Rq) (Z2 : Zt), X.1 = clsF s (numF s 12 (numF s t2 (nxF s q.1))) → ML s m X.1 Z2 b → (X.1 1 = 0 → nxF s q.1 1 = 0 ∧ ∀ i : Nat, Z2 (b + 3) i = if i = bb + (numV s (nxF s q.1)).toNat then numV s (numF s t2 (nxF s q.1)) else Z (b + 3) i) → RL b Z Z2 → Q none x Z2) := by
      intro t2 bb hS ht X Z2 hX h1 h2 h3
      refine h Z2 ⟨⟨?_, fun e => ?_⟩, h3⟩
      · rw [hS]
        show ML s m (clsF s (numF s 12 (numF s t2 (nxF s q.1)))) Z2 b
        rw [← hX]; exact h1
      · rw [hS] at e ⊢
        have e : clsF s (numF s 12 (numF s t2 (nxF s q.1))) 1 = 0 := e
        have hi1 := hM1.mb.2.2.1
        have e3 := cls_0 e
        have e2 := (num_0 hi1.num e3).1
        have hN := (num_0 hi1 e2).2
        rw [hX] at h2
        obtain ⟨e1, hrow⟩ := h2 e
        rw [nx_f1] at e1
        have hr := hR e1
        unfold RwT
        rw [if_neg (by decide), if_neg (by decide)]
        intro i hi
        unfold fnY
        dsimp only
        rw [if_pos hN.2, hrow]
        unfold upf
        split
        · rfl
        · exact hr i hi
    refine ⟨⟨by omega, by omega⟩, fun c1 => ?_, fun c1 => ?_⟩
    · have hS : fnS s q = fnY s q 2 5 := by unfold fnS; rw [if_pos (w6.mpr (by omega))]
      exact body (nxF s q.1) Z1 r1 2 5 (Or.inl ⟨by omega, rfl, rfl⟩) ⟨by omega, by omega⟩ hM1 hF1 (fin 2 5 hS (by decide))
    · have hS : fnS s q = fnY s q 4 0 := by unfold fnS; rw [if_neg (fun e => by have := w6.mp e; omega), if_pos (w5.mpr (by omega))]
      exact body (nxF s q.1) Z1 r1 4 0 (Or.inr ⟨by omega, rfl, Or.inl rfl⟩) ⟨by omega, by omega⟩ hM1 hF1 (fin 4 0 hS (by decide))
  · have w5 : isW s q.1 15 = false := hw 5 (by decide) (by decide)
    have w6 : isW s q.1 14 = false := hw 6 (by decide) (by decide)
    have hS : fnS s q = (stopF q.1, q.2) := by unfold fnS; rw [w5, w6]; rfl
    have hd := hD1.2.2.2.2.1
    refine ⟨⟨by omega, by omega⟩, fun _ => ?_, fun c => by omega⟩
    refine body (stopF q.1) Z1 r1 2 0 (Or.inr ⟨by omega, rfl, Or.inr rfl⟩) ⟨by omega, by omega⟩ (Or.inr hD1) hF1 (fun X Z2 hX h1 h2 h3 => ?_)
    rw [dd_num hd.1 hd.2.1, dd_num hd.1 hd.2.1, dd_cls hd.1 hd.2.1] at hX
    refine h Z2 ⟨⟨?_, fun e => ?_⟩, h3⟩
    · rw [hS]
      show ML s m (stopF q.1) Z2 b
      rw [← hX]; exact h1
    · rw [hS] at e
      have e : stopF q.1 1 = 0 := e
      rw [stop_f1] at e; cases e
