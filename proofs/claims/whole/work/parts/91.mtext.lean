/-! ===== the reference: isCurve, text ===== -/
theorem dX12_isCurve_0 : decode cX12_isCurve 0 = .ok (.aload_n 0, 1) := by decide +kernel
theorem dX12_isCurve_1 : decode cX12_isCurve 1 = .ok (.aload_n 0, 1) := by decide +kernel
theorem dX12_isCurve_2 : decode cX12_isCurve 2 = .ok (.getfield 17, 3) := by decide +kernel
theorem dX12_isCurve_5 : decode cX12_isCurve 5 = .ok (.iconst 0, 1) := by decide +kernel
theorem dX12_isCurve_6 : decode cX12_isCurve 6 = .ok (.iaload, 1) := by decide +kernel
theorem dX12_isCurve_7 : decode cX12_isCurve 7 = .ok (.putfield 179, 3) := by decide +kernel
theorem dX12_isCurve_10 : decode cX12_isCurve 10 = .ok (.aload_n 0, 1) := by decide +kernel
theorem dX12_isCurve_11 : decode cX12_isCurve 11 = .ok (.getfield 17, 3) := by decide +kernel
theorem dX12_isCurve_14 : decode cX12_isCurve 14 = .ok (.iconst 1, 1) := by decide +kernel
theorem dX12_isCurve_15 : decode cX12_isCurve 15 = .ok (.aload_n 0, 1) := by decide +kernel
theorem dX12_isCurve_16 : decode cX12_isCurve 16 = .ok (.getfield 17, 3) := by decide +kernel
theorem dX12_isCurve_19 : decode cX12_isCurve 19 = .ok (.iconst 1, 1) := by decide +kernel
theorem dX12_isCurve_20 : decode cX12_isCurve 20 = .ok (.iaload, 1) := by decide +kernel
theorem dX12_isCurve_21 : decode cX12_isCurve 21 = .ok (.iadd, 1) := by decide +kernel
theorem dX12_isCurve_22 : decode cX12_isCurve 22 = .ok (.iaload, 1) := by decide +kernel
theorem dX12_isCurve_23 : decode cX12_isCurve 23 = .ok (.ifCond .eq 7, 3) := by decide +kernel
theorem dX12_isCurve_26 : decode cX12_isCurve 26 = .ok (.iconst 1, 1) := by decide +kernel
theorem dX12_isCurve_27 : decode cX12_isCurve 27 = .ok (.goto 4, 3) := by decide +kernel
theorem dX12_isCurve_30 : decode cX12_isCurve 30 = .ok (.iconst 0, 1) := by decide +kernel
theorem dX12_isCurve_31 : decode cX12_isCurve 31 = .ok (.istore_n 1, 1) := by decide +kernel
theorem dX12_isCurve_32 : decode cX12_isCurve 32 = .ok (.iconst 0, 1) := by decide +kernel
theorem dX12_isCurve_33 : decode cX12_isCurve 33 = .ok (.istore_n 2, 1) := by decide +kernel
theorem dX12_isCurve_34 : decode cX12_isCurve 34 = .ok (.iload_n 2, 1) := by decide +kernel
theorem dX12_isCurve_35 : decode cX12_isCurve 35 = .ok (.aload_n 0, 1) := by decide +kernel
theorem dX12_isCurve_36 : decode cX12_isCurve 36 = .ok (.getfield 17, 3) := by decide +kernel
theorem dX12_isCurve_39 : decode cX12_isCurve 39 = .ok (.iconst 1, 1) := by decide +kernel
theorem dX12_isCurve_40 : decode cX12_isCurve 40 = .ok (.iaload, 1) := by decide +kernel
theorem dX12_isCurve_41 : decode cX12_isCurve 41 = .ok (.if_icmp .ge 34, 3) := by decide +kernel
theorem dX12_isCurve_44 : decode cX12_isCurve 44 = .ok (.iload_n 1, 1) := by decide +kernel
theorem dX12_isCurve_45 : decode cX12_isCurve 45 = .ok (.ifCond .eq 22, 3) := by decide +kernel
theorem dX12_isCurve_48 : decode cX12_isCurve 48 = .ok (.aload_n 0, 1) := by decide +kernel
theorem dX12_isCurve_49 : decode cX12_isCurve 49 = .ok (.getfield 17, 3) := by decide +kernel
theorem dX12_isCurve_52 : decode cX12_isCurve 52 = .ok (.iconst 2, 1) := by decide +kernel
theorem dX12_isCurve_53 : decode cX12_isCurve 53 = .ok (.iload_n 2, 1) := by decide +kernel
theorem dX12_isCurve_54 : decode cX12_isCurve 54 = .ok (.iadd, 1) := by decide +kernel
theorem dX12_isCurve_55 : decode cX12_isCurve 55 = .ok (.iaload, 1) := by decide +kernel
theorem dX12_isCurve_56 : decode cX12_isCurve 56 = .ok (.aload_n 0, 1) := by decide +kernel
theorem dX12_isCurve_57 : decode cX12_isCurve 57 = .ok (.getfield 179, 3) := by decide +kernel
theorem dX12_isCurve_60 : decode cX12_isCurve 60 = .ok (.if_icmp .ge 7, 3) := by decide +kernel
theorem dX12_isCurve_63 : decode cX12_isCurve 63 = .ok (.iconst 1, 1) := by decide +kernel
theorem dX12_isCurve_64 : decode cX12_isCurve 64 = .ok (.goto 4, 3) := by decide +kernel
theorem dX12_isCurve_67 : decode cX12_isCurve 67 = .ok (.iconst 0, 1) := by decide +kernel
theorem dX12_isCurve_68 : decode cX12_isCurve 68 = .ok (.istore_n 1, 1) := by decide +kernel
theorem dX12_isCurve_69 : decode cX12_isCurve 69 = .ok (.iinc 2 1, 3) := by decide +kernel
theorem dX12_isCurve_72 : decode cX12_isCurve 72 = .ok (.goto (-38), 3) := by decide +kernel
theorem dX12_isCurve_75 : decode cX12_isCurve 75 = .ok (.iload_n 1, 1) := by decide +kernel
theorem dX12_isCurve_76 : decode cX12_isCurve 76 = .ok (.ifCond .ne 5, 3) := by decide +kernel
theorem dX12_isCurve_79 : decode cX12_isCurve 79 = .ok (.iconst 0, 1) := by decide +kernel
theorem dX12_isCurve_80 : decode cX12_isCurve 80 = .ok (.ireturn, 1) := by decide +kernel
theorem dX12_isCurve_81 : decode cX12_isCurve 81 = .ok (.aload_n 0, 1) := by decide +kernel
theorem dX12_isCurve_82 : decode cX12_isCurve 82 = .ok (.iconst 0, 1) := by decide +kernel
theorem dX12_isCurve_83 : decode cX12_isCurve 83 = .ok (.invokevirtual 188, 3) := by decide +kernel
theorem dX12_isCurve_86 : decode cX12_isCurve 86 = .ok (.aload_n 0, 1) := by decide +kernel
theorem dX12_isCurve_87 : decode cX12_isCurve 87 = .ok (.bipush 22, 2) := by decide +kernel
theorem dX12_isCurve_89 : decode cX12_isCurve 89 = .ok (.invokevirtual 188, 3) := by decide +kernel
theorem dX12_isCurve_92 : decode cX12_isCurve 92 = .ok (.iconst 0, 1) := by decide +kernel
theorem dX12_isCurve_93 : decode cX12_isCurve 93 = .ok (.istore_n 2, 1) := by decide +kernel
theorem dX12_isCurve_94 : decode cX12_isCurve 94 = .ok (.iload_n 2, 1) := by decide +kernel
theorem dX12_isCurve_95 : decode cX12_isCurve 95 = .ok (.aload_n 0, 1) := by decide +kernel
theorem dX12_isCurve_96 : decode cX12_isCurve 96 = .ok (.getfield 17, 3) := by decide +kernel
theorem dX12_isCurve_99 : decode cX12_isCurve 99 = .ok (.iconst 1, 1) := by decide +kernel
theorem dX12_isCurve_100 : decode cX12_isCurve 100 = .ok (.iaload, 1) := by decide +kernel
theorem dX12_isCurve_101 : decode cX12_isCurve 101 = .ok (.if_icmp .ge 55, 3) := by decide +kernel
theorem dX12_isCurve_104 : decode cX12_isCurve 104 = .ok (.aload_n 0, 1) := by decide +kernel
theorem dX12_isCurve_105 : decode cX12_isCurve 105 = .ok (.getfield 20, 3) := by decide +kernel
theorem dX12_isCurve_108 : decode cX12_isCurve 108 = .ok (.iconst 0, 1) := by decide +kernel
theorem dX12_isCurve_109 : decode cX12_isCurve 109 = .ok (.iload_n 2, 1) := by decide +kernel
theorem dX12_isCurve_110 : decode cX12_isCurve 110 = .ok (.iadd, 1) := by decide +kernel
theorem dX12_isCurve_111 : decode cX12_isCurve 111 = .ok (.aload_n 0, 1) := by decide +kernel
theorem dX12_isCurve_112 : decode cX12_isCurve 112 = .ok (.getfield 17, 3) := by decide +kernel
theorem dX12_isCurve_115 : decode cX12_isCurve 115 = .ok (.iconst 2, 1) := by decide +kernel
theorem dX12_isCurve_116 : decode cX12_isCurve 116 = .ok (.iload_n 2, 1) := by decide +kernel
theorem dX12_isCurve_117 : decode cX12_isCurve 117 = .ok (.iadd, 1) := by decide +kernel
theorem dX12_isCurve_118 : decode cX12_isCurve 118 = .ok (.iaload, 1) := by decide +kernel
theorem dX12_isCurve_119 : decode cX12_isCurve 119 = .ok (.iastore, 1) := by decide +kernel
theorem dX12_isCurve_120 : decode cX12_isCurve 120 = .ok (.iload_n 2, 1) := by decide +kernel
theorem dX12_isCurve_121 : decode cX12_isCurve 121 = .ok (.ifCond .le 29, 3) := by decide +kernel
theorem dX12_isCurve_124 : decode cX12_isCurve 124 = .ok (.aload_n 0, 1) := by decide +kernel
theorem dX12_isCurve_125 : decode cX12_isCurve 125 = .ok (.getfield 20, 3) := by decide +kernel
theorem dX12_isCurve_128 : decode cX12_isCurve 128 = .ok (.sipush 528, 3) := by decide +kernel
theorem dX12_isCurve_131 : decode cX12_isCurve 131 = .ok (.iload_n 2, 1) := by decide +kernel
theorem dX12_isCurve_132 : decode cX12_isCurve 132 = .ok (.iadd, 1) := by decide +kernel
theorem dX12_isCurve_133 : decode cX12_isCurve 133 = .ok (.iconst 1, 1) := by decide +kernel
theorem dX12_isCurve_134 : decode cX12_isCurve 134 = .ok (.isub, 1) := by decide +kernel
theorem dX12_isCurve_135 : decode cX12_isCurve 135 = .ok (.aload_n 0, 1) := by decide +kernel
theorem dX12_isCurve_136 : decode cX12_isCurve 136 = .ok (.iload_n 2, 1) := by decide +kernel
theorem dX12_isCurve_137 : decode cX12_isCurve 137 = .ok (.aload_n 0, 1) := by decide +kernel
theorem dX12_isCurve_138 : decode cX12_isCurve 138 = .ok (.getfield 17, 3) := by decide +kernel
theorem dX12_isCurve_141 : decode cX12_isCurve 141 = .ok (.iconst 2, 1) := by decide +kernel
theorem dX12_isCurve_142 : decode cX12_isCurve 142 = .ok (.iload_n 2, 1) := by decide +kernel
theorem dX12_isCurve_143 : decode cX12_isCurve 143 = .ok (.iadd, 1) := by decide +kernel
theorem dX12_isCurve_144 : decode cX12_isCurve 144 = .ok (.iaload, 1) := by decide +kernel
theorem dX12_isCurve_145 : decode cX12_isCurve 145 = .ok (.imul, 1) := by decide +kernel
theorem dX12_isCurve_146 : decode cX12_isCurve 146 = .ok (.invokevirtual 182, 3) := by decide +kernel
theorem dX12_isCurve_149 : decode cX12_isCurve 149 = .ok (.iastore, 1) := by decide +kernel
theorem dX12_isCurve_150 : decode cX12_isCurve 150 = .ok (.iinc 2 1, 3) := by decide +kernel
theorem dX12_isCurve_153 : decode cX12_isCurve 153 = .ok (.goto (-59), 3) := by decide +kernel
theorem dX12_isCurve_156 : decode cX12_isCurve 156 = .ok (.aload_n 0, 1) := by decide +kernel
theorem dX12_isCurve_157 : decode cX12_isCurve 157 = .ok (.iconst 0, 1) := by decide +kernel
theorem dX12_isCurve_158 : decode cX12_isCurve 158 = .ok (.bipush 22, 2) := by decide +kernel
theorem dX12_isCurve_160 : decode cX12_isCurve 160 = .ok (.invokevirtual 218, 3) := by decide +kernel
theorem dX12_isCurve_163 : decode cX12_isCurve 163 = .ok (.aload_n 0, 1) := by decide +kernel
theorem dX12_isCurve_164 : decode cX12_isCurve 164 = .ok (.bipush 7, 2) := by decide +kernel
theorem dX12_isCurve_166 : decode cX12_isCurve 166 = .ok (.invokevirtual 192, 3) := by decide +kernel
theorem dX12_isCurve_169 : decode cX12_isCurve 169 = .ok (.ifCond .ne 7, 3) := by decide +kernel
theorem dX12_isCurve_172 : decode cX12_isCurve 172 = .ok (.iconst 1, 1) := by decide +kernel
theorem dX12_isCurve_173 : decode cX12_isCurve 173 = .ok (.goto 4, 3) := by decide +kernel
theorem dX12_isCurve_176 : decode cX12_isCurve 176 = .ok (.iconst 0, 1) := by decide +kernel
theorem dX12_isCurve_177 : decode cX12_isCurve 177 = .ok (.ireturn, 1) := by decide +kernel
set_option maxRecDepth 20000 in
theorem b_X12_isCurve_0 {k n : Nat} {x : Wx} {Z : Zt} {Q : Option Value → Wx → Zt → Prop} {a0 : Nat} (o_a0 : Is12 x a0)
    (h : ∀ Z1 : Zt, Z1 = up Z a0 11 (Z (a0 + 3) 0) → (0 ≤ 1 + (Z1 (a0 + 3) 1) ∧ 1 + (Z1 (a0 + 3) 1) < 26 ∧ (Rg (Z1 (a0 + 3) (1 + (Z1 (a0 + 3) 1)).toNat) ∧ (((Z1 (a0 + 3) (1 + (Z1 (a0 + 3) 1)).toNat = 0) → (V mX12_isCurve k n 31 [some (r_ a0), none, none] [i_ 0] x Z1 Q)) ∧ ((Z1 (a0 + 3) (1 + (Z1 (a0 + 3) 1)).toNat ≠ 0) → (V mX12_isCurve k n 31 [some (r_ a0), none, none] [i_ 1] x Z1 Q)))))) :
    V mX12_isCurve k n 0 [some (r_ a0), none, none] [] x Z Q :=
  V_aload_n dX12_isCurve_0 rfl (V_aload_n dX12_isCurve_1 rfl (G_12_9 o_a0.1 o_a0.qR9 lf_12_17 dX12_isCurve_2 (V_iconst dX12_isCurve_5 (V_iald (t := 100) o_a0.qK9 (by decide) rfl (by decide) (by decide) (Nat.le_of_ble_eq_true rfl) dX12_isCurve_6 (P_12_11 o_a0.1 lf_12_179 dX12_isCurve_7 (V_nmZ (fun Z1 eZ1 => V_aload_n dX12_isCurve_10 rfl (G_12_9 o_a0.1 o_a0.qR9 lf_12_17 dX12_isCurve_11 (V_iconst dX12_isCurve_14 (V_aload_n dX12_isCurve_15 rfl (G_12_9 o_a0.1 o_a0.qR9 lf_12_17 dX12_isCurve_16 (V_iconst dX12_isCurve_19 (V_iald (t := 100) o_a0.qK9 (by decide) rfl (by decide) (by decide) (Nat.le_of_ble_eq_true rfl) dX12_isCurve_20 (V_iadd dX12_isCurve_21 (V_iald (t := 100) o_a0.qK9 (by decide) rfl (h Z1 eZ1).1 (h Z1 eZ1).2.1 (Nat.le_of_ble_eq_true rfl) dX12_isCurve_22 (V_if_eq (tgt := 30) dX12_isCurve_23 rfl (h Z1 eZ1).2.2.1 (fun c1 => V_iconst dX12_isCurve_30 (V_msk [true, false, false] rfl ((h Z1 eZ1).2.2.2.1 c1))) (fun c1 => V_iconst dX12_isCurve_26 (V_goto (tgt := 31) dX12_isCurve_27 rfl (V_msk [true, false, false] rfl ((h Z1 eZ1).2.2.2.2 c1))))))))))))))))))))
set_option maxRecDepth 20000 in
theorem b_X12_isCurve_31 {k n : Nat} {x : Wx} {Z : Zt} {Q : Option Value → Wx → Zt → Prop} {a0 : Nat} {t0 : Int} 
    (h : V mX12_isCurve k n 34 [some (r_ a0), some (i_ t0), some (i_ 0)] [] x Z Q) :
    V mX12_isCurve k n 31 [some (r_ a0), none, none] [i_ t0] x Z Q :=
  V_istore_n (lv' := [some (r_ a0), some (i_ t0), none]) dX12_isCurve_31 (Nat.le_of_ble_eq_true rfl) rfl (V_iconst dX12_isCurve_32 (V_istore_n (lv' := [some (r_ a0), some (i_ t0), some (i_ 0)]) dX12_isCurve_33 (Nat.le_of_ble_eq_true rfl) rfl (V_msk [true, true, true] rfl h)))
set_option maxRecDepth 20000 in
theorem b_X12_isCurve_34 {k n : Nat} {x : Wx} {Z : Zt} {Q : Option Value → Wx → Zt → Prop} {a0 : Nat} {v1 : Int} {v2 : Int} (o_a0 : Is12 x a0)
    (h : Rg v2 ∧ Rg (Z (a0 + 3) 1) ∧ (((Z (a0 + 3) 1 ≤ v2) → (Rg v1 ∧ (((v1 ≠ 0) → (∃ g1 : Nat → Nat → Int, (MS Z a0 g1 ∧ (0 ≤ (0 : Int) ∧ (0 : Int) < 27) ∧ (∀ (Z'1 : Zt), (MS Z'1 a0 (updP g1 (0 : Int).toNat pzero) ∧ Oth Z Z'1 (O4 a0)) → (∃ g2 : Nat → Nat → Int, (MS Z'1 a0 g2 ∧ (0 ≤ (22 : Int) ∧ (22 : Int) < 27) ∧ (∀ (Z'2 : Zt), (MS Z'2 a0 (updP g2 (22 : Int).toNat pzero) ∧ Oth Z'1 Z'2 (O4 a0)) → (V mX12_isCurve k n 94 [some (r_ a0), none, some (i_ 0)] [] x Z'2 Q)))))))) ∧ ((v1 = 0) → (Q (some (i_ 0)) x Z))))) ∧ ((v2 < Z (a0 + 3) 1) → (Rg v1 ∧ (((v1 = 0) → (V mX12_isCurve k n 67 [some (r_ a0), none, some (i_ v2)] [] x Z Q)) ∧ ((v1 ≠ 0) → (0 ≤ 2 + v2 ∧ 2 + v2 < 26 ∧ (Rg (Z (a0 + 3) (2 + v2).toNat) ∧ Rg (Z a0 11) ∧ (((Z a0 11 ≤ Z (a0 + 3) (2 + v2).toNat) → (V mX12_isCurve k n 67 [some (r_ a0), none, some (i_ v2)] [] x Z Q)) ∧ ((Z (a0 + 3) (2 + v2).toNat < Z a0 11) → (V mX12_isCurve k n 68 [some (r_ a0), none, some (i_ v2)] [i_ 1] x Z Q))))))))))) :
    V mX12_isCurve k n 34 [some (r_ a0), some (i_ v1), some (i_ v2)] [] x Z Q :=
  V_iload_n dX12_isCurve_34 rfl (V_aload_n dX12_isCurve_35 rfl (G_12_9 o_a0.1 o_a0.qR9 lf_12_17 dX12_isCurve_36 (V_iconst dX12_isCurve_39 (V_iald (t := 100) o_a0.qK9 (by decide) rfl (by decide) (by decide) (Nat.le_of_ble_eq_true rfl) dX12_isCurve_40 (V_icmp_ge (tgt := 75) dX12_isCurve_41 rfl h.1 h.2.1 (fun c1 => V_iload_n dX12_isCurve_75 rfl (V_if_ne (tgt := 81) dX12_isCurve_76 rfl (h.2.2.1 c1).1 (fun c2 => V_aload_n dX12_isCurve_81 rfl (V_iconst dX12_isCurve_82 (Exists.elim ((h.2.2.1 c1).2.1 c2) (fun g1 w1 => V_callV (k' := 0) (n' := 0) (t := 12) (q := (RX12, TX12, 46)) [i_ 0] [] okX12_zero o_a0.1 rfl rfl lm_12_188 liX12_zero lqX12_zero (Nat.le_of_ble_eq_true rfl) (Nat.le_of_ble_eq_true rfl) (Nat.le_of_ble_eq_true rfl) (cat_of rfl) (Nat.le_of_ble_eq_true rfl) (Nat.zero_le _) (Nat.zero_le _) rfl dX12_isCurve_83 (sp_X12_zero o_a0 w1.1 w1.2.1 (fun Z'1 p1 => V_aload_n dX12_isCurve_86 rfl (V_bipush dX12_isCurve_87 rfl (Exists.elim (w1.2.2 Z'1 p1) (fun g2 w2 => V_callV (k' := 0) (n' := 0) (t := 12) (q := (RX12, TX12, 46)) [i_ 22] [] okX12_zero o_a0.1 rfl rfl lm_12_188 liX12_zero lqX12_zero (Nat.le_of_ble_eq_true rfl) (Nat.le_of_ble_eq_true rfl) (Nat.le_of_ble_eq_true rfl) (cat_of rfl) (Nat.le_of_ble_eq_true rfl) (Nat.zero_le _) (Nat.zero_le _) rfl dX12_isCurve_89 (sp_X12_zero o_a0 w2.1 w2.2.1 (fun Z'2 p2 => V_iconst dX12_isCurve_92 (V_istore_n (lv' := [some (r_ a0), some (i_ v1), some (i_ 0)]) dX12_isCurve_93 (Nat.le_of_ble_eq_true rfl) rfl (V_msk [true, false, true] rfl (w2.2.2 Z'2 p2)))))))))))))) (fun c2 => V_iconst dX12_isCurve_79 (V_iret (ty := .boolean) dX12_isCurve_80 rfl rfl ((h.2.2.1 c1).2.2 c2))))) (fun c1 => V_iload_n dX12_isCurve_44 rfl (V_if_eq (tgt := 67) dX12_isCurve_45 rfl (h.2.2.2 c1).1 (fun c3 => V_msk [true, false, true] rfl ((h.2.2.2 c1).2.1 c3)) (fun c3 => V_aload_n dX12_isCurve_48 rfl (G_12_9 o_a0.1 o_a0.qR9 lf_12_17 dX12_isCurve_49 (V_iconst dX12_isCurve_52 (V_iload_n dX12_isCurve_53 rfl (V_iadd dX12_isCurve_54 (V_iald (t := 100) o_a0.qK9 (by decide) rfl ((h.2.2.2 c1).2.2 c3).1 ((h.2.2.2 c1).2.2 c3).2.1 (Nat.le_of_ble_eq_true rfl) dX12_isCurve_55 (V_aload_n dX12_isCurve_56 rfl (G_12_11 o_a0.1 lf_12_179 dX12_isCurve_57 (V_icmp_ge (tgt := 67) dX12_isCurve_60 rfl ((h.2.2.2 c1).2.2 c3).2.2.1 ((h.2.2.2 c1).2.2 c3).2.2.2.1 (fun c4 => V_msk [true, false, true] rfl (((h.2.2.2 c1).2.2 c3).2.2.2.2.1 c4)) (fun c4 => V_iconst dX12_isCurve_63 (V_goto (tgt := 68) dX12_isCurve_64 rfl (V_msk [true, false, true] rfl (((h.2.2.2 c1).2.2 c3).2.2.2.2.2 c4))))))))))))))))))))
set_option maxRecDepth 20000 in
theorem b_X12_isCurve_67 {k n : Nat} {x : Wx} {Z : Zt} {Q : Option Value → Wx → Zt → Prop} {a0 : Nat} {v2 : Int} 
    (h : V mX12_isCurve k n 68 [some (r_ a0), none, some (i_ v2)] [i_ 0] x Z Q) :
    V mX12_isCurve k n 67 [some (r_ a0), none, some (i_ v2)] [] x Z Q :=
  V_iconst dX12_isCurve_67 (V_msk [true, false, true] rfl h)
set_option maxRecDepth 20000 in
theorem b_X12_isCurve_68 {k n : Nat} {x : Wx} {Z : Zt} {Q : Option Value → Wx → Zt → Prop} {a0 : Nat} {v2 : Int} {t0 : Int} 
    (h : V mX12_isCurve k n 34 [some (r_ a0), some (i_ t0), some (i_ (v2 + 1))] [] x Z Q) :
    V mX12_isCurve k n 68 [some (r_ a0), none, some (i_ v2)] [i_ t0] x Z Q :=
  V_istore_n (lv' := [some (r_ a0), some (i_ t0), some (i_ v2)]) dX12_isCurve_68 (Nat.le_of_ble_eq_true rfl) rfl (V_iinc (lv' := [some (r_ a0), some (i_ t0), some (i_ (v2 + 1))]) dX12_isCurve_69 rfl (Nat.le_of_ble_eq_true rfl) rfl (V_goto (tgt := 34) dX12_isCurve_72 rfl (V_msk [true, true, true] rfl h)))
set_option maxRecDepth 20000 in
theorem b_X12_isCurve_94 {k n : Nat} {x : Wx} {Z : Zt} {Q : Option Value → Wx → Zt → Prop} {a0 : Nat} {v2 : Int} (o_a0 : Is12 x a0)
    (h : Rg v2 ∧ Rg (Z (a0 + 3) 1) ∧ (((Z (a0 + 3) 1 ≤ v2) → (∃ g1 : Nat → Nat → Int, (∃ g2 : Int, ((IsP g2 ∧ Z a0 11 = g2) ∧ MS Z a0 g1 ∧ ((0 ≤ (0 : Int) ∧ (0 : Int) < 27) ∧ (0 ≤ (22 : Int) ∧ (22 : Int) < 27) ∧ (22 : Int) ≠ 10) ∧ (InP g2 (g1 (0 : Int).toNat) ∧ Fin (g1 (0 : Int).toNat)) ∧ (InP g2 (g1 (22 : Int).toNat) ∧ Fin (g1 (22 : Int).toNat)) ∧ (0 ≤ pd (g1 (0 : Int).toNat) ∧ pd (g1 (0 : Int).toNat) ≤ 9 ∧ pd (g1 (22 : Int).toNat) ≤ 9) ∧ (∀ (Z'1 : Zt) (P'1 : Nat → Nat → Int), (MS Z'1 a0 P'1 ∧ Oth Z Z'1 (O4 a0) ∧ P'1 7 = eG g2 (g1 (0 : Int).toNat) (g1 (22 : Int).toNat) ∧ P'1 8 = eS g2 (g1 (0 : Int).toNat) (g1 (22 : Int).toNat) ∧ P'1 9 = eT g2 (g1 (0 : Int).toNat) (g1 (22 : Int).toNat) ∧ (∀ q : Nat, (q < 7 ∨ 17 < q) → q ≠ 21 → P'1 q = g1 q)) → (∃ g3 : Nat → Nat → Int, (MS Z'1 a0 g3 ∧ (0 ≤ (7 : Int) ∧ (7 : Int) < 27) ∧ (∀ i : Nat, i < 24 → Rg (g3 (7 : Int).toNat i)) ∧ (Rg (pd (g3 (7 : Int).toNat)) ∧ (((pd (g3 (7 : Int).toNat) ≠ 0) → (Q (some (i_ 0)) x Z'1)) ∧ ((pd (g3 (7 : Int).toNat) = 0) → (Q (some (i_ 1)) x Z'1))))))))))) ∧ ((v2 < Z (a0 + 3) 1) → (0 ≤ 2 + v2 ∧ 2 + v2 < 26 ∧ (0 ≤ 0 + v2 ∧ 0 + v2 < 648 ∧ (∀ Z1 : Zt, Z1 = up Z (a0 + 4) (0 + v2).toNat (Z (a0 + 3) (2 + v2).toNat) → (((v2 ≤ 0) → (V mX12_isCurve k n 150 [some (r_ a0), none, some (i_ v2)] [] x Z1 Q)) ∧ ((0 < v2) → (Rg (v2 * (Z1 (a0 + 3) (2 + v2).toNat)) ∧ 0 < Z1 a0 11 ∧ Z1 a0 11 ≤ 13 ∧ (0 ≤ (528 + v2) - 1 ∧ (528 + v2) - 1 < 648 ∧ (∀ Z2 : Zt, Z2 = up Z1 (a0 + 4) ((528 + v2) - 1).toNat ((v2 * (Z1 (a0 + 3) (2 + v2).toNat)) % Z1 a0 11) → (V mX12_isCurve k n 150 [some (r_ a0), none, some (i_ v2)] [] x Z2 Q)))))))))))) :
    V mX12_isCurve k n 94 [some (r_ a0), none, some (i_ v2)] [] x Z Q :=
  V_iload_n dX12_isCurve_94 rfl (V_aload_n dX12_isCurve_95 rfl (G_12_9 o_a0.1 o_a0.qR9 lf_12_17 dX12_isCurve_96 (V_iconst dX12_isCurve_99 (V_iald (t := 100) o_a0.qK9 (by decide) rfl (by decide) (by decide) (Nat.le_of_ble_eq_true rfl) dX12_isCurve_100 (V_icmp_ge (tgt := 156) dX12_isCurve_101 rfl h.1 h.2.1 (fun c1 => V_aload_n dX12_isCurve_156 rfl (V_iconst dX12_isCurve_157 (V_bipush dX12_isCurve_158 rfl (Exists.elim (h.2.2.1 c1) (fun g1 w1 => Exists.elim w1 (fun g2 w2 => V_callV (k' := 0) (n' := 0) (t := 12) (q := (RX12, TX12, 46)) [i_ 0, i_ 22] [] okX12_common o_a0.1 rfl rfl lm_12_218 liX12_common lqX12_common (Nat.le_of_ble_eq_true rfl) (Nat.le_of_ble_eq_true rfl) (Nat.le_of_ble_eq_true rfl) (cat_of rfl) (Nat.le_of_ble_eq_true rfl) (Nat.zero_le _) (Nat.zero_le _) rfl dX12_isCurve_160 (sp_X12_common o_a0 w2.1 w2.2.1 w2.2.2.1 w2.2.2.2.1 w2.2.2.2.2.1 w2.2.2.2.2.2.1 (fun Z'1 P'1 p1 => V_aload_n dX12_isCurve_163 rfl (V_bipush dX12_isCurve_164 rfl (Exists.elim (w2.2.2.2.2.2.2 Z'1 P'1 p1) (fun g3 w3 => V_callV (k' := 0) (n' := 0) (t := 12) (q := (RX12, TX12, 46)) [i_ 7] [] okX12_deg o_a0.1 rfl rfl lm_12_192 liX12_deg lqX12_deg (Nat.le_of_ble_eq_true rfl) (Nat.le_of_ble_eq_true rfl) (Nat.le_of_ble_eq_true rfl) (cat_of rfl) (Nat.le_of_ble_eq_true rfl) (Nat.zero_le _) (Nat.zero_le _) rfl dX12_isCurve_166 (sp_X12_deg o_a0 w3.1 w3.2.1 w3.2.2.1 (V_if_ne (tgt := 176) dX12_isCurve_169 rfl w3.2.2.2.1 (fun c2 => V_iconst dX12_isCurve_176 (V_iret (ty := .boolean) dX12_isCurve_177 rfl rfl (w3.2.2.2.2.1 c2))) (fun c2 => V_iconst dX12_isCurve_172 (V_goto (tgt := 177) dX12_isCurve_173 rfl (V_iret (ty := .boolean) dX12_isCurve_177 rfl rfl (w3.2.2.2.2.2 c2))))))))))))))))) (fun c1 => V_aload_n dX12_isCurve_104 rfl (G_12_10 o_a0.1 o_a0.qR10 lf_12_20 dX12_isCurve_105 (V_iconst dX12_isCurve_108 (V_iload_n dX12_isCurve_109 rfl (V_iadd dX12_isCurve_110 (V_aload_n dX12_isCurve_111 rfl (G_12_9 o_a0.1 o_a0.qR9 lf_12_17 dX12_isCurve_112 (V_iconst dX12_isCurve_115 (V_iload_n dX12_isCurve_116 rfl (V_iadd dX12_isCurve_117 (V_iald (t := 100) o_a0.qK9 (by decide) rfl (h.2.2.2 c1).1 (h.2.2.2 c1).2.1 (Nat.le_of_ble_eq_true rfl) dX12_isCurve_118 (V_iast (t := 100) o_a0.qK10 (by decide) (by decide) rfl (h.2.2.2 c1).2.2.1 (h.2.2.2 c1).2.2.2.1 (Nat.le_of_ble_eq_true rfl) dX12_isCurve_119 (V_nmZ (fun Z1 eZ1 => V_iload_n dX12_isCurve_120 rfl (V_if_le (tgt := 150) dX12_isCurve_121 rfl h.1 (fun c3 => V_msk [true, false, true] rfl (((h.2.2.2 c1).2.2.2.2 Z1 eZ1).1 c3)) (fun c3 => V_aload_n dX12_isCurve_124 rfl (G_12_10 o_a0.1 o_a0.qR10 lf_12_20 dX12_isCurve_125 (V_sipush dX12_isCurve_128 rfl (V_iload_n dX12_isCurve_131 rfl (V_iadd dX12_isCurve_132 (V_iconst dX12_isCurve_133 (V_isub dX12_isCurve_134 (V_aload_n dX12_isCurve_135 rfl (V_iload_n dX12_isCurve_136 rfl (V_aload_n dX12_isCurve_137 rfl (G_12_9 o_a0.1 o_a0.qR9 lf_12_17 dX12_isCurve_138 (V_iconst dX12_isCurve_141 (V_iload_n dX12_isCurve_142 rfl (V_iadd dX12_isCurve_143 (V_iald (t := 100) o_a0.qK9 (by decide) rfl (h.2.2.2 c1).1 (h.2.2.2 c1).2.1 (Nat.le_of_ble_eq_true rfl) dX12_isCurve_144 (V_imul dX12_isCurve_145 (V_callV (k' := 0) (n' := 0) (t := 12) (q := (RX12, TX12, 46)) [i_ (v2 * (Z1 (a0 + 3) (2 + v2).toNat))] [i_ ((528 + v2) - 1), r_ (a0 + 4)] okX12_mod o_a0.1 rfl rfl lm_12_182 liX12_mod lqX12_mod (Nat.le_of_ble_eq_true rfl) (Nat.le_of_ble_eq_true rfl) (Nat.le_of_ble_eq_true rfl) (cat_of rfl) (Nat.le_of_ble_eq_true rfl) (Nat.zero_le _) (Nat.zero_le _) rfl dX12_isCurve_146 (sp_X12_mod o_a0 (((h.2.2.2 c1).2.2.2.2 Z1 eZ1).2 c3).1 (((h.2.2.2 c1).2.2.2.2 Z1 eZ1).2 c3).2.1 (((h.2.2.2 c1).2.2.2.2 Z1 eZ1).2 c3).2.2.1 (V_iast (t := 100) o_a0.qK10 (by decide) (by decide) rfl (((h.2.2.2 c1).2.2.2.2 Z1 eZ1).2 c3).2.2.2.1 (((h.2.2.2 c1).2.2.2.2 Z1 eZ1).2 c3).2.2.2.2.1 (Nat.le_of_ble_eq_true rfl) dX12_isCurve_149 (V_nmZ (fun Z2 eZ2 => V_msk [true, false, true] rfl ((((h.2.2.2 c1).2.2.2.2 Z1 eZ1).2 c3).2.2.2.2.2 Z2 eZ2))))))))))))))))))))))))))))))))))))))))))
set_option maxRecDepth 20000 in
theorem b_X12_isCurve_150 {k n : Nat} {x : Wx} {Z : Zt} {Q : Option Value → Wx → Zt → Prop} {a0 : Nat} {v2 : Int} 
    (h : V mX12_isCurve k n 94 [some (r_ a0), none, some (i_ (v2 + 1))] [] x Z Q) :
    V mX12_isCurve k n 150 [some (r_ a0), none, some (i_ v2)] [] x Z Q :=
  V_iinc (lv' := [some (r_ a0), none, some (i_ (v2 + 1))]) dX12_isCurve_150 rfl (Nat.le_of_ble_eq_true rfl) rfl (V_goto (tgt := 94) dX12_isCurve_153 rfl (V_msk [true, false, true] rfl h))
theorem sp_X12_isCurve {k n : Nat} {x : Wx} {Z : Zt} {Q : Option Value → Wx → Zt → Prop} {b : Nat} (o : Is12 x b) {r : Nat → Int} (hv : RV 0 r) (hR : RwT 0 r (Z (b + 3))) (h : ∀ Z' : Zt, (Oth Z Z' (fun c => c = b ∨ c = b + 4) ∧ ∀ i : Nat, i ≠ 11 → Z' b i = Z b i) → Q (some (i_ (bI (sndB r)))) x Z') : V mX12_isCurve k n 0 [some (r_ b), none, none] [] x Z Q := by
  unfold RV at hv
  rw [if_pos rfl] at hv
  unfold RwT at hR
  rw [if_pos rfl] at hR
  obtain ⟨hp, hd, hc, hz, _⟩ := hv
  obtain ⟨q0, q1, q2⟩ := hR
  have hpr := hp.rg
  obtain ⟨d, hd'⟩ : ∃ d : Nat, r 1 = (d : Int) := ⟨(r 1).toNat, by omega⟩
  obtain ⟨p, hp'⟩ : ∃ p : Int, r 0 = p := ⟨_, rfl⟩
  rw [hp'] at hp hpr q0
  rw [hd'] at q1 q2 hd
  unfold sndB at h
  rw [hd', Int.toNat_natCast, hp'] at h
  have hcc : ∀ i : Nat, i ≤ d → 0 ≤ r (2 + i) ∧ r (2 + i) ≤ 12 := fun i hi => hc (2 + i) (by omega) (by omega)
  have no : ∀ Z' : Zt, (Oth Z Z' (fun c => c = b ∨ c = b + 4) ∧ ∀ i : Nat, i ≠ 11 → Z' b i = Z b i) → ¬ (r (2 + d) ≠ 0 ∧ (∀ i : Nat, i < d + 1 → r (2 + i) < p) ∧ pd (eG p (crvF r) (pslo p (crvF r))) = 0) → Q (some (i_ 0)) x Z' := fun Z' h1 h2 => by
    have := h Z' h1
    rw [decide_eq_false h2] at this; exact this
  refine b_X12_isCurve_0 o (fun Z1 e1 => ?_)
  have o1 : ∀ c, c ≠ b → Z1 c = Z c := fun c hc => by rw [e1, up_row _ _ _ _ _ hc]
  have b1 : ∀ i : Nat, Z1 b i = if i = 11 then p else Z b i := fun i => by rw [e1, up_at, q0]
  have fr1 : Oth Z Z1 (fun c => c = b ∨ c = b + 4) ∧ ∀ i : Nat, i ≠ 11 → Z1 b i = Z b i := ⟨fun c hc => o1 c (fun e => hc (Or.inl e)), fun i hi => by rw [b1, if_neg hi]⟩
  rw [o1 (b + 3) (by omega), q1, show (1 + ((d : Int) + 1)).toNat = 2 + d from by omega, q2 d (by omega)]
  have hdd := hcc d (Nat.le_refl d)
  -- filling the registers
  have lp2 : (r (2 + d) ≠ 0 ∧ ∀ i : Nat, i < d + 1 → r (2 + i) < p) → ∀ (P : Nat → Nat → Int) (m i : Nat) (Z2 : Zt), i + m = d + 1 → MS Z2 b (updP (updP P 0 (fun j => if j < i then crvF r j else 0)) 22 (fun j => if j + 1 < i then pslo p (crvF r) j else 0)) → Oth Z1 Z2 (O4 b) → V mX12_isCurve k n 94 [some (r_ b), none, some (i_ (i : Int))] [] x Z2 Q := by
    intro hok P
    have hF : ∀ j : Nat, j ≤ d → crvF r j = r (2 + j) := fun j hj => by
      unfold crvF ptak
      rw [hd', Int.toNat_natCast, if_pos hj, hp']
      exact Int.emod_eq_of_lt (hcc j hj).1 (hok.2 j (by omega))
    have hF0 : ∀ j : Nat, d < j → crvF r j = 0 := fun j hj => by
      unfold crvF ptak
      rw [hd', Int.toNat_natCast, if_neg (by omega)]
    have iF : InP p (crvF r) := fun j => by
      by_cases cj : j ≤ d
      · rw [hF j cj]; exact ⟨(hcc j cj).1, hok.2 j (by omega)⟩
      · rw [hF0 j (by omega)]; omega
    have fF : Fin (crvF r) := fun j hj => hF0 j (by omega)
    have sF0 : ∀ j : Nat, d ≤ j → pslo p (crvF r) j = 0 := fun j hj => by
      show (((j + 1 : Nat) : Int) * crvF r (j + 1)) % p = 0
      rw [hF0 (j + 1) (by omega), Int.mul_zero, Int.zero_emod]
    have iS : InP p (pslo p (crvF r)) := fun j => emr _ (by omega)
    have fS : Fin (pslo p (crvF r)) := fun j hj => sF0 j (by omega)
    have hpd : pd (crvF r) = (d : Int) := pd_eq (by omega) (by rw [hF d (Nat.le_refl d)]; exact hok.1) hF0
    have hps : pd (pslo p (crvF r)) ≤ 9 := pd_le (by omega) (fun j hj => sF0 j (by omega))
    intro m
    induction m with
    | zero =>
      intro i Z2 hi hM hO
      have a3 : Z2 (b + 3) = Z (b + 3) := (hO _ (by show ¬ (b + 3 = b + 4); omega)).trans (o1 _ (by omega))
      have a0 : Z2 b = Z1 b := hO _ (by show ¬ (b = b + 4); omega)
      have m2 : MS Z2 b (updP (updP P 0 (crvF r)) 22 (pslo p (crvF r))) := hM.eq (fun u j hu hj => by
        unfold updP
        by_cases c22 : u = 22
        · rw [if_pos c22, if_pos c22]
          show (if j + 1 < i then pslo p (crvF r) j else 0) = _
          by_cases cj : j + 1 < i
          · rw [if_pos cj]
          · rw [if_neg cj]; exact (sF0 j (by omega)).symm
        · rw [if_neg c22, if_neg c22]
          by_cases c0 : u = 0
          · rw [if_pos c0, if_pos c0]
            show (if j < i then crvF r j else 0) = _
            by_cases cj : j < i
            · rw [if_pos cj]
            · rw [if_neg cj]; exact (hF0 j (by omega)).symm
          · rw [if_neg c0, if_neg c0])
      refine b_X12_isCurve_94 o ?_
      rw [a3, q1]
      refine ⟨⟨by omega, by omega⟩, ⟨by omega, by omega⟩, fun _ => ⟨_, p, ⟨hp, by rw [a0, b1, if_pos rfl]⟩, m2, ⟨by decide, by decide, by decide⟩, ⟨iF, fF⟩, ⟨iS, fS⟩, ⟨by show 0 ≤ pd (crvF r); omega, by show pd (crvF r) ≤ 9; omega, hps⟩, fun Z3 P3 hz3 => ?_⟩, fun c => by omega⟩
      obtain ⟨m3, o3, e7, _⟩ := hz3
      have e7 : P3 7 = eG p (crvF r) (pslo p (crvF r)) := e7
      have hG := eG_ok hp iF fF iS fS (by omega) (by omega) hps
      have fr3 : Oth Z Z3 (fun c => c = b ∨ c = b + 4) ∧ ∀ i : Nat, i ≠ 11 → Z3 b i = Z b i := by
        refine ⟨fun c hc => ?_, fun i hi => ?_⟩
        · have hc : ¬ (c = b ∨ c = b + 4) := hc
          rw [o3 c (by show ¬ (c = b + 4); omega), hO c (by show ¬ (c = b + 4); omega), o1 c (by omega)]
        · rw [o3 b (by show ¬ (b = b + 4); omega), a0, b1, if_neg hi]
      refine ⟨P3, m3, by decide, fun i hi => ?_, ?_⟩
      · show Rg (P3 7 i)
        rw [e7]
        have := hG.1.1 i
        exact ⟨by omega, by omega⟩
      · show Rg (pd (P3 7)) ∧ (pd (P3 7) ≠ 0 → _) ∧ (pd (P3 7) = 0 → _)
        rw [e7]
        have g1 := pd_ge (eG p (crvF r) (pslo p (crvF r)))
        have g2 := pd_lt (eG p (crvF r) (pslo p (crvF r)))
        refine ⟨⟨by omega, by omega⟩, fun c => no Z3 fr3 (fun e => c e.2.2), fun c => ?_⟩
        have := h Z3 fr3
        rw [decide_eq_true ⟨hok.1, hok.2, c⟩] at this; exact this
    | succ m ih =>
      intro i Z2 hi hM hO
      have a3 : Z2 (b + 3) = Z (b + 3) := (hO _ (by show ¬ (b + 3 = b + 4); omega)).trans (o1 _ (by omega))
      have a0 : Z2 b = Z1 b := hO _ (by show ¬ (b = b + 4); omega)
      have hci := hcc i (by omega)
      have hrow : Z2 (b + 3) (2 + (i : Int)).toNat = crvF r i := by rw [a3, show (2 + (i : Int)).toNat = 2 + i from by omega, q2 i (by omega), hF i (by omega)]
      have hFi := hF i (by omega)
      refine b_X12_isCurve_94 o ⟨⟨by omega, by omega⟩, by rw [a3, q1]; exact ⟨by omega, by omega⟩, fun c => by rw [a3, q1] at c; omega, fun _ => ⟨by omega, by omega, by omega, by omega, fun Z3 e3 => ?_⟩⟩
      rw [hrow, show (0 : Int) + (i : Int) = 24 * 0 + (i : Int) from by omega] at e3
      have g := hM.put (u := 0) (i := (i : Int)) (by decide) (by omega) e3
      have a33 : Z3 (b + 3) = Z2 (b + 3) := g.2 _ (by show ¬ (b + 3 = b + 4); omega)
      have a30 : Z3 b = Z1 b := (g.2 _ (by show ¬ (b = b + 4); omega)).trans a0
      refine ⟨fun c => b_X12_isCurve_150 ?_, fun c => ?_⟩
      · have i0 : i = 0 := by omega
        refine ih (i + 1) Z3 (by omega) (g.1.eq (fun u j hu hj => ?_)) (hO.tr g.2)
        rw [Int.toNat_natCast]
        unfold putP updP
        by_cases c22 : u = 22
        · rw [if_neg (show ¬ u = (0 : Int).toNat by rw [c22]; decide), if_pos c22, if_pos c22, i0]
          show (if j + 1 < 0 then _ else _) = (if j + 1 < 0 + 1 then _ else _)
          rw [if_neg (by omega), if_neg (by omega)]
        · by_cases c0 : u = 0
          · rw [if_pos (show u = (0 : Int).toNat from c0), if_neg c22, if_pos c0, if_neg (show ¬ (0 : Int).toNat = 22 by decide), if_pos (show (0 : Int).toNat = 0 from rfl)]
            show (if j = i then crvF r i else (if j < i then crvF r j else 0)) = (if j < i + 1 then crvF r j else 0)
            by_cases cj : j = i
            · rw [if_pos cj, if_pos (by omega), cj]
            · rw [if_neg cj]
              by_cases cl : j < i
              · rw [if_pos cl, if_pos (by omega)]
              · rw [if_neg cl, if_neg (by omega)]
          · rw [if_neg (show ¬ u = (0 : Int).toNat from c0), if_neg c22, if_neg c0, if_neg c22, if_neg c0]
      · have hm1 : 0 ≤ (i : Int) * crvF r i := Int.mul_nonneg (by omega) (by omega)
        have hm2 : (i : Int) * crvF r i ≤ 5 * 12 := Int.mul_le_mul (by omega) (by omega) (by omega) (by omega)
        rw [a33, hrow, a30, b1, if_pos rfl]
        refine ⟨⟨by omega, by omega⟩, by omega, by omega, by omega, by omega, fun Z4 e4 => b_X12_isCurve_150 ?_⟩
        rw [show (528 : Int) + (i : Int) - 1 = 24 * 22 + ((i : Int) - 1) from by omega] at e4
        have g2 := g.1.put (u := 22) (i := (i : Int) - 1) (by decide) (by omega) e4
        refine ih (i + 1) Z4 (by omega) (g2.1.eq (fun u j hu hj => ?_)) ((hO.tr g.2).tr g2.2)
        rw [Int.toNat_natCast]
        unfold putP updP
        by_cases c22 : u = 22
        · rw [if_pos (show u = (22 : Int).toNat from c22), if_pos c22]
          show (if j = ((i : Int) - 1).toNat then (i : Int) * crvF r i % p else (if j + 1 < i then pslo p (crvF r) j else 0)) = (if j + 1 < i + 1 then pslo p (crvF r) j else 0)
          by_cases cj : j = ((i : Int) - 1).toNat
          · rw [if_pos cj, if_pos (by omega)]
            show _ = (((j + 1 : Nat) : Int) * crvF r (j + 1)) % p
            rw [show j + 1 = i from by omega]
          · rw [if_neg cj]
            by_cases cl : j + 1 < i
            · rw [if_pos cl, if_pos (by omega)]
            · rw [if_neg cl, if_neg (by omega)]
        · by_cases c0 : u = 0
          · subst c0
            show (if j = i then crvF r i else (if j < i then crvF r j else 0)) = (if j < i + 1 then crvF r j else 0)
            by_cases cj : j = i
            · rw [if_pos cj, if_pos (by omega), cj]
            · rw [if_neg cj]
              by_cases cl : j < i
              · rw [if_pos cl, if_pos (by omega)]
              · rw [if_neg cl, if_neg (by omega)]
          · rw [if_neg (show ¬ u = (22 : Int).toNat from c22), if_neg (show ¬ u = (0 : Int).toNat from c0), if_neg c22, if_neg c0, if_neg c22, if_neg c0]
  -- the numbers below p
  have lp1 : ∀ (m i : Nat) (v : Int), i + m = d + 1 → (v = 1 ∧ r (2 + d) ≠ 0 ∧ ∀ j : Nat, j < i → r (2 + j) < p) ∨ (v = 0 ∧ ¬ (r (2 + d) ≠ 0 ∧ ∀ j : Nat, j < d + 1 → r (2 + j) < p)) → V mX12_isCurve k n 34 [some (r_ b), some (i_ v), some (i_ (i : Int))] [] x Z1 Q := by
    intro m
    induction m with
    | zero =>
      intro i v hi hv
      refine b_X12_isCurve_34 o ?_
      rw [o1 (b + 3) (by omega), q1]
      refine ⟨⟨by omega, by omega⟩, ⟨by omega, by omega⟩, fun _ => ⟨⟨by omega, by omega⟩, fun c1 => ⟨_, MS.any, by decide, fun Z2 hz2 => ⟨_, hz2.1, by decide, fun Z3 hz3 => ?_⟩⟩, fun c1 => no Z1 fr1 (fun e => ?_)⟩, fun c => by omega⟩
      · have hok : r (2 + d) ≠ 0 ∧ ∀ i : Nat, i < d + 1 → r (2 + i) < p := by
          rcases hv with hv | hv
          · exact ⟨hv.2.1, fun j hj => hv.2.2 j (by omega)⟩
          · omega
        refine lp2 hok (fun q i => Z1 (b + 4) (24 * q + i)) (d + 1) 0 Z3 (by omega) (hz3.1.eq (fun u j hu hj => ?_)) (hz2.2.tr hz3.2)
        unfold updP
        by_cases c22 : u = 22
        · rw [if_pos (show u = (22 : Int).toNat from c22), if_pos c22]; rfl
        · rw [if_neg (show ¬ u = (22 : Int).toNat from c22), if_neg c22]
          by_cases c0 : u = 0
          · rw [if_pos (show u = (0 : Int).toNat from c0), if_pos c0]; rfl
          · rw [if_neg (show ¬ u = (0 : Int).toNat from c0), if_neg c0]
      · rcases hv with hv | hv
        · omega
        · exact hv.2 ⟨e.1, e.2.1⟩
    | succ m ih =>
      intro i v hi hv
      have hci := hcc i (by omega)
      refine b_X12_isCurve_34 o ?_
      rw [o1 (b + 3) (by omega), q1, b1, if_pos rfl, show (2 + (i : Int)).toNat = 2 + i from by omega, q2 i (by omega)]
      refine ⟨⟨by omega, by omega⟩, ⟨by omega, by omega⟩, fun c => by omega, fun _ => ⟨⟨by omega, by omega⟩, fun c1 => b_X12_isCurve_67 (b_X12_isCurve_68 (ih (i + 1) 0 (by omega) (Or.inr ⟨rfl, ?_⟩))), fun c1 => ⟨by omega, by omega, ⟨by omega, by omega⟩, ⟨by omega, by omega⟩, fun c2 => b_X12_isCurve_67 (b_X12_isCurve_68 (ih (i + 1) 0 (by omega) (Or.inr ⟨rfl, fun e => ?_⟩))), fun c2 => b_X12_isCurve_68 (ih (i + 1) 1 (by omega) (Or.inl ⟨rfl, ?_⟩))⟩⟩⟩
      · rcases hv with hv | hv
        · omega
        · exact hv.2
      · have := e.2 i (by omega); omega
      · rcases hv with hv | hv
        · refine ⟨hv.2.1, fun j hj => ?_⟩
          by_cases cj : j = i
          · rw [cj]; exact c2
          · exact hv.2.2 j (by omega)
        · omega
  refine ⟨by omega, by omega, ⟨by omega, by omega⟩, fun c => b_X12_isCurve_31 (lp1 (d + 1) 0 0 (by omega) (Or.inr ⟨rfl, fun e => e.1 c⟩)), fun c => b_X12_isCurve_31 (lp1 (d + 1) 0 1 (by omega) (Or.inl ⟨rfl, c, fun j hj => absurd hj (Nat.not_lt_zero j)⟩))⟩
theorem nx_7le {s f : Nat → Int} (hi : RInv s f) : f 7 ≤ nxF s f 7 := by
  by_cases c : f 1 = 1
  · rw [dd_nx c]; omega
  · have := nx_7 (s := s) hi c
    have := hi.2.1
    omega
theorem note_7 (w : Int) (f : Nat → Int) : noteF w f 7 = f 7 := (note_f w f).2.2 7 (by decide) (by decide)
theorem stop_7 (f : Nat → Int) : stopF f 7 = f 7 := by unfold stopF; split <;> rfl
theorem num_7 {s f : Nat → Int} {m : Int} (hi : RInv s f) : f 7 ≤ numF s m f 7 := by
  unfold numF
  split
  · split
    · exact nx_7le hi
    · have := nx_7le (s := s) (hi.note (w := 2) (by decide))
      rw [note_7] at this; exact this
  · rw [stop_7]; omega
theorem prm_7 {s f : Nat → Int} (hi : RInv s f) : f 7 ≤ prmF s f 7 := by
  unfold prmF
  split
  · split
    · exact nx_7le hi
    · have := nx_7le (s := s) (hi.note (w := 2) (by decide))
      rw [note_7] at this; exact this
  · rw [stop_7]; omega
theorem cls_7 {s f : Nat → Int} (hi : RInv s f) : f 7 ≤ clsF s f 7 := by
  unfold clsF
  split
  · exact nx_7le hi
  · rw [stop_7]; omega
theorem sgn_7 {s f : Nat → Int} {m : Int} (hi : RInv s f) : f 7 ≤ sgnF s m f 7 := by
  unfold sgnF
  split
  · have := nx_7le hi; have := num_7 (m := m) hi.nx; omega
  · exact num_7 hi
theorem cn_7 {s : Nat → Int} : ∀ (m i : Nat) {q : Rq}, RInv s q.1 → q.1 7 ≤ (cnN s m i q).1 7
  | 0, _, _, _ => Int.le_refl _
  | m + 1, i, q, hi => by
    have h1 := cn_7 (s := s) m (i + 1) (q := cnI s i q) hi.num
    have h2 : q.1 7 ≤ (cnI s i q).1 7 := num_7 hi
    show q.1 7 ≤ (cnN s m (i + 1) (cnI s i q)).1 7
    omega
theorem dd_cls1 {s f : Nat → Int} (h : f 1 = 1) : clsF s f 1 = 1 := by
  unfold clsF
  split
  · rw [nx_f1]; exact h
  · exact stop_f1 f
/-- each line takes a sign -/
theorem lnS_7 {s : Nat → Int} {t : Int} {q : Rq} (hi : RInv s q.1) (h1 : q.1 1 ≠ 1) (h75 : q.1 7 < q.1 5) : (lnS s t q).1 1 = 1 ∨ q.1 7 < (lnS s t q).1 7 := by
  have b7 := nx_7 (s := s) hi h1
  have st : clsF s (stopF q.1) 1 = 1 := dd_cls1 (stop_f1 q.1)
  unfold lnS
  split
  · unfold clS clX
    dsimp only
    split
    · have a1 := prm_7 (s := s) hi.nx; have a2 := cls_7 (s := s) hi.nx.prm
      exact Or.inr (by dsimp only; omega)
    · split
      · refine Or.inr ?_
        have hc4 := cn_7 (s := s) 4 0 (q := (nxF s q.1, q.2)) hi.nx
        have hi4 : RInv s (cnN s 4 0 (nxF s q.1, q.2)).1 := RInv.cn 4 0 (q := (nxF s q.1, q.2)) hi.nx
        have hc4' : nxF s q.1 7 ≤ (cnN s 4 0 (nxF s q.1, q.2)).1 7 := hc4
        unfold cnS
        split
        · dsimp only
          have hc2 := cn_7 (s := s) 2 4 (q := cnN s 4 0 (nxF s q.1, q.2)) hi4
          have := cls_7 (s := s) (RInv.cn 2 4 hi4)
          omega
        · dsimp only
          have := cls_7 (s := s) hi4
          omega
      · exact Or.inl st
  · split
    · unfold smS smX
      dsimp only
      split
      · have a1 := sgn_7 (s := s) (m := 9) hi.nx; have a2 := cls_7 (s := s) (hi.nx.sgn (m := 9))
        exact Or.inr (by dsimp only; omega)
      · split
        · refine Or.inr ?_
          have i0 : RInv s (eN q) := RInv.en0 hi
          have e5 : eN q 5 = q.1 5 := by
            unfold eN
            split
            · rfl
            · exact (note_f 3 q.1).2.2 5 (by decide) (by decide)
          have e1 : eN q 1 ≠ 1 := by
            unfold eN
            split
            · exact h1
            · rw [(note_f 3 q.1).1]; split <;> omega
          have a0 : eN q 5 ≤ enF1 s q 7 := nx_7 i0 e1
          have a1 : enF1 s q 7 ≤ enF2 s q 7 := num_7 i0.nx
          have a2 : enF2 s q 7 ≤ enF3 s q 7 := num_7 i0.nx.num
          have a3 : enF3 s q 7 ≤ sgnF s 5 (enF3 s q) 7 := sgn_7 i0.nx.num.num
          have a4 : sgnF s 5 (enF3 s q) 7 ≤ clsF s (sgnF s 5 (enF3 s q)) 7 := cls_7 i0.nx.num.num.sgn
          show q.1 7 < clsF s (sgnF s 5 (enF3 s q)) 7
          omega
        · exact Or.inl st
    · have hy : ∀ (m : Int) (bb : Nat), q.1 7 < (fnY s q m bb).1 7 := fun m bb => by
        have a1 := num_7 (s := s) (m := m) hi.nx
        have a2 := num_7 (s := s) (m := 12) (hi.nx.num (m := m))
        have a3 := cls_7 (s := s) ((hi.nx.num (m := m)).num (m := 12))
        show q.1 7 < clsF s (numF s 12 (numF s m (nxF s q.1))) 7
        omega
      unfold fnS
      split
      · exact Or.inr (hy _ _)
      · split
        · exact Or.inr (hy _ _)
        · exact Or.inl (stop_f1 q.1)
theorem ML.start {s f : Nat → Int} {m : Nat} {Z Z' : Zt} {b : Nat} (hB : MB Z b s m) (h8 : Z b 8 = 0) (h4 : Z (b + 1) 4 = 0) (h5 : Z (b + 1) 5 = -1) (hA : ADV Z Z' b s m 0) : ML s m (nxF s (f0 f m)) Z' b := by
  have hr := hA.rf
  obtain ⟨g1, g2, ⟨g3, g4⟩, g5⟩ := id hA
  have hm := hB.1.2.1
  have a1 : f0 f m 1 = 0 := rfl
  have a4 : f0 f m 4 = (m : Int) := rfl
  have a5 : f0 f m 5 = 0 := rfl
  have a2 : f0 f m 2 = -1 := rfl
  have hN : NInv (f0 f m) := ⟨⟨by omega, by omega⟩, ⟨by omega, by omega⟩, ⟨by omega, by omega⟩⟩
  obtain ⟨n5, n6, n7, n2⟩ := nx_f (s := s) (f := f0 f m) (by omega)
  rw [a4, a5, Int.toNat_natCast] at n5 n6 n7
  have n5 : nxF s (f0 f m) 5 = (tokE s m (tokQ s m 0) : Int) := n5
  have n6 : nxF s (f0 f m) 6 = tokK s m (tokQ s m 0) := n6
  have n7 : nxF s (f0 f m) 7 = (tokQ s m 0 : Int) := n7
  have n7' : (nxF s (f0 f m) 7).toNat = tokQ s m 0 := by rw [n7]; omega
  refine Or.inl ⟨⟨hB.rf hr, by rw [nx_4]; exact a4, hN.nx (by omega), PL.nx ⟨by omega, by omega⟩, ⟨by rw [nx_f1]; omega, by rw [g2 8 (by omega)]; exact h8⟩, ⟨by rw [g3, n5], by rw [g4, n7]⟩, ⟨by rw [g1 _ (by omega), nx_f1, a1]; exact h4, by rw [g1 _ (by omega), n2, a2]; exact h5⟩, ⟨by rw [n7', n5], by rw [n7', n6]⟩, by rw [n7']; exact g5⟩, fun e => ?_⟩
  rw [nx_f1, a1] at e
  exact absurd rfl e
theorem MI.of {x : Wx} {Z Z' : Zt} {b : Nat} {S : Ab} {T : Td} (hI : MI x Z b S) (hV : AbV S) (h2 : Z' (b + 2) = Z (b + 2)) (h7 : ∀ i : Nat, 728 ≤ i → Z' (b + 1) i = Z (b + 1) i) (hT : MT (Z' (b + 1)) T) : MI x Z' b (T, S.im) := by
  refine ⟨hI.1, hT, fun q hq => ?_⟩
  rw [h2]
  refine ⟨(hI.2.2 q hq).1, fun T hT2 => ⟨((hI.2.2 q hq).2 T hT2).1, ((hI.2.2 q hq).2 T hT2).2.ext (hV.2 q hq T hT2) (fun i _ => ?_)⟩⟩
  show Z' (b + 1) _ = Z (b + 1) _
  exact h7 _ (by omega)
/-- the fields of the tape and the fault alone -/
theorem MT.fld {g g' : Nat → Int} {T : Td} (h : MT g T) {ln fl pc : Int} (h3 : g' 3 = ln) (h4 : g' 4 = fl) (h5 : g' 5 = pc) (ho : ∀ i : Nat, i ≠ 3 → i ≠ 4 → i ≠ 5 → g' i = g i) : MT g' (T.tp, ln, fl, pc, T.ct, T.rw) := by
  obtain ⟨⟨a1, a2, a3⟩, _, a7, a8, a9, a10⟩ := h
  refine ⟨⟨by rw [ho 0 (by decide) (by decide) (by decide)]; exact a1, by rw [ho 1 (by decide) (by decide) (by decide)]; exact a2, by rw [ho 2 (by decide) (by decide) (by decide)]; exact a3⟩, ⟨h3, h4, h5⟩, fun i hi => by rw [ho _ (by omega) (by omega) (by omega)]; exact a7 i hi, fun q hq => ?_, fun q hq => ?_, fun q hq i hi => by rw [ho _ (by omega) (by omega) (by omega)]; exact a10 q hq i hi⟩
  · obtain ⟨k1, k2, k3⟩ := a8 q hq
    exact ⟨by rw [ho _ (by omega) (by omega) (by omega)]; exact k1, by rw [ho _ (by omega) (by omega) (by omega)]; exact k2, fun i hi => by rw [ho _ (by omega) (by omega) (by omega)]; exact k3 i hi⟩
  · obtain ⟨k1, k2, k3⟩ := a9 q hq
    exact ⟨by rw [ho _ (by omega) (by omega) (by omega)]; exact k1, by rw [ho _ (by omega) (by omega) (by omega)]; exact k2, fun i hi => by rw [ho _ (by omega) (by omega) (by omega)]; exact k3 i hi⟩
/-- a row is stored as number w of the sort t -/
theorem MT.tell {g g' : Nat → Int} {T : Td} {t pl : Int} {w : Nat} {r R : Nat → Int} (h : MT g T) (hV : TdV T) (ht : 0 ≤ t ∧ t < 3) (hw : (w : Int) < mstr t ∧ (w : Int) ≤ T.ct t.toNat) (hR : RwT t r R) (hv : RV t r) (h3 : g' 3 = 0) (h4 : g' 4 = 0) (h5 : g' 5 = pl) (ho : ∀ i : Nat, i ≠ 3 → i ≠ 4 → i ≠ 5 → g' i = if plcO t w ≤ (i : Int) ∧ (i : Int) < plcO t w + szO t then R ((i : Int) - plcO t w).toNat else if (i : Int) = t ∧ (w : Int) = T.ct t.toNat then (w : Int) + 1 else g i) : MT g' (tlT T t w pl r) := by
  obtain ⟨⟨a1, a2, a3⟩, _, a7, a8, a9, a10⟩ := h
  obtain ⟨_, _, _, _, v0, v1, v2, _, v8, _⟩ := hV
  have hct : ∀ s : Nat, (tlT T t w pl r).ct s = if s = t.toNat ∧ (w : Int) = T.ct t.toNat then (w : Int) + 1 else T.ct s := fun _ => rfl
  have hrw : ∀ rr i : Nat, (tlT T t w pl r).rw rr i = if rr = (fstr t + w).toNat ∧ i < 26 then r i else T.rw rr i := fun _ _ => rfl
  have htp : (tlT T t w pl r).tp = T.tp := rfl
  have hc : t = 0 ∨ t = 1 ∨ t = 2 := by omega
  have hpl : plcO t w = if t = 0 then 610 + 8 * (w : Int) else if t = 1 then 626 + 26 * (w : Int) else 704 + 8 * (w : Int) := rfl
  have hsz : szO t = if t = 1 then 26 else 8 := rfl
  have hms : mstr t = if t = 0 then 2 else 3 := rfl
  have hfs : fstr t = if t = 0 then 0 else if t = 1 then 2 else 5 := rfl
  have low : ∀ i : Nat, i < 610 → 5 < i → g' i = g i := fun i h1 h2 => by
    rw [ho i (by omega) (by omega) (by omega), if_neg (by omega), if_neg (by omega)]
  have cnt : ∀ i : Nat, i < 3 → g i = T.ct i → g' i = (tlT T t w pl r).ct i := fun i hi hg => by
    rw [ho i (by omega) (by omega) (by omega), if_neg (by omega), hct]
    by_cases c : (i : Int) = t ∧ (w : Int) = T.ct t.toNat
    · rw [if_pos c, if_pos ⟨by omega, c.2⟩]
    · rw [if_neg c, if_neg (fun e => c ⟨by omega, e.2⟩)]; exact hg
  refine ⟨⟨cnt 0 (by decide) a1, cnt 1 (by decide) a2, cnt 2 (by decide) a3⟩, ⟨h3, h4, h5⟩, fun i hi => ?_, fun q hq => ?_, fun q hq => ?_, fun q hq i hi => ?_⟩
  · rw [low _ (by omega) (by omega), htp]; exact a7 i hi
  · rw [hct] at hq
    by_cases ct : t = 0
    · subst ct
      rw [if_pos rfl] at hpl hms hfs
      rw [if_neg (by decide)] at hsz
      by_cases cq : q = w
      · subst cq
        have er : ∀ i : Nat, i < 26 → (tlT T 0 q pl r).rw q i = r i := fun i hi => by rw [hrw, if_pos ⟨by rw [hfs]; omega, hi⟩]
        have eg : ∀ j : Nat, j < 8 → g' (610 + 8 * q + j) = R j := fun j hj => by
          rw [ho _ (by omega) (by omega) (by omega), if_pos (by omega), show (((610 + 8 * q + j : Nat) : Int) - plcO 0 q).toNat = j from by omega]
        unfold RwT at hR
        rw [if_pos rfl] at hR
        unfold RV at hv
        rw [if_pos rfl] at hv
        have hd := hv.2.1
        rw [er 0 (by decide), er 1 (by decide)]
        refine ⟨by rw [show 610 + 8 * q = 610 + 8 * q + 0 from rfl, eg 0 (by decide)]; exact hR.1, by rw [show 611 + 8 * q = 610 + 8 * q + 1 from by omega, eg 1 (by decide)]; exact hR.2.1, fun i hi => ?_⟩
        rw [show 612 + 8 * q + i = 610 + 8 * q + (2 + i) from by omega, eg (2 + i) (by omega), er (2 + i) (by omega)]; exact hR.2.2 i hi
      · have hq2 : (q : Int) < T.ct 0 := by
          have e0 : (0 : Int).toNat = 0 := rfl
          rw [e0] at hq hw
          split at hq
          · rename_i c9; omega
          · exact hq
        have er : ∀ i : Nat, (tlT T 0 w pl r).rw q i = T.rw q i := fun i => by rw [hrw, if_neg (by rw [hfs]; omega)]
        obtain ⟨k1, k2, k3⟩ := a8 q hq2
        have eg : ∀ j : Nat, j < 8 → g' (610 + 8 * q + j) = g (610 + 8 * q + j) := fun j hj => by
          rw [ho _ (by omega) (by omega) (by omega), if_neg (by omega), if_neg (by omega)]
        rename_i v7 _
        have hd := (v7 q hq2).2.1
        rw [er 0, er 1]
        refine ⟨by rw [show 610 + 8 * q = 610 + 8 * q + 0 from rfl, eg 0 (by decide)]; exact k1, by rw [show 611 + 8 * q = 610 + 8 * q + 1 from by omega, eg 1 (by decide), ← show 611 + 8 * q = 610 + 8 * q + 1 from by omega]; exact k2, fun i hi => ?_⟩
        rw [show 612 + 8 * q + i = 610 + 8 * q + (2 + i) from by omega, eg (2 + i) (by omega), er (2 + i), ← show 612 + 8 * q + i = 610 + 8 * q + (2 + i) from by omega]; exact k3 i hi
    · have hq2 : (q : Int) < T.ct 0 := by
        rw [if_neg (by omega)] at hq; exact hq
      have er : ∀ i : Nat, (tlT T t w pl r).rw q i = T.rw q i := fun i => by
        rw [hrw, if_neg ?_]
        rw [hfs, if_neg ct]
        split <;> omega
      have hpl2 : 626 ≤ plcO t w := by
        rw [hpl, if_neg ct]; split <;> omega
      obtain ⟨k1, k2, k3⟩ := a8 q hq2
      have eg : ∀ j : Nat, j < 8 → g' (610 + 8 * q + j) = g (610 + 8 * q + j) := fun j hj => by
        rw [ho _ (by omega) (by omega) (by omega), if_neg (by omega), if_neg (by omega)]
      rename_i v7 _
      have hd := (v7 q hq2).2.1
      rw [er 0, er 1]
      refine ⟨by rw [show 610 + 8 * q = 610 + 8 * q + 0 from rfl, eg 0 (by decide)]; exact k1, by rw [show 611 + 8 * q = 610 + 8 * q + 1 from by omega, eg 1 (by decide), ← show 611 + 8 * q = 610 + 8 * q + 1 from by omega]; exact k2, fun i hi => ?_⟩
      rw [show 612 + 8 * q + i = 610 + 8 * q + (2 + i) from by omega, eg (2 + i) (by omega), er (2 + i), ← show 612 + 8 * q + i = 610 + 8 * q + (2 + i) from by omega]; exact k3 i hi
  · rw [hct] at hq
    by_cases ct : t = 1
    · subst ct
      rw [if_neg (by decide), if_pos rfl] at hpl hfs
      rw [if_neg (by decide)] at hms
      rw [if_pos rfl] at hsz
      by_cases cq : q = w
      · subst cq
        have er : ∀ i : Nat, i < 26 → (tlT T 1 q pl r).rw (2 + q) i = r i := fun i hi => by rw [hrw, if_pos ⟨by rw [hfs]; omega, hi⟩]
        have eg : ∀ j : Nat, j < 26 → g' (626 + 26 * q + j) = R j := fun j hj => by
          rw [ho _ (by omega) (by omega) (by omega), if_pos (by omega), show (((626 + 26 * q + j : Nat) : Int) - plcO 1 q).toNat = j from by omega]
        unfold RwT at hR
        rw [if_neg (by decide), if_pos rfl] at hR
        unfold RV at hv
        rw [if_neg (by decide), if_pos rfl] at hv
        have hd := hv.1
        rw [er 0 (by decide), er 1 (by decide)]
        refine ⟨by rw [show 626 + 26 * q = 626 + 26 * q + 0 from rfl, eg 0 (by decide)]; exact hR.1, by rw [show 627 + 26 * q = 626 + 26 * q + 1 from by omega, eg 1 (by decide)]; exact hR.2.1, fun i hi => ?_⟩
        rw [show 628 + 26 * q + i = 626 + 26 * q + (2 + i) from by omega, eg (2 + i) (by omega), er (2 + i) (by omega)]; exact hR.2.2 i hi
      · have hq2 : (q : Int) < T.ct 1 := by
          have e0 : (1 : Int).toNat = 1 := rfl
          rw [e0] at hq hw
          split at hq
          · rename_i c9; omega
          · exact hq
        have er : ∀ i : Nat, (tlT T 1 w pl r).rw (2 + q) i = T.rw (2 + q) i := fun i => by rw [hrw, if_neg (by rw [hfs]; omega)]
        obtain ⟨k1, k2, k3⟩ := a9 q hq2
        have eg : ∀ j : Nat, j < 26 → g' (626 + 26 * q + j) = g (626 + 26 * q + j) := fun j hj => by
          rw [ho _ (by omega) (by omega) (by omega), if_neg (by omega), if_neg (by omega)]
        have hd := (v8 q hq2).1.1
        rw [er 0, er 1]
        refine ⟨by rw [show 626 + 26 * q = 626 + 26 * q + 0 from rfl, eg 0 (by decide)]; exact k1, by rw [show 627 + 26 * q = 626 + 26 * q + 1 from by omega, eg 1 (by decide), ← show 627 + 26 * q = 626 + 26 * q + 1 from by omega]; exact k2, fun i hi => ?_⟩
        rw [show 628 + 26 * q + i = 626 + 26 * q + (2 + i) from by omega, eg (2 + i) (by omega), er (2 + i), ← show 628 + 26 * q + i = 626 + 26 * q + (2 + i) from by omega]; exact k3 i hi
    · have hq2 : (q : Int) < T.ct 1 := by
        rw [if_neg (by omega)] at hq; exact hq
      have er : ∀ i : Nat, (tlT T t w pl r).rw (2 + q) i = T.rw (2 + q) i := fun i => by
        rw [hrw, if_neg ?_]
        rw [hfs]
        rw [hms] at hw
        split
        · rename_i c9
          rw [if_pos c9] at hw; omega
        · omega
      have hpl2 : (t = 0 ∧ plcO t w + szO t ≤ 626) ∨ 704 ≤ plcO t w := by
        rw [hpl, hsz, if_neg ct]
        rw [hms] at hw
        by_cases c9 : t = 0
        · rw [if_pos c9]; rw [if_pos c9] at hw; omega
        · rw [if_neg c9, if_neg ct]; omega
      obtain ⟨k1, k2, k3⟩ := a9 q hq2
      have eg : ∀ j : Nat, j < 26 → g' (626 + 26 * q + j) = g (626 + 26 * q + j) := fun j hj => by
        rw [ho _ (by omega) (by omega) (by omega), if_neg (by omega), if_neg (by omega)]
      have hd := (v8 q hq2).1.1
      rw [er 0, er 1]
      refine ⟨by rw [show 626 + 26 * q = 626 + 26 * q + 0 from rfl, eg 0 (by decide)]; exact k1, by rw [show 627 + 26 * q = 626 + 26 * q + 1 from by omega, eg 1 (by decide), ← show 627 + 26 * q = 626 + 26 * q + 1 from by omega]; exact k2, fun i hi => ?_⟩
      rw [show 628 + 26 * q + i = 626 + 26 * q + (2 + i) from by omega, eg (2 + i) (by omega), er (2 + i), ← show 628 + 26 * q + i = 626 + 26 * q + (2 + i) from by omega]; exact k3 i hi
  · rw [hct] at hq
    by_cases ct : t = 2
    · subst ct
      rw [if_neg (by decide), if_neg (by decide)] at hpl hfs
      rw [if_neg (by decide)] at hms hsz
      by_cases cq : q = w
      · subst cq
        unfold RwT at hR
        rw [if_neg (by decide), if_neg (by decide)] at hR
        rw [hrw, if_pos ⟨by rw [hfs]; omega, by omega⟩, ho _ (by omega) (by omega) (by omega), if_pos (by omega), show (((704 + 8 * q + i : Nat) : Int) - plcO 2 q).toNat = i from by omega]
        exact hR i hi
      · have hq2 : (q : Int) < T.ct 2 := by
          have e0 : (2 : Int).toNat = 2 := rfl
          rw [e0] at hq hw
          split at hq
          · rename_i c9; omega
          · exact hq
        rw [hrw, if_neg (by rw [hfs]; omega), ho _ (by omega) (by omega) (by omega), if_neg (by omega), if_neg (by omega)]
        exact a10 q hq2 i hi
    · have hq2 : (q : Int) < T.ct 2 := by
        rw [if_neg (by omega)] at hq; exact hq
      have hpl2 : plcO t w + szO t ≤ 704 := by
        rw [hpl, hsz]
        rw [hms] at hw
        by_cases c9 : t = 0
        · rw [if_pos c9, if_neg (by omega)]; rw [if_pos c9] at hw; omega
        · rw [if_neg c9, if_pos (by omega), if_pos (by omega)]; rw [if_neg c9] at hw; omega
      rw [hrw, if_neg ?_, ho _ (by omega) (by omega) (by omega), if_neg (by omega), if_neg (by omega)]
      · exact a10 q hq2 i hi
      · rw [hfs]
        rw [hms] at hw
        by_cases c9 : t = 0
        · rw [if_pos c9]; rw [if_pos c9] at hw; omega
        · rw [if_neg c9, if_pos (by omega)]; rw [if_neg c9] at hw; omega
theorem dX12_text_0 : decode cX12_text 0 = .ok (.aload_n 0, 1) := by decide +kernel
theorem dX12_text_1 : decode cX12_text 1 = .ok (.aload_n 0, 1) := by decide +kernel
theorem dX12_text_2 : decode cX12_text 2 = .ok (.getfield 7, 3) := by decide +kernel
theorem dX12_text_5 : decode cX12_text 5 = .ok (.iconst 3, 1) := by decide +kernel
theorem dX12_text_6 : decode cX12_text 6 = .ok (.iaload, 1) := by decide +kernel
theorem dX12_text_7 : decode cX12_text 7 = .ok (.putfield 87, 3) := by decide +kernel
theorem dX12_text_10 : decode cX12_text 10 = .ok (.aload_n 0, 1) := by decide +kernel
theorem dX12_text_11 : decode cX12_text 11 = .ok (.getfield 7, 3) := by decide +kernel
theorem dX12_text_14 : decode cX12_text 14 = .ok (.iconst 3, 1) := by decide +kernel
theorem dX12_text_15 : decode cX12_text 15 = .ok (.iconst 0, 1) := by decide +kernel
theorem dX12_text_16 : decode cX12_text 16 = .ok (.iastore, 1) := by decide +kernel
theorem dX12_text_17 : decode cX12_text 17 = .ok (.aload_n 0, 1) := by decide +kernel
theorem dX12_text_18 : decode cX12_text 18 = .ok (.getfield 7, 3) := by decide +kernel
theorem dX12_text_21 : decode cX12_text 21 = .ok (.iconst 4, 1) := by decide +kernel
theorem dX12_text_22 : decode cX12_text 22 = .ok (.iconst 0, 1) := by decide +kernel
theorem dX12_text_23 : decode cX12_text 23 = .ok (.iastore, 1) := by decide +kernel
theorem dX12_text_24 : decode cX12_text 24 = .ok (.aload_n 0, 1) := by decide +kernel
theorem dX12_text_25 : decode cX12_text 25 = .ok (.getfield 7, 3) := by decide +kernel
theorem dX12_text_28 : decode cX12_text 28 = .ok (.iconst 5, 1) := by decide +kernel
theorem dX12_text_29 : decode cX12_text 29 = .ok (.iconst (-1), 1) := by decide +kernel
theorem dX12_text_30 : decode cX12_text 30 = .ok (.iastore, 1) := by decide +kernel
theorem dX12_text_31 : decode cX12_text 31 = .ok (.iload_n 1, 1) := by decide +kernel
theorem dX12_text_32 : decode cX12_text 32 = .ok (.iconst 0, 1) := by decide +kernel
theorem dX12_text_33 : decode cX12_text 33 = .ok (.iconst 2, 1) := by decide +kernel
theorem dX12_text_34 : decode cX12_text 34 = .ok (.invokestatic 129, 3) := by decide +kernel
theorem dX12_text_37 : decode cX12_text 37 = .ok (.ifCond .eq 38, 3) := by decide +kernel
theorem dX12_text_40 : decode cX12_text 40 = .ok (.iload_n 2, 1) := by decide +kernel
theorem dX12_text_41 : decode cX12_text 41 = .ok (.iconst (-1), 1) := by decide +kernel
theorem dX12_text_42 : decode cX12_text 42 = .ok (.if_icmp .ne 24, 3) := by decide +kernel
theorem dX12_text_45 : decode cX12_text 45 = .ok (.aload_n 0, 1) := by decide +kernel
theorem dX12_text_46 : decode cX12_text 46 = .ok (.getfield 7, 3) := by decide +kernel
theorem dX12_text_49 : decode cX12_text 49 = .ok (.iload_n 1, 1) := by decide +kernel
theorem dX12_text_50 : decode cX12_text 50 = .ok (.iaload, 1) := by decide +kernel
theorem dX12_text_51 : decode cX12_text 51 = .ok (.iload_n 1, 1) := by decide +kernel
theorem dX12_text_52 : decode cX12_text 52 = .ok (.ifCond .ne 7, 3) := by decide +kernel
theorem dX12_text_55 : decode cX12_text 55 = .ok (.iconst 2, 1) := by decide +kernel
theorem dX12_text_56 : decode cX12_text 56 = .ok (.goto 4, 3) := by decide +kernel
theorem dX12_text_59 : decode cX12_text 59 = .ok (.iconst 3, 1) := by decide +kernel
theorem dX12_text_60 : decode cX12_text 60 = .ok (.if_icmp .lt 18, 3) := by decide +kernel
theorem dX12_text_63 : decode cX12_text 63 = .ok (.goto 12, 3) := by decide +kernel
theorem dX12_text_66 : decode cX12_text 66 = .ok (.aload_n 0, 1) := by decide +kernel
theorem dX12_text_67 : decode cX12_text 67 = .ok (.iload_n 1, 1) := by decide +kernel
theorem dX12_text_68 : decode cX12_text 68 = .ok (.iload_n 2, 1) := by decide +kernel
theorem dX12_text_69 : decode cX12_text 69 = .ok (.invokevirtual 156, 3) := by decide +kernel
theorem dX12_text_72 : decode cX12_text 72 = .ok (.ifCond .ne 6, 3) := by decide +kernel
theorem dX12_text_75 : decode cX12_text 75 = .ok (.bipush (-2), 2) := by decide +kernel
theorem dX12_text_77 : decode cX12_text 77 = .ok (.ireturn, 1) := by decide +kernel
theorem dX12_text_78 : decode cX12_text 78 = .ok (.aload_n 0, 1) := by decide +kernel
theorem dX12_text_79 : decode cX12_text 79 = .ok (.iconst 0, 1) := by decide +kernel
theorem dX12_text_80 : decode cX12_text 80 = .ok (.putfield 93, 3) := by decide +kernel
theorem dX12_text_83 : decode cX12_text 83 = .ok (.aload_n 0, 1) := by decide +kernel
theorem dX12_text_84 : decode cX12_text 84 = .ok (.iconst 0, 1) := by decide +kernel
theorem dX12_text_85 : decode cX12_text 85 = .ok (.putfield 122, 3) := by decide +kernel
theorem dX12_text_88 : decode cX12_text 88 = .ok (.iconst 0, 1) := by decide +kernel
theorem dX12_text_89 : decode cX12_text 89 = .ok (.istore_n 3, 1) := by decide +kernel
theorem dX12_text_90 : decode cX12_text 90 = .ok (.iload_n 3, 1) := by decide +kernel
theorem dX12_text_91 : decode cX12_text 91 = .ok (.bipush 26, 2) := by decide +kernel
theorem dX12_text_93 : decode cX12_text 93 = .ok (.if_icmp .ge 16, 3) := by decide +kernel
theorem dX12_text_96 : decode cX12_text 96 = .ok (.aload_n 0, 1) := by decide +kernel
theorem dX12_text_97 : decode cX12_text 97 = .ok (.getfield 17, 3) := by decide +kernel
theorem dX12_text_100 : decode cX12_text 100 = .ok (.iload_n 3, 1) := by decide +kernel
theorem dX12_text_101 : decode cX12_text 101 = .ok (.iconst 0, 1) := by decide +kernel
theorem dX12_text_102 : decode cX12_text 102 = .ok (.iastore, 1) := by decide +kernel
theorem dX12_text_103 : decode cX12_text 103 = .ok (.iinc 3 1, 3) := by decide +kernel
theorem dX12_text_106 : decode cX12_text 106 = .ok (.goto (-16), 3) := by decide +kernel
theorem dX12_text_109 : decode cX12_text 109 = .ok (.iload_n 1, 1) := by decide +kernel
theorem dX12_text_110 : decode cX12_text 110 = .ok (.ifCond .ne 32, 3) := by decide +kernel
theorem dX12_text_113 : decode cX12_text 113 = .ok (.aload_n 0, 1) := by decide +kernel
theorem dX12_text_114 : decode cX12_text 114 = .ok (.getfield 17, 3) := by decide +kernel
theorem dX12_text_117 : decode cX12_text 117 = .ok (.iconst 0, 1) := by decide +kernel
theorem dX12_text_118 : decode cX12_text 118 = .ok (.bipush 7, 2) := by decide +kernel
theorem dX12_text_120 : decode cX12_text 120 = .ok (.iastore, 1) := by decide +kernel
theorem dX12_text_121 : decode cX12_text 121 = .ok (.aload_n 0, 1) := by decide +kernel
theorem dX12_text_122 : decode cX12_text 122 = .ok (.getfield 17, 3) := by decide +kernel
theorem dX12_text_125 : decode cX12_text 125 = .ok (.iconst 1, 1) := by decide +kernel
theorem dX12_text_126 : decode cX12_text 126 = .ok (.iconst 4, 1) := by decide +kernel
theorem dX12_text_127 : decode cX12_text 127 = .ok (.iastore, 1) := by decide +kernel
theorem dX12_text_128 : decode cX12_text 128 = .ok (.aload_n 0, 1) := by decide +kernel
theorem dX12_text_129 : decode cX12_text 129 = .ok (.getfield 17, 3) := by decide +kernel
theorem dX12_text_132 : decode cX12_text 132 = .ok (.iconst 2, 1) := by decide +kernel
theorem dX12_text_133 : decode cX12_text 133 = .ok (.iconst 1, 1) := by decide +kernel
theorem dX12_text_134 : decode cX12_text 134 = .ok (.iastore, 1) := by decide +kernel
theorem dX12_text_135 : decode cX12_text 135 = .ok (.aload_n 0, 1) := by decide +kernel
theorem dX12_text_136 : decode cX12_text 136 = .ok (.getfield 17, 3) := by decide +kernel
theorem dX12_text_139 : decode cX12_text 139 = .ok (.iconst 5, 1) := by decide +kernel
theorem dX12_text_140 : decode cX12_text 140 = .ok (.iconst 1, 1) := by decide +kernel
theorem dX12_text_141 : decode cX12_text 141 = .ok (.iastore, 1) := by decide +kernel
theorem dX12_text_142 : decode cX12_text 142 = .ok (.aload_n 0, 1) := by decide +kernel
theorem dX12_text_143 : decode cX12_text 143 = .ok (.invokevirtual 137, 3) := by decide +kernel
theorem dX12_text_146 : decode cX12_text 146 = .ok (.aload_n 0, 1) := by decide +kernel
theorem dX12_text_147 : decode cX12_text 147 = .ok (.getfield 122, 3) := by decide +kernel
theorem dX12_text_150 : decode cX12_text 150 = .ok (.ifCond .ne 40, 3) := by decide +kernel
theorem dX12_text_153 : decode cX12_text 153 = .ok (.aload_n 0, 1) := by decide +kernel
theorem dX12_text_154 : decode cX12_text 154 = .ok (.getfield 103, 3) := by decide +kernel
theorem dX12_text_157 : decode cX12_text 157 = .ok (.ifCond .eq 33, 3) := by decide +kernel
theorem dX12_text_160 : decode cX12_text 160 = .ok (.iload_n 1, 1) := by decide +kernel
theorem dX12_text_161 : decode cX12_text 161 = .ok (.ifCond .ne 10, 3) := by decide +kernel
theorem dX12_text_164 : decode cX12_text 164 = .ok (.aload_n 0, 1) := by decide +kernel
theorem dX12_text_165 : decode cX12_text 165 = .ok (.invokevirtual 160, 3) := by decide +kernel
theorem dX12_text_168 : decode cX12_text 168 = .ok (.goto (-22), 3) := by decide +kernel
theorem dX12_text_171 : decode cX12_text 171 = .ok (.iload_n 1, 1) := by decide +kernel
theorem dX12_text_172 : decode cX12_text 172 = .ok (.iconst 1, 1) := by decide +kernel
theorem dX12_text_173 : decode cX12_text 173 = .ok (.if_icmp .ne 10, 3) := by decide +kernel
theorem dX12_text_176 : decode cX12_text 176 = .ok (.aload_n 0, 1) := by decide +kernel
theorem dX12_text_177 : decode cX12_text 177 = .ok (.invokevirtual 163, 3) := by decide +kernel
theorem dX12_text_180 : decode cX12_text 180 = .ok (.goto (-34), 3) := by decide +kernel
theorem dX12_text_183 : decode cX12_text 183 = .ok (.aload_n 0, 1) := by decide +kernel
theorem dX12_text_184 : decode cX12_text 184 = .ok (.invokevirtual 166, 3) := by decide +kernel
theorem dX12_text_187 : decode cX12_text 187 = .ok (.goto (-41), 3) := by decide +kernel
theorem dX12_text_190 : decode cX12_text 190 = .ok (.aload_n 0, 1) := by decide +kernel
theorem dX12_text_191 : decode cX12_text 191 = .ok (.getfield 7, 3) := by decide +kernel
theorem dX12_text_194 : decode cX12_text 194 = .ok (.iconst 4, 1) := by decide +kernel
theorem dX12_text_195 : decode cX12_text 195 = .ok (.iaload, 1) := by decide +kernel
theorem dX12_text_196 : decode cX12_text 196 = .ok (.ifCond .ne 23, 3) := by decide +kernel
theorem dX12_text_199 : decode cX12_text 199 = .ok (.iload_n 1, 1) := by decide +kernel
theorem dX12_text_200 : decode cX12_text 200 = .ok (.ifCond .ne 19, 3) := by decide +kernel
theorem dX12_text_203 : decode cX12_text 203 = .ok (.aload_n 0, 1) := by decide +kernel
theorem dX12_text_204 : decode cX12_text 204 = .ok (.invokevirtual 169, 3) := by decide +kernel
theorem dX12_text_207 : decode cX12_text 207 = .ok (.ifCond .ne 12, 3) := by decide +kernel
theorem dX12_text_210 : decode cX12_text 210 = .ok (.aload_n 0, 1) := by decide +kernel
theorem dX12_text_211 : decode cX12_text 211 = .ok (.iconst 4, 1) := by decide +kernel
theorem dX12_text_212 : decode cX12_text 212 = .ok (.aload_n 0, 1) := by decide +kernel
theorem dX12_text_213 : decode cX12_text 213 = .ok (.getfield 100, 3) := by decide +kernel
theorem dX12_text_216 : decode cX12_text 216 = .ok (.invokevirtual 133, 3) := by decide +kernel
theorem dX12_text_219 : decode cX12_text 219 = .ok (.aload_n 0, 1) := by decide +kernel
theorem dX12_text_220 : decode cX12_text 220 = .ok (.getfield 7, 3) := by decide +kernel
theorem dX12_text_223 : decode cX12_text 223 = .ok (.iconst 4, 1) := by decide +kernel
theorem dX12_text_224 : decode cX12_text 224 = .ok (.iaload, 1) := by decide +kernel
theorem dX12_text_225 : decode cX12_text 225 = .ok (.ifCond .eq 5, 3) := by decide +kernel
theorem dX12_text_228 : decode cX12_text 228 = .ok (.iconst (-1), 1) := by decide +kernel
theorem dX12_text_229 : decode cX12_text 229 = .ok (.ireturn, 1) := by decide +kernel
theorem dX12_text_230 : decode cX12_text 230 = .ok (.iload_n 2, 1) := by decide +kernel
theorem dX12_text_231 : decode cX12_text 231 = .ok (.iconst (-1), 1) := by decide +kernel
theorem dX12_text_232 : decode cX12_text 232 = .ok (.if_icmp .ne 12, 3) := by decide +kernel
theorem dX12_text_235 : decode cX12_text 235 = .ok (.aload_n 0, 1) := by decide +kernel
theorem dX12_text_236 : decode cX12_text 236 = .ok (.getfield 7, 3) := by decide +kernel
theorem dX12_text_239 : decode cX12_text 239 = .ok (.iload_n 1, 1) := by decide +kernel
theorem dX12_text_240 : decode cX12_text 240 = .ok (.iaload, 1) := by decide +kernel
theorem dX12_text_241 : decode cX12_text 241 = .ok (.goto 4, 3) := by decide +kernel
theorem dX12_text_244 : decode cX12_text 244 = .ok (.iload_n 2, 1) := by decide +kernel
theorem dX12_text_245 : decode cX12_text 245 = .ok (.istore_n 3, 1) := by decide +kernel
theorem dX12_text_246 : decode cX12_text 246 = .ok (.iload_n 2, 1) := by decide +kernel
theorem dX12_text_247 : decode cX12_text 247 = .ok (.iconst (-1), 1) := by decide +kernel
theorem dX12_text_248 : decode cX12_text 248 = .ok (.if_icmp .ne 13, 3) := by decide +kernel
theorem dX12_text_251 : decode cX12_text 251 = .ok (.aload_n 0, 1) := by decide +kernel
theorem dX12_text_252 : decode cX12_text 252 = .ok (.getfield 7, 3) := by decide +kernel
theorem dX12_text_255 : decode cX12_text 255 = .ok (.iload_n 1, 1) := by decide +kernel
theorem dX12_text_256 : decode cX12_text 256 = .ok (.dup2, 1) := by decide +kernel
theorem dX12_text_257 : decode cX12_text 257 = .ok (.iaload, 1) := by decide +kernel
theorem dX12_text_258 : decode cX12_text 258 = .ok (.iconst 1, 1) := by decide +kernel
theorem dX12_text_259 : decode cX12_text 259 = .ok (.iadd, 1) := by decide +kernel
theorem dX12_text_260 : decode cX12_text 260 = .ok (.iastore, 1) := by decide +kernel
theorem dX12_text_261 : decode cX12_text 261 = .ok (.iconst 0, 1) := by decide +kernel
theorem dX12_text_262 : decode cX12_text 262 = .ok (.istore 4, 2) := by decide +kernel
theorem dX12_text_264 : decode cX12_text 264 = .ok (.iload 4, 2) := by decide +kernel
theorem dX12_text_266 : decode cX12_text 266 = .ok (.iload_n 1, 1) := by decide +kernel
theorem dX12_text_267 : decode cX12_text 267 = .ok (.invokestatic 173, 3) := by decide +kernel
theorem dX12_text_270 : decode cX12_text 270 = .ok (.if_icmp .ge 29, 3) := by decide +kernel
theorem dX12_text_273 : decode cX12_text 273 = .ok (.aload_n 0, 1) := by decide +kernel
theorem dX12_text_274 : decode cX12_text 274 = .ok (.getfield 7, 3) := by decide +kernel
theorem dX12_text_277 : decode cX12_text 277 = .ok (.iload_n 1, 1) := by decide +kernel
theorem dX12_text_278 : decode cX12_text 278 = .ok (.iload_n 3, 1) := by decide +kernel
theorem dX12_text_279 : decode cX12_text 279 = .ok (.invokestatic 176, 3) := by decide +kernel
theorem dX12_text_282 : decode cX12_text 282 = .ok (.iload 4, 2) := by decide +kernel
theorem dX12_text_284 : decode cX12_text 284 = .ok (.iadd, 1) := by decide +kernel
theorem dX12_text_285 : decode cX12_text 285 = .ok (.aload_n 0, 1) := by decide +kernel
theorem dX12_text_286 : decode cX12_text 286 = .ok (.getfield 17, 3) := by decide +kernel
theorem dX12_text_289 : decode cX12_text 289 = .ok (.iload 4, 2) := by decide +kernel
theorem dX12_text_291 : decode cX12_text 291 = .ok (.iaload, 1) := by decide +kernel
theorem dX12_text_292 : decode cX12_text 292 = .ok (.iastore, 1) := by decide +kernel
theorem dX12_text_293 : decode cX12_text 293 = .ok (.iinc 4 1, 3) := by decide +kernel
theorem dX12_text_296 : decode cX12_text 296 = .ok (.goto (-32), 3) := by decide +kernel
theorem dX12_text_299 : decode cX12_text 299 = .ok (.iload_n 3, 1) := by decide +kernel
theorem dX12_text_300 : decode cX12_text 300 = .ok (.ireturn, 1) := by decide +kernel
set_option maxRecDepth 20000 in
theorem b_X12_text_0 {k n : Nat} {x : Wx} {Z : Zt} {Q : Option Value → Wx → Zt → Prop} {a0 : Nat} {v1 : Int} {v2 : Int} (o_a0 : Is12 x a0)
    (h : ∀ Z1 : Zt, Z1 = up Z a0 2 (Z (a0 + 1) 3) → (∀ Z2 : Zt, Z2 = up Z1 (a0 + 1) 3 0 → (∀ Z3 : Zt, Z3 = up Z2 (a0 + 1) 4 0 → (∀ Z4 : Zt, Z4 = up Z3 (a0 + 1) 5 (-1) → ((Rg v1 ∧ Rg (0 : Int) ∧ Rg (2 : Int)) ∧ (∀ (r1 : Int), (((r1 = 1 ∧ (0 : Int) ≤ v1 ∧ v1 ≤ (2 : Int)) ∨ (r1 = 0 ∧ (v1 < (0 : Int) ∨ (2 : Int) < v1)))) → (Rg r1 ∧ (((r1 = 0) → (V mX12_text k n 75 [none, none, none, none, none] [] x Z4 Q)) ∧ ((r1 ≠ 0) → (Rg v2 ∧ (((v2 ≠ (-1)) → ((0 ≤ v1 ∧ v1 < 3) ∧ Rg (Z4 (a0 + 1) v1.toNat - 1) ∧ (∀ (r2 : Int), (((r2 = 1 ∧ 0 ≤ v2 ∧ v2 < Z4 (a0 + 1) v1.toNat) ∨ (r2 = 0 ∧ (v2 < 0 ∨ Z4 (a0 + 1) v1.toNat ≤ v2)))) → (Rg r2 ∧ (((r2 ≠ 0) → (V mX12_text k n 78 [some (r_ a0), some (i_ v1), some (i_ v2), none, none] [] x Z4 Q)) ∧ ((r2 = 0) → (V mX12_text k n 75 [none, none, none, none, none] [] x Z4 Q))))))) ∧ ((v2 = (-1)) → (0 ≤ v1 ∧ v1 < 2912 ∧ (Rg v1 ∧ (((v1 ≠ 0) → (V mX12_text k n 60 [some (r_ a0), some (i_ v1), some (i_ v2), none, none] [i_ 3, i_ (Z4 (a0 + 1) v1.toNat)] x Z4 Q)) ∧ ((v1 = 0) → (V mX12_text k n 60 [some (r_ a0), some (i_ v1), some (i_ v2), none, none] [i_ 2, i_ (Z4 (a0 + 1) v1.toNat)] x Z4 Q))))))))))))))))) :
    V mX12_text k n 0 [some (r_ a0), some (i_ v1), some (i_ v2), none, none] [] x Z Q :=
  V_aload_n dX12_text_0 rfl (V_aload_n dX12_text_1 rfl (G_12_0 o_a0.1 o_a0.qR0 lf_12_7 dX12_text_2 (V_iconst dX12_text_5 (V_iald (t := 100) o_a0.qK0 (by decide) rfl (by decide) (by decide) (Nat.le_of_ble_eq_true rfl) dX12_text_6 (P_12_2 o_a0.1 lf_12_87 dX12_text_7 (V_nmZ (fun Z1 eZ1 => V_aload_n dX12_text_10 rfl (G_12_0 o_a0.1 o_a0.qR0 lf_12_7 dX12_text_11 (V_iconst dX12_text_14 (V_iconst dX12_text_15 (V_iast (t := 100) o_a0.qK0 (by decide) (by decide) rfl (by decide) (by decide) (Nat.le_of_ble_eq_true rfl) dX12_text_16 (V_nmZ (fun Z2 eZ2 => V_aload_n dX12_text_17 rfl (G_12_0 o_a0.1 o_a0.qR0 lf_12_7 dX12_text_18 (V_iconst dX12_text_21 (V_iconst dX12_text_22 (V_iast (t := 100) o_a0.qK0 (by decide) (by decide) rfl (by decide) (by decide) (Nat.le_of_ble_eq_true rfl) dX12_text_23 (V_nmZ (fun Z3 eZ3 => V_aload_n dX12_text_24 rfl (G_12_0 o_a0.1 o_a0.qR0 lf_12_7 dX12_text_25 (V_iconst dX12_text_28 (V_iconst dX12_text_29 (V_iast (t := 100) o_a0.qK0 (by decide) (by decide) rfl (by decide) (by decide) (Nat.le_of_ble_eq_true rfl) dX12_text_30 (V_nmZ (fun Z4 eZ4 => V_iload_n dX12_text_31 rfl (V_iconst dX12_text_32 (V_iconst dX12_text_33 (V_callS (k' := 0) (n' := 0) [i_ v1, i_ 0, i_ 2] [] okX12_isIn lm_12_129 lsX12_isIn (Nat.le_of_ble_eq_true rfl) (Nat.le_of_ble_eq_true rfl) (Nat.le_of_ble_eq_true rfl) (cat_of rfl) (Nat.le_of_ble_eq_true rfl) (Nat.zero_le _) (Nat.zero_le _) rfl dX12_text_34 (sp_X12_isIn  ((((h Z1 eZ1) Z2 eZ2) Z3 eZ3) Z4 eZ4).1 (fun r1 p1 => V_if_eq (tgt := 75) dX12_text_37 rfl (((((h Z1 eZ1) Z2 eZ2) Z3 eZ3) Z4 eZ4).2 r1 p1).1 (fun c1 => V_msk [false, false, false, false, false] rfl ((((((h Z1 eZ1) Z2 eZ2) Z3 eZ3) Z4 eZ4).2 r1 p1).2.1 c1)) (fun c1 => V_iload_n dX12_text_40 rfl (V_iconst dX12_text_41 (V_icmp_ne (tgt := 66) dX12_text_42 rfl ((((((h Z1 eZ1) Z2 eZ2) Z3 eZ3) Z4 eZ4).2 r1 p1).2.2 c1).1 (rg_c rfl) (fun c2 => V_aload_n dX12_text_66 rfl (V_iload_n dX12_text_67 rfl (V_iload_n dX12_text_68 rfl (V_callV (k' := 0) (n' := 0) (t := 12) (q := (RX12, TX12, 46)) [i_ v1, i_ v2] [] okX12_isOf o_a0.1 rfl rfl lm_12_156 liX12_isOf lqX12_isOf (Nat.le_of_ble_eq_true rfl) (Nat.le_of_ble_eq_true rfl) (Nat.le_of_ble_eq_true rfl) (cat_of rfl) (Nat.le_of_ble_eq_true rfl) (Nat.zero_le _) (Nat.zero_le _) rfl dX12_text_69 (sp_X12_isOf o_a0 (((((((h Z1 eZ1) Z2 eZ2) Z3 eZ3) Z4 eZ4).2 r1 p1).2.2 c1).2.1 c2).1 ((((((h Z1 eZ1) Z2 eZ2) Z3 eZ3) Z4 eZ4).2 r1 p1).2.2 c1).1 (((((((h Z1 eZ1) Z2 eZ2) Z3 eZ3) Z4 eZ4).2 r1 p1).2.2 c1).2.1 c2).2.1 (fun r2 p2 => V_if_ne (tgt := 78) dX12_text_72 rfl ((((((((h Z1 eZ1) Z2 eZ2) Z3 eZ3) Z4 eZ4).2 r1 p1).2.2 c1).2.1 c2).2.2 r2 p2).1 (fun c3 => V_msk [true, true, true, false, false] rfl (((((((((h Z1 eZ1) Z2 eZ2) Z3 eZ3) Z4 eZ4).2 r1 p1).2.2 c1).2.1 c2).2.2 r2 p2).2.1 c3)) (fun c3 => V_msk [false, false, false, false, false] rfl (((((((((h Z1 eZ1) Z2 eZ2) Z3 eZ3) Z4 eZ4).2 r1 p1).2.2 c1).2.1 c2).2.2 r2 p2).2.2 c3)))))))) (fun c2 => V_aload_n dX12_text_45 rfl (G_12_0 o_a0.1 o_a0.qR0 lf_12_7 dX12_text_46 (V_iload_n dX12_text_49 rfl (V_iald (t := 100) o_a0.qK0 (by decide) rfl (((((((h Z1 eZ1) Z2 eZ2) Z3 eZ3) Z4 eZ4).2 r1 p1).2.2 c1).2.2 c2).1 (((((((h Z1 eZ1) Z2 eZ2) Z3 eZ3) Z4 eZ4).2 r1 p1).2.2 c1).2.2 c2).2.1 (Nat.le_of_ble_eq_true rfl) dX12_text_50 (V_iload_n dX12_text_51 rfl (V_if_ne (tgt := 59) dX12_text_52 rfl (((((((h Z1 eZ1) Z2 eZ2) Z3 eZ3) Z4 eZ4).2 r1 p1).2.2 c1).2.2 c2).2.2.1 (fun c4 => V_iconst dX12_text_59 (V_msk [true, true, true, false, false] rfl ((((((((h Z1 eZ1) Z2 eZ2) Z3 eZ3) Z4 eZ4).2 r1 p1).2.2 c1).2.2 c2).2.2.2.1 c4))) (fun c4 => V_iconst dX12_text_55 (V_goto (tgt := 60) dX12_text_56 rfl (V_msk [true, true, true, false, false] rfl ((((((((h Z1 eZ1) Z2 eZ2) Z3 eZ3) Z4 eZ4).2 r1 p1).2.2 c1).2.2 c2).2.2.2.2 c4)))))))))))))))))))))))))))))))))))))))))))
set_option maxRecDepth 20000 in
theorem b_X12_text_60 {k n : Nat} {x : Wx} {Z : Zt} {Q : Option Value → Wx → Zt → Prop} {a0 : Nat} {v1 : Int} {v2 : Int} {t0 : Int} {t1 : Int} 
    (h : Rg t0 ∧ Rg t1 ∧ (((t0 < t1) → (V mX12_text k n 78 [some (r_ a0), some (i_ v1), some (i_ v2), none, none] [] x Z Q)) ∧ ((t1 ≤ t0) → (V mX12_text k n 75 [none, none, none, none, none] [] x Z Q)))) :
    V mX12_text k n 60 [some (r_ a0), some (i_ v1), some (i_ v2), none, none] [i_ t1, i_ t0] x Z Q :=
  V_icmp_lt (tgt := 78) dX12_text_60 rfl h.1 h.2.1 (fun c1 => V_msk [true, true, true, false, false] rfl (h.2.2.1 c1)) (fun c1 => V_goto (tgt := 75) dX12_text_63 rfl (V_msk [false, false, false, false, false] rfl (h.2.2.2 c1)))
set_option maxRecDepth 20000 in
theorem b_X12_text_75 {k n : Nat} {x : Wx} {Z : Zt} {Q : Option Value → Wx → Zt → Prop}  
    (h : Q (some (i_ (-2))) x Z) :
    V mX12_text k n 75 [none, none, none, none, none] [] x Z Q :=
  V_bipush dX12_text_75 rfl (V_iret (ty := .int) dX12_text_77 rfl rfl h)
set_option maxRecDepth 20000 in
theorem b_X12_text_78 {k n : Nat} {x : Wx} {Z : Zt} {Q : Option Value → Wx → Zt → Prop} {a0 : Nat} {v1 : Int} {v2 : Int} (o_a0 : Is12 x a0)
    (h : ∀ Z1 : Zt, Z1 = up Z a0 3 0 → (∀ Z2 : Zt, Z2 = up Z1 a0 8 0 → (V mX12_text k n 90 [some (r_ a0), some (i_ v1), some (i_ v2), some (i_ 0), none] [] x Z2 Q))) :
    V mX12_text k n 78 [some (r_ a0), some (i_ v1), some (i_ v2), none, none] [] x Z Q :=
  V_aload_n dX12_text_78 rfl (V_iconst dX12_text_79 (P_12_3 o_a0.1 lf_12_93 dX12_text_80 (V_nmZ (fun Z1 eZ1 => V_aload_n dX12_text_83 rfl (V_iconst dX12_text_84 (P_12_8 o_a0.1 lf_12_122 (Or.inl rfl) dX12_text_85 (V_nmZ (fun Z2 eZ2 => V_iconst dX12_text_88 (V_istore_n (lv' := [some (r_ a0), some (i_ v1), some (i_ v2), some (i_ 0), none]) dX12_text_89 (Nat.le_of_ble_eq_true rfl) rfl (V_msk [true, true, true, true, false] rfl ((h Z1 eZ1) Z2 eZ2)))))))))))
set_option maxRecDepth 20000 in
theorem b_X12_text_90 {k n : Nat} {x : Wx} {Z : Zt} {Q : Option Value → Wx → Zt → Prop} {a0 : Nat} {v1 : Int} {v2 : Int} {v3 : Int} (o_a0 : Is12 x a0)
    (h : Rg v3 ∧ (((26 ≤ v3) → (Rg v1 ∧ (((v1 ≠ 0) → (V mX12_text k n 142 [some (r_ a0), some (i_ v1), some (i_ v2), none, none] [] x Z Q)) ∧ ((v1 = 0) → (∀ Z1 : Zt, Z1 = up Z (a0 + 3) 0 7 → (∀ Z2 : Zt, Z2 = up Z1 (a0 + 3) 1 4 → (∀ Z3 : Zt, Z3 = up Z2 (a0 + 3) 2 1 → (∀ Z4 : Zt, Z4 = up Z3 (a0 + 3) 5 1 → (V mX12_text k n 142 [some (r_ a0), some (i_ v1), some (i_ v2), none, none] [] x Z4 Q))))))))) ∧ ((v3 < 26) → (0 ≤ v3 ∧ (∀ Z5 : Zt, Z5 = up Z (a0 + 3) v3.toNat 0 → (V mX12_text k n 90 [some (r_ a0), some (i_ v1), some (i_ v2), some (i_ (v3 + 1)), none] [] x Z5 Q)))))) :
    V mX12_text k n 90 [some (r_ a0), some (i_ v1), some (i_ v2), some (i_ v3), none] [] x Z Q :=
  V_iload_n dX12_text_90 rfl (V_bipush dX12_text_91 rfl (V_icmp_ge (tgt := 109) dX12_text_93 rfl h.1 (rg_c rfl) (fun c1 => V_iload_n dX12_text_109 rfl (V_if_ne (tgt := 142) dX12_text_110 rfl (h.2.1 c1).1 (fun c2 => V_msk [true, true, true, false, false] rfl ((h.2.1 c1).2.1 c2)) (fun c2 => V_aload_n dX12_text_113 rfl (G_12_9 o_a0.1 o_a0.qR9 lf_12_17 dX12_text_114 (V_iconst dX12_text_117 (V_bipush dX12_text_118 rfl (V_iast (t := 100) o_a0.qK9 (by decide) (by decide) rfl (by decide) (by decide) (Nat.le_of_ble_eq_true rfl) dX12_text_120 (V_nmZ (fun Z1 eZ1 => V_aload_n dX12_text_121 rfl (G_12_9 o_a0.1 o_a0.qR9 lf_12_17 dX12_text_122 (V_iconst dX12_text_125 (V_iconst dX12_text_126 (V_iast (t := 100) o_a0.qK9 (by decide) (by decide) rfl (by decide) (by decide) (Nat.le_of_ble_eq_true rfl) dX12_text_127 (V_nmZ (fun Z2 eZ2 => V_aload_n dX12_text_128 rfl (G_12_9 o_a0.1 o_a0.qR9 lf_12_17 dX12_text_129 (V_iconst dX12_text_132 (V_iconst dX12_text_133 (V_iast (t := 100) o_a0.qK9 (by decide) (by decide) rfl (by decide) (by decide) (Nat.le_of_ble_eq_true rfl) dX12_text_134 (V_nmZ (fun Z3 eZ3 => V_aload_n dX12_text_135 rfl (G_12_9 o_a0.1 o_a0.qR9 lf_12_17 dX12_text_136 (V_iconst dX12_text_139 (V_iconst dX12_text_140 (V_iast (t := 100) o_a0.qK9 (by decide) (by decide) rfl (by decide) (by decide) (Nat.le_of_ble_eq_true rfl) dX12_text_141 (V_nmZ (fun Z4 eZ4 => V_msk [true, true, true, false, false] rfl ((((((h.2.1 c1).2.2 c2) Z1 eZ1) Z2 eZ2) Z3 eZ3) Z4 eZ4)))))))))))))))))))))))))))) (fun c1 => V_aload_n dX12_text_96 rfl (G_12_9 o_a0.1 o_a0.qR9 lf_12_17 dX12_text_97 (V_iload_n dX12_text_100 rfl (V_iconst dX12_text_101 (V_iast (t := 100) o_a0.qK9 (by decide) (by decide) rfl (h.2.2 c1).1 c1 (Nat.le_of_ble_eq_true rfl) dX12_text_102 (V_nmZ (fun Z5 eZ5 => V_iinc (lv' := [some (r_ a0), some (i_ v1), some (i_ v2), some (i_ (v3 + 1)), none]) dX12_text_103 rfl (Nat.le_of_ble_eq_true rfl) rfl (V_goto (tgt := 90) dX12_text_106 rfl (V_msk [true, true, true, true, false] rfl ((h.2.2 c1).2 Z5 eZ5))))))))))))
set_option maxRecDepth 20000 in
theorem b_X12_text_142 {k n : Nat} {x : Wx} {Z : Zt} {Q : Option Value → Wx → Zt → Prop} {a0 : Nat} {v1 : Int} {v2 : Int} (o_a0 : Is12 x a0)
    (h : ∃ g1 : Nat → Int, (∃ g2 : Nat, (∃ g3 : Nat, (MB Z a0 g1 g2 ∧ (Z a0 3 = (g3 : Int) ∧ g3 ≤ g2) ∧ (∀ (Z'1 : Zt), (ADV Z Z'1 a0 g1 g2 g3) → (V mX12_text k n 146 [some (r_ a0), some (i_ v1), some (i_ v2), none, none] [] x Z'1 Q)))))) :
    V mX12_text k n 142 [some (r_ a0), some (i_ v1), some (i_ v2), none, none] [] x Z Q :=
  V_aload_n dX12_text_142 rfl (Exists.elim h (fun g1 w1 => Exists.elim w1 (fun g2 w2 => Exists.elim w2 (fun g3 w3 => V_callV (k' := 0) (n' := 0) (t := 12) (q := (RX12, TX12, 46)) [] [] okX12_advance o_a0.1 rfl rfl lm_12_137 liX12_advance lqX12_advance (Nat.le_of_ble_eq_true rfl) (Nat.le_of_ble_eq_true rfl) (Nat.le_of_ble_eq_true rfl) (cat_of rfl) (Nat.le_of_ble_eq_true rfl) (Nat.zero_le _) (Nat.zero_le _) rfl dX12_text_143 (sp_X12_advance o_a0 w3.1 w3.2.1 (fun Z'1 p1 => V_msk [true, true, true, false, false] rfl (w3.2.2 Z'1 p1)))))))
set_option maxRecDepth 20000 in
theorem b_X12_text_146 {k n : Nat} {x : Wx} {Z : Zt} {Q : Option Value → Wx → Zt → Prop} {a0 : Nat} {v1 : Int} {v2 : Int} (o_a0 : Is12 x a0)
    (h : Rg (Z a0 8) ∧ (((Z a0 8 ≠ 0) → (V mX12_text k n 190 [some (r_ a0), some (i_ v1), some (i_ v2), none, none] [] x Z Q)) ∧ ((Z a0 8 = 0) → (Rg (Z a0 5) ∧ (((Z a0 5 = 0) → (V mX12_text k n 190 [some (r_ a0), some (i_ v1), some (i_ v2), none, none] [] x Z Q)) ∧ ((Z a0 5 ≠ 0) → (Rg v1 ∧ (((v1 ≠ 0) → (((v1 ≠ 1) → (∃ g1 : Nat → Int, (∃ g2 : Nat, (∃ g3 : Rq, (LnR g1 g2 2 g3 Z a0 ∧ (∀ (Z'1 : Zt), (LnR g1 g2 2 (fnS g1 g3) Z'1 a0 ∧ RL a0 Z Z'1) → (V mX12_text k n 146 [some (r_ a0), some (i_ v1), some (i_ v2), none, none] [] x Z'1 Q))))))) ∧ ((v1 = 1) → (∃ g4 : Nat → Int, (∃ g5 : Nat, (∃ g6 : Rq, (LnR g4 g5 1 g6 Z a0 ∧ (0 ≤ Z (a0 + 3) 0 ∧ Z (a0 + 3) 0 ≤ 1000) ∧ (∀ (Z'2 : Zt), (LnR g4 g5 1 (smS g4 g6) Z'2 a0 ∧ RL a0 Z Z'2 ∧ (0 ≤ Z'2 (a0 + 3) 0 ∧ Z'2 (a0 + 3) 0 ≤ Z (a0 + 3) 0 + 1)) → (V mX12_text k n 146 [some (r_ a0), some (i_ v1), some (i_ v2), none, none] [] x Z'2 Q))))))))) ∧ ((v1 = 0) → (∃ g7 : Nat → Int, (∃ g8 : Nat, (∃ g9 : Rq, (LnR g7 g8 0 g9 Z a0 ∧ (∀ (Z'3 : Zt), (LnR g7 g8 0 (clS g7 g9) Z'3 a0 ∧ RL a0 Z Z'3) → (V mX12_text k n 146 [some (r_ a0), some (i_ v1), some (i_ v2), none, none] [] x Z'3 Q))))))))))))))) :
    V mX12_text k n 146 [some (r_ a0), some (i_ v1), some (i_ v2), none, none] [] x Z Q :=
  V_aload_n dX12_text_146 rfl (G_12_8 o_a0.1 lf_12_122 dX12_text_147 (V_if_ne (tgt := 190) dX12_text_150 rfl h.1 (fun c1 => V_msk [true, true, true, false, false] rfl (h.2.1 c1)) (fun c1 => V_aload_n dX12_text_153 rfl (G_12_5 o_a0.1 lf_12_103 dX12_text_154 (V_if_eq (tgt := 190) dX12_text_157 rfl (h.2.2 c1).1 (fun c2 => V_msk [true, true, true, false, false] rfl ((h.2.2 c1).2.1 c2)) (fun c2 => V_iload_n dX12_text_160 rfl (V_if_ne (tgt := 171) dX12_text_161 rfl ((h.2.2 c1).2.2 c2).1 (fun c3 => V_iload_n dX12_text_171 rfl (V_iconst dX12_text_172 (V_icmp_ne (tgt := 183) dX12_text_173 rfl ((h.2.2 c1).2.2 c2).1 (rg_c rfl) (fun c4 => V_aload_n dX12_text_183 rfl (Exists.elim ((((h.2.2 c1).2.2 c2).2.1 c3).1 c4) (fun g1 w1 => Exists.elim w1 (fun g2 w2 => Exists.elim w2 (fun g3 w3 => V_callV (k' := 0) (n' := 0) (t := 12) (q := (RX12, TX12, 46)) [] [] okX12_functionLine o_a0.1 rfl rfl lm_12_166 liX12_functionLine lqX12_functionLine (Nat.le_of_ble_eq_true rfl) (Nat.le_of_ble_eq_true rfl) (Nat.le_of_ble_eq_true rfl) (cat_of rfl) (Nat.le_of_ble_eq_true rfl) (Nat.zero_le _) (Nat.zero_le _) rfl dX12_text_184 (sp_X12_functionLine o_a0 w3.1 (fun Z'1 p1 => V_goto (tgt := 146) dX12_text_187 rfl (V_msk [true, true, true, false, false] rfl (w3.2 Z'1 p1))))))))) (fun c4 => V_aload_n dX12_text_176 rfl (Exists.elim ((((h.2.2 c1).2.2 c2).2.1 c3).2 c4) (fun g4 w4 => Exists.elim w4 (fun g5 w5 => Exists.elim w5 (fun g6 w6 => V_callV (k' := 0) (n' := 0) (t := 12) (q := (RX12, TX12, 46)) [] [] okX12_sumLine o_a0.1 rfl rfl lm_12_163 liX12_sumLine lqX12_sumLine (Nat.le_of_ble_eq_true rfl) (Nat.le_of_ble_eq_true rfl) (Nat.le_of_ble_eq_true rfl) (cat_of rfl) (Nat.le_of_ble_eq_true rfl) (Nat.zero_le _) (Nat.zero_le _) rfl dX12_text_177 (sp_X12_sumLine o_a0 w6.1 w6.2.1 (fun Z'2 p2 => V_goto (tgt := 146) dX12_text_180 rfl (V_msk [true, true, true, false, false] rfl (w6.2.2 Z'2 p2)))))))))))) (fun c3 => V_aload_n dX12_text_164 rfl (Exists.elim (((h.2.2 c1).2.2 c2).2.2 c3) (fun g7 w7 => Exists.elim w7 (fun g8 w8 => Exists.elim w8 (fun g9 w9 => V_callV (k' := 0) (n' := 0) (t := 12) (q := (RX12, TX12, 46)) [] [] okX12_curveLine o_a0.1 rfl rfl lm_12_160 liX12_curveLine lqX12_curveLine (Nat.le_of_ble_eq_true rfl) (Nat.le_of_ble_eq_true rfl) (Nat.le_of_ble_eq_true rfl) (cat_of rfl) (Nat.le_of_ble_eq_true rfl) (Nat.zero_le _) (Nat.zero_le _) rfl dX12_text_165 (sp_X12_curveLine o_a0 w9.1 (fun Z'3 p3 => V_goto (tgt := 146) dX12_text_168 rfl (V_msk [true, true, true, false, false] rfl (w9.2 Z'3 p3))))))))))))))))
set_option maxRecDepth 20000 in
theorem b_X12_text_190 {k n : Nat} {x : Wx} {Z : Zt} {Q : Option Value → Wx → Zt → Prop} {a0 : Nat} {v1 : Int} {v2 : Int} (o_a0 : Is12 x a0)
    (h : Rg (Z (a0 + 1) 4) ∧ (((Z (a0 + 1) 4 ≠ 0) → (V mX12_text k n 219 [some (r_ a0), some (i_ v1), some (i_ v2), none, none] [] x Z Q)) ∧ ((Z (a0 + 1) 4 = 0) → (Rg v1 ∧ (((v1 ≠ 0) → (V mX12_text k n 219 [some (r_ a0), some (i_ v1), some (i_ v2), none, none] [] x Z Q)) ∧ ((v1 = 0) → (∃ g1 : Nat → Int, (RV 0 g1 ∧ RwT 0 g1 (Z (a0 + 3)) ∧ (∀ (Z'1 : Zt), ((Oth Z Z'1 (fun c => c = a0 ∨ c = a0 + 4) ∧ ∀ i : Nat, i ≠ 11 → Z'1 a0 i = Z a0 i)) → (Rg (bI (sndB g1)) ∧ (((bI (sndB g1) ≠ 0) → (V mX12_text k n 219 [some (r_ a0), some (i_ v1), some (i_ v2), none, none] [] x Z'1 Q)) ∧ ((bI (sndB g1) = 0) → (((Z'1 a0 8 = 1) ∨ (Z'1 a0 8 = 0 ∧ Rg (Z'1 (a0 + 1) 4) ∧ Rg (Z'1 a0 4) ∧ (Z'1 (a0 + 1) 4 ≠ 0 → Rg (Z'1 (a0 + 1) 5) ∧ Z'1 (a0 + 1) 5 < (Z'1 a0 4)))) ∧ (∀ Z1 : Zt, Z1 = alsZ Z'1 a0 (4 : Int) (Z'1 a0 4) → (V mX12_text k n 219 [some (r_ a0), some (i_ v1), some (i_ v2), none, none] [] x Z1 Q))))))))))))))) :
    V mX12_text k n 190 [some (r_ a0), some (i_ v1), some (i_ v2), none, none] [] x Z Q :=
  V_aload_n dX12_text_190 rfl (G_12_0 o_a0.1 o_a0.qR0 lf_12_7 dX12_text_191 (V_iconst dX12_text_194 (V_iald (t := 100) o_a0.qK0 (by decide) rfl (by decide) (by decide) (Nat.le_of_ble_eq_true rfl) dX12_text_195 (V_if_ne (tgt := 219) dX12_text_196 rfl h.1 (fun c1 => V_msk [true, true, true, false, false] rfl (h.2.1 c1)) (fun c1 => V_iload_n dX12_text_199 rfl (V_if_ne (tgt := 219) dX12_text_200 rfl (h.2.2 c1).1 (fun c2 => V_msk [true, true, true, false, false] rfl ((h.2.2 c1).2.1 c2)) (fun c2 => V_aload_n dX12_text_203 rfl (Exists.elim ((h.2.2 c1).2.2 c2) (fun g1 w1 => V_callV (k' := 0) (n' := 0) (t := 12) (q := (RX12, TX12, 46)) [] [] okX12_isCurve o_a0.1 rfl rfl lm_12_169 liX12_isCurve lqX12_isCurve (Nat.le_of_ble_eq_true rfl) (Nat.le_of_ble_eq_true rfl) (Nat.le_of_ble_eq_true rfl) (cat_of rfl) (Nat.le_of_ble_eq_true rfl) (Nat.zero_le _) (Nat.zero_le _) rfl dX12_text_204 (sp_X12_isCurve o_a0 w1.1 w1.2.1 (fun Z'1 p1 => V_if_ne (tgt := 219) dX12_text_207 rfl (w1.2.2 Z'1 p1).1 (fun c3 => V_msk [true, true, true, false, false] rfl ((w1.2.2 Z'1 p1).2.1 c3)) (fun c3 => V_aload_n dX12_text_210 rfl (V_iconst dX12_text_211 (V_aload_n dX12_text_212 rfl (G_12_4 o_a0.1 lf_12_100 dX12_text_213 (V_callV (k' := 0) (n' := 0) (t := 12) (q := (RX12, TX12, 46)) [i_ 4, i_ (Z'1 a0 4)] [] okX12_also o_a0.1 rfl rfl lm_12_133 liX12_also lqX12_also (Nat.le_of_ble_eq_true rfl) (Nat.le_of_ble_eq_true rfl) (Nat.le_of_ble_eq_true rfl) (cat_of rfl) (Nat.le_of_ble_eq_true rfl) (Nat.zero_le _) (Nat.zero_le _) rfl dX12_text_216 (sp_X12_also o_a0 ((w1.2.2 Z'1 p1).2.2 c3).1 (V_nmZ (fun Z1 eZ1 => V_msk [true, true, true, false, false] rfl (((w1.2.2 Z'1 p1).2.2 c3).2 Z1 eZ1))))))))))))))))))))
set_option maxRecDepth 20000 in
theorem b_X12_text_219 {k n : Nat} {x : Wx} {Z : Zt} {Q : Option Value → Wx → Zt → Prop} {a0 : Nat} {v1 : Int} {v2 : Int} (o_a0 : Is12 x a0)
    (h : Rg (Z (a0 + 1) 4) ∧ (((Z (a0 + 1) 4 = 0) → (Rg v2 ∧ (((v2 ≠ (-1)) → (V mX12_text k n 245 [some (r_ a0), some (i_ v1), some (i_ v2), none, none] [i_ v2] x Z Q)) ∧ ((v2 = (-1)) → (0 ≤ v1 ∧ v1 < 2912 ∧ (V mX12_text k n 245 [some (r_ a0), some (i_ v1), some (i_ v2), none, none] [i_ (Z (a0 + 1) v1.toNat)] x Z Q)))))) ∧ ((Z (a0 + 1) 4 ≠ 0) → (Q (some (i_ (-1))) x Z)))) :
    V mX12_text k n 219 [some (r_ a0), some (i_ v1), some (i_ v2), none, none] [] x Z Q :=
  V_aload_n dX12_text_219 rfl (G_12_0 o_a0.1 o_a0.qR0 lf_12_7 dX12_text_220 (V_iconst dX12_text_223 (V_iald (t := 100) o_a0.qK0 (by decide) rfl (by decide) (by decide) (Nat.le_of_ble_eq_true rfl) dX12_text_224 (V_if_eq (tgt := 230) dX12_text_225 rfl h.1 (fun c1 => V_iload_n dX12_text_230 rfl (V_iconst dX12_text_231 (V_icmp_ne (tgt := 244) dX12_text_232 rfl (h.2.1 c1).1 (rg_c rfl) (fun c2 => V_iload_n dX12_text_244 rfl (V_msk [true, true, true, false, false] rfl ((h.2.1 c1).2.1 c2))) (fun c2 => V_aload_n dX12_text_235 rfl (G_12_0 o_a0.1 o_a0.qR0 lf_12_7 dX12_text_236 (V_iload_n dX12_text_239 rfl (V_iald (t := 100) o_a0.qK0 (by decide) rfl ((h.2.1 c1).2.2 c2).1 ((h.2.1 c1).2.2 c2).2.1 (Nat.le_of_ble_eq_true rfl) dX12_text_240 (V_goto (tgt := 245) dX12_text_241 rfl (V_msk [true, true, true, false, false] rfl ((h.2.1 c1).2.2 c2).2.2))))))))) (fun c1 => V_iconst dX12_text_228 (V_iret (ty := .int) dX12_text_229 rfl rfl (h.2.2 c1)))))))
set_option maxRecDepth 20000 in
theorem b_X12_text_245 {k n : Nat} {x : Wx} {Z : Zt} {Q : Option Value → Wx → Zt → Prop} {a0 : Nat} {v1 : Int} {v2 : Int} {t0 : Int} (o_a0 : Is12 x a0)
    (h : Rg v2 ∧ (((v2 ≠ (-1)) → (V mX12_text k n 261 [some (r_ a0), some (i_ v1), none, some (i_ t0), none] [] x Z Q)) ∧ ((v2 = (-1)) → (0 ≤ v1 ∧ v1 < 2912 ∧ (∀ Z1 : Zt, Z1 = up Z (a0 + 1) v1.toNat ((Z (a0 + 1) v1.toNat) + 1) → (V mX12_text k n 261 [some (r_ a0), some (i_ v1), none, some (i_ t0), none] [] x Z1 Q)))))) :
    V mX12_text k n 245 [some (r_ a0), some (i_ v1), some (i_ v2), none, none] [i_ t0] x Z Q :=
  V_istore_n (lv' := [some (r_ a0), some (i_ v1), some (i_ v2), some (i_ t0), none]) dX12_text_245 (Nat.le_of_ble_eq_true rfl) rfl (V_iload_n dX12_text_246 rfl (V_iconst dX12_text_247 (V_icmp_ne (tgt := 261) dX12_text_248 rfl h.1 (rg_c rfl) (fun c1 => V_msk [true, true, false, true, false] rfl (h.2.1 c1)) (fun c1 => V_aload_n dX12_text_251 rfl (G_12_0 o_a0.1 o_a0.qR0 lf_12_7 dX12_text_252 (V_iload_n dX12_text_255 rfl (V_dup2 dX12_text_256 rfl rfl (V_iald (t := 100) o_a0.qK0 (by decide) rfl (h.2.2 c1).1 (h.2.2 c1).2.1 (Nat.le_of_ble_eq_true rfl) dX12_text_257 (V_iconst dX12_text_258 (V_iadd dX12_text_259 (V_iast (t := 100) o_a0.qK0 (by decide) (by decide) rfl (h.2.2 c1).1 (h.2.2 c1).2.1 (Nat.le_of_ble_eq_true rfl) dX12_text_260 (V_nmZ (fun Z1 eZ1 => V_msk [true, true, false, true, false] rfl ((h.2.2 c1).2.2 Z1 eZ1))))))))))))))
set_option maxRecDepth 20000 in
theorem b_X12_text_261 {k n : Nat} {x : Wx} {Z : Zt} {Q : Option Value → Wx → Zt → Prop} {a0 : Nat} {v1 : Int} {v3 : Int} 
    (h : V mX12_text k n 264 [some (r_ a0), some (i_ v1), none, some (i_ v3), some (i_ 0)] [] x Z Q) :
    V mX12_text k n 261 [some (r_ a0), some (i_ v1), none, some (i_ v3), none] [] x Z Q :=
  V_iconst dX12_text_261 (V_istore (lv' := [some (r_ a0), some (i_ v1), none, some (i_ v3), some (i_ 0)]) dX12_text_262 (Nat.le_of_ble_eq_true rfl) rfl (V_msk [true, true, false, true, true] rfl h))
set_option maxRecDepth 20000 in
theorem b_X12_text_264 {k n : Nat} {x : Wx} {Z : Zt} {Q : Option Value → Wx → Zt → Prop} {a0 : Nat} {v1 : Int} {v3 : Int} {v4 : Int} (o_a0 : Is12 x a0)
    (h : Rg v1 ∧ (Rg v4 ∧ Rg (szO v1) ∧ (((szO v1 ≤ v4) → (Q (some (i_ v3)) x Z)) ∧ ((v4 < szO v1) → (0 ≤ v4 ∧ v4 < 26 ∧ (0 ≤ (plcO v1 v3) + v4 ∧ (plcO v1 v3) + v4 < 2912 ∧ (∀ Z1 : Zt, Z1 = up Z (a0 + 1) ((plcO v1 v3) + v4).toNat (Z (a0 + 3) v4.toNat) → (V mX12_text k n 264 [some (r_ a0), some (i_ v1), none, some (i_ v3), some (i_ (v4 + 1))] [] x Z1 Q)))))))) :
    V mX12_text k n 264 [some (r_ a0), some (i_ v1), none, some (i_ v3), some (i_ v4)] [] x Z Q :=
  V_iload dX12_text_264 rfl (V_iload_n dX12_text_266 rfl (V_callS (k' := 0) (n' := 0) [i_ v1] [i_ v4] okX12_sizeOf lm_12_173 lsX12_sizeOf (Nat.le_of_ble_eq_true rfl) (Nat.le_of_ble_eq_true rfl) (Nat.le_of_ble_eq_true rfl) (cat_of rfl) (Nat.le_of_ble_eq_true rfl) (Nat.zero_le _) (Nat.zero_le _) rfl dX12_text_267 (sp_X12_sizeOf  h.1 (V_icmp_ge (tgt := 299) dX12_text_270 rfl h.2.1 h.2.2.1 (fun c1 => V_iload_n dX12_text_299 rfl (V_iret (ty := .int) dX12_text_300 rfl rfl (h.2.2.2.1 c1))) (fun c1 => V_aload_n dX12_text_273 rfl (G_12_0 o_a0.1 o_a0.qR0 lf_12_7 dX12_text_274 (V_iload_n dX12_text_277 rfl (V_iload_n dX12_text_278 rfl (V_callS (k' := 0) (n' := 0) [i_ v1, i_ v3] [r_ (a0 + 1)] okX12_placeOf lm_12_176 lsX12_placeOf (Nat.le_of_ble_eq_true rfl) (Nat.le_of_ble_eq_true rfl) (Nat.le_of_ble_eq_true rfl) (cat_of rfl) (Nat.le_of_ble_eq_true rfl) (Nat.zero_le _) (Nat.zero_le _) rfl dX12_text_279 (sp_X12_placeOf  h.1 (V_iload dX12_text_282 rfl (V_iadd dX12_text_284 (V_aload_n dX12_text_285 rfl (G_12_9 o_a0.1 o_a0.qR9 lf_12_17 dX12_text_286 (V_iload dX12_text_289 rfl (V_iald (t := 100) o_a0.qK9 (by decide) rfl (h.2.2.2.2 c1).1 (h.2.2.2.2 c1).2.1 (Nat.le_of_ble_eq_true rfl) dX12_text_291 (V_iast (t := 100) o_a0.qK0 (by decide) (by decide) rfl (h.2.2.2.2 c1).2.2.1 (h.2.2.2.2 c1).2.2.2.1 (Nat.le_of_ble_eq_true rfl) dX12_text_292 (V_nmZ (fun Z1 eZ1 => V_iinc (lv' := [some (r_ a0), some (i_ v1), none, some (i_ v3), some (i_ (v4 + 1))]) dX12_text_293 rfl (Nat.le_of_ble_eq_true rfl) rfl (V_goto (tgt := 264) dX12_text_296 rfl (V_msk [true, true, false, true, true] rfl ((h.2.2.2.2 c1).2.2.2.2 Z1 eZ1))))))))))))))))))))))
theorem txF_bad {T : Td} {t : Int} {f r : Nat → Int} (h : (txQ T t f r).1 1 ≠ 0) : txF T t f r = ((txQ T t f r).1 1, (txQ T t f r).1 2) := by
  unfold txF; rw [if_neg (fun e => h e.1)]
theorem rdq_end {s : Nat → Int} {t : Int} : ∀ (m : Nat) {q : Rq}, (q.1 6 = 0 ∨ q.1 1 = 1) → rdq s t m q = q
  | 0, _, _ => rfl
  | m + 1, q, h => by unfold rdq; rw [if_pos h]
theorem sp_X12_text {k n : Nat} {x : Wx} {Z : Zt} {Q : Option Value → Wx → Zt → Prop} {b : Nat} {t e : Int} {S : Ab} (f r : Nat → Int) (hI : MI x Z b S) (hV : AbV S) (ht : Rg t) (he : Rg e) (h : ∀ (Z' : Zt) (ans : Int) (T' : Td), TxR S.nw t e f r ans T' → MI x Z' b (T', S.im) → Mw b Z Z' → Q (some (i_ ans)) x Z') : V mX12_text k n 0 [some (r_ b), some (i_ t), some (i_ e), none, none] [] x Z Q := by
  obtain ⟨o, hT, _⟩ := id hI
  obtain ⟨T, hTT⟩ : ∃ T : Td, S.nw = T := ⟨_, rfl⟩
  have hVT := hV.1
  rw [hTT] at h hT hVT
  have hln := hVT.2.1
  have hct0 := hVT.2.2.2.2.1
  have hct1 := hVT.2.2.2.2.2.1
  have hct2 := hVT.2.2.2.2.2.2.1
  have hBR := hVT.1.1
  obtain ⟨m, hm⟩ : ∃ m : Nat, T.ln = (m : Int) := ⟨T.ln.toNat, by omega⟩
  have hctm : ∀ s : Nat, s < 3 → Z (b + 1) s = T.ct s ∧ 0 ≤ T.ct s ∧ T.ct s ≤ 3 := fun s hs => by
    match s, hs with
    | 0, _ => exact ⟨hT.1.1, by omega, by omega⟩
    | 1, _ => exact ⟨hT.1.2.1, by omega, by omega⟩
    | 2, _ => exact ⟨hT.1.2.2, by omega, by omega⟩
  refine b_X12_text_0 o (fun Z1 e1 Z2 e2 Z3 e3 Z4 e4 => ?_)
  have c4 : ∀ c, c ≠ b → c ≠ b + 1 → Z4 c = Z c := fun c h1 h2 => by rw [e4, up_row _ _ _ _ _ h2, e3, up_row _ _ _ _ _ h2, e2, up_row _ _ _ _ _ h2, e1, up_row _ _ _ _ _ h1]
  have a4 : ∀ i : Nat, Z4 (b + 1) i = if i = 5 then -1 else if i = 4 then 0 else if i = 3 then 0 else Z (b + 1) i := fun i => by rw [e4, up_at, e3, up_at, e2, up_at, e1, up_row _ _ _ _ _ (by omega)]
  have b4 : ∀ i : Nat, Z4 b i = if i = 2 then (m : Int) else Z b i := fun i => by rw [e4, up_row _ _ _ _ _ (by omega), e3, up_row _ _ _ _ _ (by omega), e2, up_row _ _ _ _ _ (by omega), e1, up_at, hT.2.1.1, hm]
  have bad : ¬ txOk T t e → V mX12_text k n 75 [none, none, none, none, none] [] x Z4 Q := fun hn => by
    refine b_X12_text_75 (h Z4 (-2) _ (Or.inl ⟨hn, rfl, rfl⟩) (hI.of hV (c4 _ (by omega) (by omega)) (fun i hi => by rw [a4, if_neg (by omega), if_neg (by omega), if_neg (by omega)]) ?_) (fun c hc => c4 c (by omega) (by omega)))
    exact hT.fld (by rw [a4]; rfl) (by rw [a4]; rfl) (by rw [a4]; rfl) (fun i i1 i2 i3 => by rw [a4, if_neg i3, if_neg i2, if_neg i1])
  -- what was read
  obtain ⟨FIN, hFIN⟩ : ∃ q : Rq, txQ T t f r = q := ⟨_, rfl⟩
  have hall := rdS_all (s := T.tp) (t := t) (n := T.ln) ⟨hln.1, hln.2⟩ f r
  have hFr : rdS T.tp t T.ln (f, r) = FIN := hFIN
  rw [hFr] at hall
  obtain ⟨hPL, hF13, hFRV⟩ := hall
  have good : txOk T t e → V mX12_text k n 78 [some (r_ b), some (i_ t), some (i_ e), none, none] [] x Z4 Q := by
    intro hok
    have htr := hok.1
    obtain ⟨c9, c8, c7⟩ := hctm t.toNat (by omega)
    have hmst : mstr t = if t = 0 then 2 else 3 := rfl
    -- the row is stored
    have store : ∀ Z5 : Zt, (∀ c, c ≠ b → c ≠ b + 1 → c ≠ b + 3 → c ≠ b + 4 → Z5 c = Z c) → (∀ i : Nat, i ≠ 3 → i ≠ 4 → i ≠ 5 → Z5 (b + 1) i = Z (b + 1) i) → Z5 (b + 1) 3 = 0 → Z5 (b + 1) 4 = 0 → Z5 (b + 1) 5 = (txF T t f r).2 → (txF T t f r).1 = 0 → RwT t FIN.2 (Z5 (b + 3)) → RV t FIN.2 → V mX12_text k n 219 [some (r_ b), some (i_ t), some (i_ e), none, none] [] x Z5 Q := by
      intro Z5 f0 f1 f3 f4 f5 hx hR hv
      have ct5 : Z5 (b + 1) t.toNat = T.ct t.toNat := by rw [f1 _ (by omega) (by omega) (by omega)]; exact c9
      obtain ⟨w, hw⟩ : ∃ w : Nat, txN T t e = (w : Int) := ⟨(txN T t e).toNat, by
        unfold txN
        split
        · omega
        · have := hok.2; omega⟩
      have hwl : (w : Int) < mstr t ∧ (w : Int) ≤ T.ct t.toNat := by
        rw [← hw]
        unfold txN
        rcases hok.2 with ⟨q1, q2⟩ | ⟨q1, q2, q3⟩
        · rw [if_pos q1]; omega
        · rw [if_neg q1]
          have : T.ct t.toNat ≤ mstr t := by
            rw [hmst]
            have hc : t = 0 ∨ t = 1 ∨ t = 2 := by omega
            rcases hc with rfl | rfl | rfl
            · exact hct0.2
            · exact hct1.2
            · exact hct2.2
          omega
      have hplc : plcO t w = if t = 0 then 610 + 8 * (w : Int) else if t = 1 then 626 + 26 * (w : Int) else 704 + 8 * (w : Int) := rfl
      have hszo : szO t = if t = 1 then 26 else 8 := rfl
      have hpb : 610 ≤ plcO t w ∧ plcO t w + szO t ≤ 728 := by
        rw [hplc, hszo]
        rw [hmst] at hwl
        have hc : t = 0 ∨ t = 1 ∨ t = 2 := by omega
        rcases hc with rfl | rfl | rfl
        · rw [if_pos rfl] at hwl; rw [if_pos rfl, if_neg (by decide)]; omega
        · rw [if_neg (by decide)] at hwl; rw [if_neg (by decide), if_pos rfl, if_pos rfl]; omega
        · rw [if_neg (by decide)] at hwl; rw [if_neg (by decide), if_neg (by decide), if_neg (by decide)]; omega
      have hsz26 : 0 ≤ szO t ∧ szO t ≤ 26 := by rw [hszo]; split <;> omega
      -- copying
      have lp : ∀ (g0 : Nat → Int) (R : Nat → Int), (∀ i : Nat, g0 i = if (i : Int) = t ∧ (w : Int) = T.ct t.toNat then (w : Int) + 1 else Z5 (b + 1) i) → R = Z5 (b + 3) → ∀ (M j : Nat) (Z6 : Zt), (j : Int) + M = szO t → (∀ c, c ≠ b + 1 → Z6 c = Z5 c) → (∀ i : Nat, Z6 (b + 1) i = if plcO t w ≤ (i : Int) ∧ (i : Int) < plcO t w + j then R ((i : Int) - plcO t w).toNat else g0 i) → V mX12_text k n 264 [some (r_ b), some (i_ t), none, some (i_ (w : Int)), some (i_ (j : Int))] [] x Z6 Q := by
        intro g0 R hg0 hR0 M
        induction M with
        | zero =>
          intro j Z6 hj g1 g2
          refine b_X12_text_264 o ⟨ht, ⟨by omega, by omega⟩, ⟨by omega, by omega⟩, fun _ => ?_, fun c => by omega⟩
          have hj2 : (j : Int) = szO t := by omega
          have far : ∀ i : Nat, 728 ≤ i → Z6 (b + 1) i = Z (b + 1) i := fun i hi => by
            rw [g2, if_neg (by omega), hg0, if_neg (by omega), f1 i (by omega) (by omega) (by omega)]
          have hfin := h Z6 (w : Int) (tlT T t w (txF T t f r).2 FIN.2) (Or.inr (Or.inr ⟨hok, hx, hw.symm, by rw [hw, hFIN]⟩))
          refine hfin (hI.of hV (by rw [g1 _ (by omega), f0 _ (by omega) (by omega) (by omega) (by omega)]) far ?_) (fun c hc => by rw [g1 c (by omega), f0 c (by omega) (by omega) (by omega) (by omega)])
          refine hT.tell (R := R) hVT htr hwl (by rw [hR0]; exact hR) hv ?_ ?_ ?_ (fun i i3 i4 i5 => ?_)
          · rw [g2, if_neg (by omega), hg0, if_neg (by omega)]; exact f3
          · rw [g2, if_neg (by omega), hg0, if_neg (by omega)]; exact f4
          · rw [g2, if_neg (by omega), hg0, if_neg (by omega)]; exact f5
          · rw [g2, ← hj2, hg0, f1 i i3 i4 i5]
        | succ M ih =>
          intro j Z6 hj g1 g2
          refine b_X12_text_264 o ⟨ht, ⟨by omega, by omega⟩, ⟨by omega, by omega⟩, fun c => by omega, fun _ => ⟨by omega, by omega, by omega, by omega, fun Z7 e7 => ?_⟩⟩
          rw [g1 (b + 3) (by omega), Int.toNat_natCast] at e7
          refine ih (j + 1) Z7 (by omega) (fun c hc => by rw [e7, up_row _ _ _ _ _ hc]; exact g1 c hc) (fun i => ?_)
          rw [e7, up_at]
          by_cases c1 : i = (plcO t w + (j : Int)).toNat
          · rw [if_pos c1, if_pos (by omega), hR0, show ((i : Int) - plcO t w).toNat = j from by omega]
          · rw [if_neg c1, g2]
            by_cases c2 : plcO t w ≤ (i : Int) ∧ (i : Int) < plcO t w + j
            · rw [if_pos c2, if_pos (by omega)]
            · rw [if_neg c2, if_neg (by omega)]
      refine b_X12_text_219 o ⟨by rw [f4]; exact rg_z, fun _ => ⟨he, fun ce => ?_, fun ce => ⟨by omega, by omega, ?_⟩⟩, fun c => absurd f4 c⟩
      · have hwe : e = (w : Int) := by unfold txN at hw; rw [if_neg ce] at hw; exact hw
        refine b_X12_text_245 o ⟨he, fun _ => b_X12_text_261 ?_, fun c => absurd c ce⟩
        rw [hwe]
        have hne : (w : Int) ≠ T.ct t.toNat := by
          have := hok.2; omega
        exact lp (Z5 (b + 1)) _ (fun i => by rw [if_neg (fun q => hne q.2)]) rfl (szO t).toNat 0 Z5 (by omega) (fun _ _ => rfl) (fun i => by rw [if_neg (by omega)])
      · have hwe : T.ct t.toNat = (w : Int) := by unfold txN at hw; rw [if_pos ce] at hw; exact hw
        rw [ct5]
        refine b_X12_text_245 o ⟨he, fun c => absurd ce c, fun _ => ⟨by omega, by omega, fun Z6 e6 => b_X12_text_261 ?_⟩⟩
        rw [ct5, hwe] at e6
        rw [hwe]
        refine lp (Z6 (b + 1)) (Z5 (b + 3)) (fun i => ?_) rfl (szO t).toNat 0 Z6 (by omega) (fun c hc => by rw [e6, up_row _ _ _ _ _ hc]) (fun i => by rw [if_neg (by omega)])
        rw [e6, up_at]
        by_cases ci : i = t.toNat
        · rw [if_pos ci, if_pos ⟨by omega, hwe.symm⟩]
        · rw [if_neg ci, if_neg (fun q => ci (by omega))]
    -- a fault is kept
    have kept : ∀ Z5 : Zt, (∀ c, c ≠ b → c ≠ b + 1 → c ≠ b + 3 → c ≠ b + 4 → Z5 c = Z c) → (∀ i : Nat, i ≠ 3 → i ≠ 4 → i ≠ 5 → Z5 (b + 1) i = Z (b + 1) i) → Z5 (b + 1) 3 = 0 → Z5 (b + 1) 4 = (txF T t f r).1 → Z5 (b + 1) 5 = (txF T t f r).2 → (txF T t f r).1 ≠ 0 → Rg (txF T t f r).1 → V mX12_text k n 219 [some (r_ b), some (i_ t), some (i_ e), none, none] [] x Z5 Q := by
      intro Z5 f0 f1 f3 f4 f5 hx hrg
      refine b_X12_text_219 o ⟨by rw [f4]; exact hrg, fun c => by rw [f4] at c; exact absurd c hx, fun _ => ?_⟩
      refine h Z5 (-1) _ (Or.inr (Or.inl ⟨hok, hx, rfl, rfl⟩)) (hI.of hV (f0 _ (by omega) (by omega) (by omega) (by omega)) (fun i hi => f1 i (by omega) (by omega) (by omega)) ?_) (fun c hc => f0 c (by omega) (by omega) (by omega) (by omega))
      exact hT.fld f3 f4 f5 f1
    refine b_X12_text_78 o (fun Z5 e5 Z6 e6 => ?_)
    have c6 : ∀ c, c ≠ b → c ≠ b + 1 → Z6 c = Z c := fun c h1 h2 => by rw [e6, up_row _ _ _ _ _ h1, e5, up_row _ _ _ _ _ h1]; exact c4 c h1 h2
    have a6 : Z6 (b + 1) = Z4 (b + 1) := by rw [e6, up_row _ _ _ _ _ (by omega), e5, up_row _ _ _ _ _ (by omega)]
    have b6 : ∀ i : Nat, Z6 b i = if i = 8 then 0 else if i = 3 then 0 else if i = 2 then (m : Int) else Z b i := fun i => by rw [e6, up_at, e5, up_at, b4]
    have m600 : m ≤ 600 := by omega
    -- the end of the reading
    have fin : ∀ Z8 : Zt, LnR T.tp m t FIN Z8 b → (FIN.1 1 = 1 ∨ (FIN.1 1 ≠ 1 ∧ FIN.1 6 = 0)) → (∀ c, c ≠ b → c ≠ b + 1 → c ≠ b + 3 → Z8 c = Z c) → (∀ i : Nat, i ≠ 3 → i ≠ 4 → i ≠ 5 → Z8 (b + 1) i = Z (b + 1) i) → Z8 (b + 1) 3 = 0 → V mX12_text k n 190 [some (r_ b), some (i_ t), some (i_ e), none, none] [] x Z8 Q := by
      intro Z8 hL hend f0 f1 f3
      obtain ⟨hML, hRW⟩ := hL
      have h4 : Z8 (b + 1) 4 = FIN.1 1 ∧ Z8 (b + 1) 5 = FIN.1 2 := by
        rcases hML with ⟨hl, _⟩ | hd
        · exact hl.2.2.2.2.2.2.1
        · have k1 := hd.2.2.2.2.1.1
          have k2 := hd.2.2.2.2.2.1
          exact ⟨by rw [k1]; exact k2.1, k2.2⟩
      refine b_X12_text_190 o ⟨by rw [h4.1]; exact ⟨by omega, by omega⟩, fun c => ?_, fun c => ⟨ht, fun c0 => ?_, fun c0 => ?_⟩⟩
      · rw [h4.1] at c
        have hx := txF_bad (T := T) (t := t) (f := f) (r := r) (by rw [hFIN]; exact c)
        rw [hFIN] at hx
        exact kept Z8 (fun c h1 h2 h3 _ => f0 c h1 h2 h3) f1 f3 (by rw [hx]; exact h4.1) (by rw [hx]; exact h4.2) (by rw [hx]; exact c) (by rw [hx]; exact ⟨by show -2147483648 ≤ FIN.1 1; omega, by show FIN.1 1 < 2147483648; omega⟩)
      · rw [h4.1] at c
        have hx : txF T t f r = (FIN.1 1, FIN.1 2) := by
          unfold txF; rw [hFIN, if_neg (fun q => c0 q.2.1)]
        exact store Z8 (fun c h1 h2 h3 _ => f0 c h1 h2 h3) f1 f3 (by rw [h4.1]; exact c) (by rw [hx]; exact h4.2) (by rw [hx]; exact c) (hRW c) (hFRV c)
      · rw [h4.1] at c
        subst c0
        have hv := hFRV c
        refine ⟨FIN.2, hv, hRW c, fun Z9 hz9 => ?_⟩
        obtain ⟨o9, b9⟩ := hz9
        have n9 : ∀ d, d ≠ b → d ≠ b + 4 → Z9 d = Z8 d := fun d h1 h2 => o9 d (by show ¬ (d = b ∨ d = b + 4); omega)
        have a9 := n9 (b + 1) (by omega) (by omega)
        refine ⟨bI_rg _, fun cs => ?_, fun cs => ?_⟩
        · have hs := bI_1 cs
          have hx : txF T 0 f r = (FIN.1 1, FIN.1 2) := by
            unfold txF; rw [hFIN, if_neg (fun q => by rw [hs] at q; exact absurd q.2.2 (by decide))]
          refine store Z9 (fun c h1 h2 h3 h4 => by rw [n9 c h1 h4]; exact f0 c h1 h2 h3) (fun i i1 i2 i3 => by rw [a9]; exact f1 i i1 i2 i3) (by rw [a9]; exact f3) (by rw [a9, h4.1]; exact c) (by rw [hx, a9]; exact h4.2) (by rw [hx]; exact c) ?_ hv
          rw [n9 (b + 3) (by omega) (by omega)]; exact hRW c
        · have hs := bI_0 cs
          have hx : txF T 0 f r = (4, T.ln) := by
            unfold txF; rw [hFIN, if_pos ⟨c, rfl, hs⟩]
          have hlv : LV T.tp m FIN.1 Z8 b := by
            rcases hML with ⟨hl, _⟩ | hd
            · exact hl
            · have := hd.2.2.2.2.1.1; omega
          have z8 : Z8 b 8 = 0 := hlv.2.2.2.2.1.2
          have z4 : Z8 b 4 = (m : Int) := by
            have k7 := hlv.2.2.2.2.2.1.2
            have k6 := hlv.2.2.2.2.2.2.2.1.2
            have hi := hlv.2.2.1
            have hi2 := hi.2.1
            have f4 := hlv.2.1
            have h60 : FIN.1 6 = 0 := by rcases hend with q | q <;> omega
            rw [h60] at k6
            have : m ≤ (FIN.1 7).toNat := by
              by_cases cm : m ≤ (FIN.1 7).toNat
              · exact cm
              · exfalso
                have hg := hlv.2.2.2.2.2.2.2.2
                unfold tokK at k6
                rw [if_neg cm] at k6
                split at k6
                · omega
                · split at k6
                  · split at k6 <;> omega
                  · split at k6
                    · omega
                    · split at k6 <;> omega
            rw [k7]; omega
          have y8 : Z9 b 8 = 0 := by rw [b9 8 (by decide)]; exact z8
          have y4 : Z9 b 4 = (m : Int) := by rw [b9 4 (by decide)]; exact z4
          have y14 : Z9 (b + 1) 4 = 0 := by rw [a9, h4.1]; exact c
          refine ⟨Or.inr ⟨y8, by rw [y14]; exact rg_z, by rw [y4]; exact ⟨by omega, by omega⟩, fun q => absurd y14 q⟩, fun Z10 e10 => ?_⟩
          rw [y4] at e10
          obtain ⟨s1, s2, s3, s4⟩ := als_row (w := 4) (p := (m : Int)) y8
          rw [if_pos y14] at s2 s3
          refine kept Z10 (fun c h1 h2 h3 h4 => by rw [e10, s1 c h2, n9 c h1 h4]; exact f0 c h1 h2 h3) (fun i i1 i2 i3 => by rw [e10, s4 i i2 i3, a9]; exact f1 i i1 i2 i3) (by rw [e10, s4 3 (by decide) (by decide), a9]; exact f3) (by rw [e10, hx]; exact s2) (by rw [e10, hx, s3]; exact hm.symm) (by rw [hx]; show (4 : Int) ≠ 0; decide) (by rw [hx]; exact ⟨by show (-2147483648 : Int) ≤ 4; decide, by show (4 : Int) < 2147483648; decide⟩)
    -- the lines
    have loop : ∀ (M : Nat) (q : Rq) (Z8 : Zt), LnR T.tp m t q Z8 b → LInv T.tp t q → (q.1 1 ≠ 1 → (m : Int) + 1 ≤ q.1 7 + M ∧ (t = 1 → 0 ≤ Z8 (b + 3) 0 ∧ Z8 (b + 3) 0 ≤ q.1 7)) → rdq T.tp t M q = FIN → (∀ c, c ≠ b → c ≠ b + 1 → c ≠ b + 3 → Z8 c = Z c) → (∀ i : Nat, i ≠ 3 → i ≠ 4 → i ≠ 5 → Z8 (b + 1) i = Z (b + 1) i) → Z8 (b + 1) 3 = 0 → V mX12_text k n 146 [some (r_ b), some (i_ t), some (i_ e), none, none] [] x Z8 Q := by
      intro M
      induction M with
      | zero =>
        intro q Z8 hL hLI hb hq f0 f1 f3
        have hq : q = FIN := hq
        have hw := hL.1.w8
        by_cases cd : q.1 1 = 1
        · refine b_X12_text_146 o ⟨⟨by omega, by omega⟩, fun _ => fin Z8 (by rw [← hq]; exact hL) (Or.inl (by rw [← hq]; exact cd)) f0 f1 f3, fun c => by omega⟩
        · exfalso
          have := (hb cd).1
          have hi := hL.1.mb.2.2.1
          have := hi.2.1
          have := hL.1.mb.2.1
          omega
      | succ M ih =>
        intro q Z8 hL hLI hb hq f0 f1 f3
        have hw := hL.1.w8
        have hi := hL.1.mb.2.2.1
        by_cases cd : q.1 1 = 1
        · rw [rdq_end _ (Or.inr cd)] at hq
          refine b_X12_text_146 o ⟨⟨by omega, by omega⟩, fun _ => fin Z8 (by rw [← hq]; exact hL) (Or.inl (by rw [← hq]; exact cd)) f0 f1 f3, fun c => by omega⟩
        · have hlv : LV T.tp m q.1 Z8 b := by
            rcases hL.1 with ⟨hl, _⟩ | hd
            · exact hl
            · exact absurd hd.2.2.2.2.1.1 cd
          have k6 : Z8 b 5 = 0 ↔ q.1 6 = 0 := by
            have e6 := hlv.2.2.2.2.2.2.2.1.2
            have hk := hlv.2.2.2.2.2.2.2.2
            rw [e6]; unfold MTk WW at hk
            constructor
            · intro e; omega
            · intro e; omega
          refine b_X12_text_146 o ⟨⟨by omega, by omega⟩, fun c => by omega, fun _ => ⟨hL.1.w5, fun c5 => ?_, fun c5 => ?_⟩⟩
          · have c6 := k6.mp c5
            rw [rdq_end _ (Or.inl c6)] at hq
            exact fin Z8 (by rw [← hq]; exact hL) (Or.inr (by rw [← hq]; exact ⟨cd, c6⟩)) f0 f1 f3
          · have c6 : q.1 6 ≠ 0 := fun e => c5 (k6.mpr e)
            have h75 := hlv.gt c6
            have hq2 : rdq T.tp t M (lnS T.tp t q) = FIN := by
              rw [← hq]
              show _ = (if q.1 6 = 0 ∨ q.1 1 = 1 then q else rdq T.tp t M (lnS T.tp t q))
              rw [if_neg (fun e => e.elim c6 cd)]
            have h7 := lnS_7 (t := t) hi cd h75
            have hbb := hb cd
            have i7 := hi.2.1
            have i4 := hi.1
            have nxt : ∀ Z9 : Zt, LnR T.tp m t (lnS T.tp t q) Z9 b → RL b Z8 Z9 → (t = 1 → 0 ≤ Z9 (b + 3) 0 ∧ Z9 (b + 3) 0 ≤ Z8 (b + 3) 0 + 1) → V mX12_text k n 146 [some (r_ b), some (i_ t), some (i_ e), none, none] [] x Z9 Q := by
              intro Z9 g1 g2 g3
              have d3 : Z9 (b + 1) 3 = Z8 (b + 1) 3 := g2.2.2 3 (by decide) (by decide)
              refine ih _ Z9 g1 hLI.ln (fun cd2 => ?_) hq2 (fun c h1 h2 h3 => by rw [g2.1 c h1 h2 h3]; exact f0 c h1 h2 h3) (fun i i1 i2 i3 => by rw [g2.2.2 i i2 i3]; exact f1 i i1 i2 i3) (by rw [d3]; exact f3)
              refine ⟨by omega, fun c1 => ?_⟩
              have := g3 c1
              have := hbb.2 c1
              omega
            refine ⟨ht, fun c0 => ⟨fun c1 => ?_, fun c1 => ?_⟩, fun c0 => ?_⟩
            · have ct2 : t = 2 := by omega
              subst ct2
              refine ⟨T.tp, m, q, hL, fun Z9 hz => nxt Z9 ?_ hz.2 (fun e => by omega)⟩
              exact hz.1
            · subst c1
              refine ⟨T.tp, m, q, hL, ?_, fun Z9 hz => nxt Z9 ?_ hz.2.1 (fun _ => hz.2.2)⟩
              · have := hbb.2 rfl; omega
              · exact hz.1
            · subst c0
              refine ⟨T.tp, m, q, hL, fun Z9 hz => nxt Z9 ?_ hz.2 (fun e => by omega)⟩
              exact hz.1
    -- the row is cleared
    have begin0 : ∀ Z7 : Zt, (∀ c, c ≠ b + 3 → Z7 c = Z6 c) → RwT t (begR t r) (Z7 (b + 3)) → (t = 1 → Z7 (b + 3) 0 = 0) → V mX12_text k n 142 [some (r_ b), some (i_ t), some (i_ e), none, none] [] x Z7 Q := by
      intro Z7 g1 g2 g3
      have hMB : MB Z7 b T.tp m := by
        refine ⟨⟨by rw [g1 b (by omega), b6]; rfl, m600, hBR⟩, fun i hi => ?_⟩
        rw [g1 _ (by omega), a6, a4, if_neg (by omega), if_neg (by omega), if_neg (by omega)]
        exact hT.2.2.1 i hi
      refine b_X12_text_142 o ⟨T.tp, m, 0, hMB, ⟨by rw [g1 b (by omega), b6]; rfl, Nat.zero_le m⟩, fun Z8 hA => ?_⟩
      have hst := ML.start (f := f) hMB (by rw [g1 b (by omega), b6]; rfl) (by rw [g1 _ (by omega), a6, a4]; rfl) (by rw [g1 _ (by omega), a6, a4]; rfl) hA
      have hrf := hA.rf
      have r38 : Z8 (b + 3) = Z7 (b + 3) := hrf.r3
      have hi0 := hst.mb.2.2.1
      have hi07 := hi0.2.1
      refine loop (m + 1) (nxF T.tp (f0 f m), begR t r) Z8 ⟨hst, fun _ => by rw [r38]; exact g2⟩ (rd_in (by omega)) (fun _ => ⟨?_, fun c1 => ?_⟩) ?_ (fun c h1 h2 h3 => ?_) (fun i i1 i2 i3 => ?_) ?_
      · show (m : Int) + 1 ≤ nxF T.tp (f0 f m) 7 + ((m + 1 : Nat) : Int)
        omega
      · rw [r38, g3 c1]
        show (0 : Int) ≤ 0 ∧ 0 ≤ nxF T.tp (f0 f m) 7
        omega
      · rw [← hFr]
        unfold rdS
        rw [hm, Int.toNat_natCast]
      · rw [hrf.1 c h1 h2, g1 c h3]; exact c6 c h1 h2
      · rw [hrf.2.2 i i2 i3, g1 _ (by omega), a6, a4, if_neg i3, if_neg i2, if_neg i1]
      · rw [hrf.2.2 3 (by decide) (by decide), g1 _ (by omega), a6, a4]; rfl
    have lp90 : ∀ (M j : Nat) (Z7 : Zt), j + M = 26 → (∀ c, c ≠ b + 3 → Z7 c = Z6 c) → (∀ i : Nat, i < j → Z7 (b + 3) i = 0) → V mX12_text k n 90 [some (r_ b), some (i_ t), some (i_ e), some (i_ (j : Int)), none] [] x Z7 Q := by
      intro M
      induction M with
      | zero =>
        intro j Z7 hj g1 g2
        refine b_X12_text_90 o ⟨⟨by omega, by omega⟩, fun _ => ⟨ht, fun c0 => begin0 Z7 g1 ?_ (fun _ => g2 0 (by omega)), fun c0 Z8 e8 Z9 e9 Z10 e10 Z11 e11 => begin0 Z11 (fun c hc => ?_) ?_ (fun c1 => by omega)⟩, fun c => by omega⟩
        · have eb : ∀ i : Nat, i < 26 → begR t r i = 0 := fun i hi => by unfold begR; rw [if_pos hi, if_neg c0]
          unfold RwT
          rw [if_neg c0]
          by_cases c1 : t = 1
          · rw [if_pos c1, eb 0 (by decide), eb 1 (by decide)]
            exact ⟨g2 0 (by omega), g2 1 (by omega), fun i hi => by omega⟩
          · rw [if_neg c1]
            intro i hi
            rw [eb i (by omega)]; exact g2 i (by omega)
        · rw [e11, up_row _ _ _ _ _ hc, e10, up_row _ _ _ _ _ hc, e9, up_row _ _ _ _ _ hc, e8, up_row _ _ _ _ _ hc]; exact g1 c hc
        · have row : ∀ i : Nat, Z11 (b + 3) i = if i = 5 then 1 else if i = 2 then 1 else if i = 1 then 4 else if i = 0 then 7 else Z7 (b + 3) i := fun i => by rw [e11, up_at, e10, up_at, e9, up_at, e8, up_at]
          have eb : ∀ i : Nat, i < 26 → begR t r i = if i = 0 then 7 else if i = 1 then 3 else if i = 2 then 1 else if i = 5 then 1 else 0 := fun i hi => by unfold begR; rw [if_pos hi, if_pos c0]
          unfold RwT
          rw [if_pos c0, eb 0 (by decide), eb 1 (by decide)]
          refine ⟨by rw [row]; rfl, by rw [row]; rfl, fun i hi => ?_⟩
          have hi : (i : Int) ≤ 3 := hi
          have hc : i = 0 ∨ i = 1 ∨ i = 2 ∨ i = 3 := by omega
          rcases hc with rfl | rfl | rfl | rfl
          · rw [row, eb _ (by decide)]; rfl
          · rw [row, eb _ (by decide)]; exact g2 3 (by omega)
          · rw [row, eb _ (by decide)]; exact g2 4 (by omega)
          · rw [row, eb _ (by decide)]; rfl
      | succ M ih =>
        intro j Z7 hj g1 g2
        refine b_X12_text_90 o ⟨⟨by omega, by omega⟩, fun c => by omega, fun _ => ⟨by omega, fun Z8 e8 => ?_⟩⟩
        rw [Int.toNat_natCast] at e8
        refine ih (j + 1) Z8 (by omega) (fun c hc => by rw [e8, up_row _ _ _ _ _ hc]; exact g1 c hc) (fun i hi => ?_)
        rw [e8, up_at]
        by_cases ci : i = j
        · rw [if_pos ci]
        · rw [if_neg ci]; exact g2 i (by omega)
    exact lp90 26 0 Z6 rfl (fun _ _ => rfl) (fun i hi => absurd hi (Nat.not_lt_zero i))
  refine ⟨⟨ht, rg_z, ⟨by decide, by decide⟩⟩, fun r1 h1 => ⟨⟨by omega, by omega⟩, fun c => bad (fun q => by have := q.1; omega), fun c => ?_⟩⟩
  have htr : 0 ≤ t ∧ t < 3 := by omega
  obtain ⟨c9, c8, c7⟩ := hctm t.toNat (by omega)
  have ct4 : Z4 (b + 1) t.toNat = T.ct t.toNat := by rw [a4, if_neg (by omega), if_neg (by omega), if_neg (by omega)]; exact c9
  have hmst : mstr t = if t = 0 then 2 else 3 := rfl
  rw [ct4]
  refine ⟨he, fun ce => ⟨htr, ⟨by omega, by omega⟩, fun r2 h2 => ⟨⟨by omega, by omega⟩, fun d => good ⟨htr, Or.inr ⟨ce, by omega⟩⟩, fun d => bad (fun q => by have := q.2; omega)⟩⟩, fun ce => ⟨by omega, by omega, ht, fun c0 => b_X12_text_60 ⟨⟨by omega, by omega⟩, ⟨by omega, by omega⟩, fun d => good ⟨htr, Or.inl ⟨ce, ?_⟩⟩, fun d => bad (fun q => ?_)⟩, fun c0 => b_X12_text_60 ⟨⟨by omega, by omega⟩, ⟨by omega, by omega⟩, fun d => good ⟨htr, Or.inl ⟨ce, ?_⟩⟩, fun d => bad (fun q => ?_)⟩⟩⟩
  · rw [hmst, if_neg c0]; exact d
  · have := q.2
    rw [hmst, if_neg c0] at this; omega
  · rw [hmst, if_pos c0]; exact d
  · have := q.2
    rw [hmst, if_pos c0] at this; omega
