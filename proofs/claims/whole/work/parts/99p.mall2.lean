theorem dX12_allClasses_0 : decode cX12_allClasses 0 = .ok (.aload_n 0, 1) := by decide +kernel
theorem dX12_allClasses_1 : decode cX12_allClasses 1 = .ok (.iconst 0, 1) := by decide +kernel
theorem dX12_allClasses_2 : decode cX12_allClasses 2 = .ok (.invokevirtual 360, 3) := by decide +kernel
theorem dX12_allClasses_5 : decode cX12_allClasses 5 = .ok (.aload_n 0, 1) := by decide +kernel
theorem dX12_allClasses_6 : decode cX12_allClasses 6 = .ok (.iconst 1, 1) := by decide +kernel
theorem dX12_allClasses_7 : decode cX12_allClasses 7 = .ok (.putfield 405, 3) := by decide +kernel
theorem dX12_allClasses_10 : decode cX12_allClasses 10 = .ok (.iconst 1, 1) := by decide +kernel
theorem dX12_allClasses_11 : decode cX12_allClasses 11 = .ok (.istore_n 1, 1) := by decide +kernel
theorem dX12_allClasses_12 : decode cX12_allClasses 12 = .ok (.iload_n 1, 1) := by decide +kernel
theorem dX12_allClasses_13 : decode cX12_allClasses 13 = .ok (.aload_n 0, 1) := by decide +kernel
theorem dX12_allClasses_14 : decode cX12_allClasses 14 = .ok (.getfield 221, 3) := by decide +kernel
theorem dX12_allClasses_17 : decode cX12_allClasses 17 = .ok (.if_icmp .gt 150, 3) := by decide +kernel
theorem dX12_allClasses_20 : decode cX12_allClasses 20 = .ok (.iconst 1, 1) := by decide +kernel
theorem dX12_allClasses_21 : decode cX12_allClasses 21 = .ok (.istore_n 2, 1) := by decide +kernel
theorem dX12_allClasses_22 : decode cX12_allClasses 22 = .ok (.iconst 0, 1) := by decide +kernel
theorem dX12_allClasses_23 : decode cX12_allClasses 23 = .ok (.istore_n 3, 1) := by decide +kernel
theorem dX12_allClasses_24 : decode cX12_allClasses 24 = .ok (.iload_n 3, 1) := by decide +kernel
theorem dX12_allClasses_25 : decode cX12_allClasses 25 = .ok (.iconst 2, 1) := by decide +kernel
theorem dX12_allClasses_26 : decode cX12_allClasses 26 = .ok (.iload_n 1, 1) := by decide +kernel
theorem dX12_allClasses_27 : decode cX12_allClasses 27 = .ok (.imul, 1) := by decide +kernel
theorem dX12_allClasses_28 : decode cX12_allClasses 28 = .ok (.if_icmp .ge 16, 3) := by decide +kernel
theorem dX12_allClasses_31 : decode cX12_allClasses 31 = .ok (.iload_n 2, 1) := by decide +kernel
theorem dX12_allClasses_32 : decode cX12_allClasses 32 = .ok (.aload_n 0, 1) := by decide +kernel
theorem dX12_allClasses_33 : decode cX12_allClasses 33 = .ok (.getfield 179, 3) := by decide +kernel
theorem dX12_allClasses_36 : decode cX12_allClasses 36 = .ok (.imul, 1) := by decide +kernel
theorem dX12_allClasses_37 : decode cX12_allClasses 37 = .ok (.istore_n 2, 1) := by decide +kernel
theorem dX12_allClasses_38 : decode cX12_allClasses 38 = .ok (.iinc 3 1, 3) := by decide +kernel
theorem dX12_allClasses_41 : decode cX12_allClasses 41 = .ok (.goto (-17), 3) := by decide +kernel
theorem dX12_allClasses_44 : decode cX12_allClasses 44 = .ok (.iconst 0, 1) := by decide +kernel
theorem dX12_allClasses_45 : decode cX12_allClasses 45 = .ok (.istore_n 3, 1) := by decide +kernel
theorem dX12_allClasses_46 : decode cX12_allClasses 46 = .ok (.iload_n 3, 1) := by decide +kernel
theorem dX12_allClasses_47 : decode cX12_allClasses 47 = .ok (.iload_n 2, 1) := by decide +kernel
theorem dX12_allClasses_48 : decode cX12_allClasses 48 = .ok (.if_icmp .ge 113, 3) := by decide +kernel
theorem dX12_allClasses_51 : decode cX12_allClasses 51 = .ok (.iconst 5, 1) := by decide +kernel
theorem dX12_allClasses_52 : decode cX12_allClasses 52 = .ok (.aload_n 0, 1) := by decide +kernel
theorem dX12_allClasses_53 : decode cX12_allClasses 53 = .ok (.getfield 405, 3) := by decide +kernel
theorem dX12_allClasses_56 : decode cX12_allClasses 56 = .ok (.imul, 1) := by decide +kernel
theorem dX12_allClasses_57 : decode cX12_allClasses 57 = .ok (.istore 4, 2) := by decide +kernel
theorem dX12_allClasses_59 : decode cX12_allClasses 59 = .ok (.aload_n 0, 1) := by decide +kernel
theorem dX12_allClasses_60 : decode cX12_allClasses 60 = .ok (.iload 4, 2) := by decide +kernel
theorem dX12_allClasses_62 : decode cX12_allClasses 62 = .ok (.invokevirtual 360, 3) := by decide +kernel
theorem dX12_allClasses_65 : decode cX12_allClasses 65 = .ok (.aload_n 0, 1) := by decide +kernel
theorem dX12_allClasses_66 : decode cX12_allClasses 66 = .ok (.getfield 69, 3) := by decide +kernel
theorem dX12_allClasses_69 : decode cX12_allClasses 69 = .ok (.iload 4, 2) := by decide +kernel
theorem dX12_allClasses_71 : decode cX12_allClasses 71 = .ok (.iload_n 1, 1) := by decide +kernel
theorem dX12_allClasses_72 : decode cX12_allClasses 72 = .ok (.iastore, 1) := by decide +kernel
theorem dX12_allClasses_73 : decode cX12_allClasses 73 = .ok (.iload_n 3, 1) := by decide +kernel
theorem dX12_allClasses_74 : decode cX12_allClasses 74 = .ok (.istore 5, 2) := by decide +kernel
theorem dX12_allClasses_76 : decode cX12_allClasses 76 = .ok (.iconst 0, 1) := by decide +kernel
theorem dX12_allClasses_77 : decode cX12_allClasses 77 = .ok (.istore 6, 2) := by decide +kernel
theorem dX12_allClasses_79 : decode cX12_allClasses 79 = .ok (.iload 6, 2) := by decide +kernel
theorem dX12_allClasses_81 : decode cX12_allClasses 81 = .ok (.iconst 2, 1) := by decide +kernel
theorem dX12_allClasses_82 : decode cX12_allClasses 82 = .ok (.iload_n 1, 1) := by decide +kernel
theorem dX12_allClasses_83 : decode cX12_allClasses 83 = .ok (.imul, 1) := by decide +kernel
theorem dX12_allClasses_84 : decode cX12_allClasses 84 = .ok (.if_icmp .ge 52, 3) := by decide +kernel
theorem dX12_allClasses_87 : decode cX12_allClasses 87 = .ok (.aload_n 0, 1) := by decide +kernel
theorem dX12_allClasses_88 : decode cX12_allClasses 88 = .ok (.getfield 69, 3) := by decide +kernel
theorem dX12_allClasses_91 : decode cX12_allClasses 91 = .ok (.iload 4, 2) := by decide +kernel
theorem dX12_allClasses_93 : decode cX12_allClasses 93 = .ok (.iload 6, 2) := by decide +kernel
theorem dX12_allClasses_95 : decode cX12_allClasses 95 = .ok (.iload_n 1, 1) := by decide +kernel
theorem dX12_allClasses_96 : decode cX12_allClasses 96 = .ok (.if_icmp .ge 10, 3) := by decide +kernel
theorem dX12_allClasses_99 : decode cX12_allClasses 99 = .ok (.iconst 1, 1) := by decide +kernel
theorem dX12_allClasses_100 : decode cX12_allClasses 100 = .ok (.iload 6, 2) := by decide +kernel
theorem dX12_allClasses_102 : decode cX12_allClasses 102 = .ok (.iadd, 1) := by decide +kernel
theorem dX12_allClasses_103 : decode cX12_allClasses 103 = .ok (.goto 9, 3) := by decide +kernel
theorem dX12_allClasses_106 : decode cX12_allClasses 106 = .ok (.iconst 3, 1) := by decide +kernel
theorem dX12_allClasses_107 : decode cX12_allClasses 107 = .ok (.iload 6, 2) := by decide +kernel
theorem dX12_allClasses_109 : decode cX12_allClasses 109 = .ok (.iadd, 1) := by decide +kernel
theorem dX12_allClasses_110 : decode cX12_allClasses 110 = .ok (.iload_n 1, 1) := by decide +kernel
theorem dX12_allClasses_111 : decode cX12_allClasses 111 = .ok (.isub, 1) := by decide +kernel
theorem dX12_allClasses_112 : decode cX12_allClasses 112 = .ok (.iadd, 1) := by decide +kernel
theorem dX12_allClasses_113 : decode cX12_allClasses 113 = .ok (.iload 5, 2) := by decide +kernel
theorem dX12_allClasses_115 : decode cX12_allClasses 115 = .ok (.aload_n 0, 1) := by decide +kernel
theorem dX12_allClasses_116 : decode cX12_allClasses 116 = .ok (.getfield 179, 3) := by decide +kernel
theorem dX12_allClasses_119 : decode cX12_allClasses 119 = .ok (.irem, 1) := by decide +kernel
theorem dX12_allClasses_120 : decode cX12_allClasses 120 = .ok (.iastore, 1) := by decide +kernel
theorem dX12_allClasses_121 : decode cX12_allClasses 121 = .ok (.iload 5, 2) := by decide +kernel
theorem dX12_allClasses_123 : decode cX12_allClasses 123 = .ok (.aload_n 0, 1) := by decide +kernel
theorem dX12_allClasses_124 : decode cX12_allClasses 124 = .ok (.getfield 179, 3) := by decide +kernel
theorem dX12_allClasses_127 : decode cX12_allClasses 127 = .ok (.idiv, 1) := by decide +kernel
theorem dX12_allClasses_128 : decode cX12_allClasses 128 = .ok (.istore 5, 2) := by decide +kernel
theorem dX12_allClasses_130 : decode cX12_allClasses 130 = .ok (.iinc 6 1, 3) := by decide +kernel
theorem dX12_allClasses_133 : decode cX12_allClasses 133 = .ok (.goto (-54), 3) := by decide +kernel
theorem dX12_allClasses_136 : decode cX12_allClasses 136 = .ok (.aload_n 0, 1) := by decide +kernel
theorem dX12_allClasses_137 : decode cX12_allClasses 137 = .ok (.iload 4, 2) := by decide +kernel
theorem dX12_allClasses_139 : decode cX12_allClasses 139 = .ok (.invokevirtual 408, 3) := by decide +kernel
theorem dX12_allClasses_142 : decode cX12_allClasses 142 = .ok (.ifCond .eq 13, 3) := by decide +kernel
theorem dX12_allClasses_145 : decode cX12_allClasses 145 = .ok (.aload_n 0, 1) := by decide +kernel
theorem dX12_allClasses_146 : decode cX12_allClasses 146 = .ok (.dup, 1) := by decide +kernel
theorem dX12_allClasses_147 : decode cX12_allClasses 147 = .ok (.getfield 405, 3) := by decide +kernel
theorem dX12_allClasses_150 : decode cX12_allClasses 150 = .ok (.iconst 1, 1) := by decide +kernel
theorem dX12_allClasses_151 : decode cX12_allClasses 151 = .ok (.iadd, 1) := by decide +kernel
theorem dX12_allClasses_152 : decode cX12_allClasses 152 = .ok (.putfield 405, 3) := by decide +kernel
theorem dX12_allClasses_155 : decode cX12_allClasses 155 = .ok (.iinc 3 1, 3) := by decide +kernel
theorem dX12_allClasses_158 : decode cX12_allClasses 158 = .ok (.goto (-112), 3) := by decide +kernel
theorem dX12_allClasses_161 : decode cX12_allClasses 161 = .ok (.iinc 1 1, 3) := by decide +kernel
theorem dX12_allClasses_164 : decode cX12_allClasses 164 = .ok (.goto (-152), 3) := by decide +kernel
theorem dX12_allClasses_167 : decode cX12_allClasses 167 = .ok (.return_, 1) := by decide +kernel
set_option maxRecDepth 20000 in
theorem b_X12_allClasses_0 {k n : Nat} {x : Wx} {Z : Zt} {Q : Option Value → Wx → Zt → Prop} {a0 : Nat} (o_a0 : Is12 x a0)
    (h : (0 ≤ (0 : Int) ∧ (0 : Int) ≤ 2995) ∧ (∀ (Z'1 : Zt), ((∀ i : Nat, i < 5 → Z'1 (a0 + 20) ((0 : Int).toNat + i) = 0) ∧ KF a0 (0 : Int).toNat Z Z'1) → (∀ Z1 : Zt, Z1 = up Z'1 a0 36 1 → (V mX12_allClasses k n 12 [some (r_ a0), some (i_ 1), none, none, none, none, none] [] x Z1 Q)))) :
    V mX12_allClasses k n 0 [some (r_ a0), none, none, none, none, none, none] [] x Z Q :=
  V_aload_n dX12_allClasses_0 rfl (V_iconst dX12_allClasses_1 (V_callV (k' := 0) (n' := 0) (t := 12) (q := (RX12, TX12, 46)) [i_ 0] [] okX12_noClass o_a0.1 rfl rfl lm_12_360 liX12_noClass lqX12_noClass (Nat.le_of_ble_eq_true rfl) (Nat.le_of_ble_eq_true rfl) (Nat.le_of_ble_eq_true rfl) (cat_of rfl) (Nat.le_of_ble_eq_true rfl) (Nat.zero_le _) (Nat.zero_le _) rfl dX12_allClasses_2 (sp_X12_noClass o_a0 h.1 (fun Z'1 p1 => V_aload_n dX12_allClasses_5 rfl (V_iconst dX12_allClasses_6 (P_12_36 o_a0.1 lf_12_405 dX12_allClasses_7 (V_nmZ (fun Z1 eZ1 => V_iconst dX12_allClasses_10 (V_istore_n (lv' := [some (r_ a0), some (i_ 1), none, none, none, none, none]) dX12_allClasses_11 (Nat.le_of_ble_eq_true rfl) rfl (V_msk [true, true, false, false, false, false, false] rfl ((h.2 Z'1 p1) Z1 eZ1)))))))))))
set_option maxRecDepth 20000 in
theorem b_X12_allClasses_12 {k n : Nat} {x : Wx} {Z : Zt} {Q : Option Value → Wx → Zt → Prop} {a0 : Nat} {v1 : Int} (o_a0 : Is12 x a0)
    (h : Rg v1 ∧ Rg (Z a0 12) ∧ (((Z a0 12 < v1) → (Q none x Z)) ∧ ((v1 ≤ Z a0 12) → (V mX12_allClasses k n 24 [some (r_ a0), some (i_ v1), some (i_ 1), some (i_ 0), none, none, none] [] x Z Q)))) :
    V mX12_allClasses k n 12 [some (r_ a0), some (i_ v1), none, none, none, none, none] [] x Z Q :=
  V_iload_n dX12_allClasses_12 rfl (V_aload_n dX12_allClasses_13 rfl (G_12_12 o_a0.1 lf_12_221 dX12_allClasses_14 (V_icmp_gt (tgt := 167) dX12_allClasses_17 rfl h.1 h.2.1 (fun c1 => V_ret dX12_allClasses_167 rfl (h.2.2.1 c1)) (fun c1 => V_iconst dX12_allClasses_20 (V_istore_n (lv' := [some (r_ a0), some (i_ v1), some (i_ 1), none, none, none, none]) dX12_allClasses_21 (Nat.le_of_ble_eq_true rfl) rfl (V_iconst dX12_allClasses_22 (V_istore_n (lv' := [some (r_ a0), some (i_ v1), some (i_ 1), some (i_ 0), none, none, none]) dX12_allClasses_23 (Nat.le_of_ble_eq_true rfl) rfl (V_msk [true, true, true, true, false, false, false] rfl (h.2.2.2 c1)))))))))
set_option maxRecDepth 20000 in
theorem b_X12_allClasses_24 {k n : Nat} {x : Wx} {Z : Zt} {Q : Option Value → Wx → Zt → Prop} {a0 : Nat} {v1 : Int} {v2 : Int} {v3 : Int} (o_a0 : Is12 x a0)
    (h : Rg v3 ∧ Rg (2 * v1) ∧ (((2 * v1 ≤ v3) → (V mX12_allClasses k n 46 [some (r_ a0), some (i_ v1), some (i_ v2), some (i_ 0), none, none, none] [] x Z Q)) ∧ ((v3 < 2 * v1) → (V mX12_allClasses k n 24 [some (r_ a0), some (i_ v1), some (i_ (v2 * (Z a0 11))), some (i_ (v3 + 1)), none, none, none] [] x Z Q)))) :
    V mX12_allClasses k n 24 [some (r_ a0), some (i_ v1), some (i_ v2), some (i_ v3), none, none, none] [] x Z Q :=
  V_iload_n dX12_allClasses_24 rfl (V_iconst dX12_allClasses_25 (V_iload_n dX12_allClasses_26 rfl (V_imul dX12_allClasses_27 (V_icmp_ge (tgt := 44) dX12_allClasses_28 rfl h.1 h.2.1 (fun c1 => V_iconst dX12_allClasses_44 (V_istore_n (lv' := [some (r_ a0), some (i_ v1), some (i_ v2), some (i_ 0), none, none, none]) dX12_allClasses_45 (Nat.le_of_ble_eq_true rfl) rfl (V_msk [true, true, true, true, false, false, false] rfl (h.2.2.1 c1)))) (fun c1 => V_iload_n dX12_allClasses_31 rfl (V_aload_n dX12_allClasses_32 rfl (G_12_11 o_a0.1 lf_12_179 dX12_allClasses_33 (V_imul dX12_allClasses_36 (V_istore_n (lv' := [some (r_ a0), some (i_ v1), some (i_ (v2 * (Z a0 11))), some (i_ v3), none, none, none]) dX12_allClasses_37 (Nat.le_of_ble_eq_true rfl) rfl (V_iinc (lv' := [some (r_ a0), some (i_ v1), some (i_ (v2 * (Z a0 11))), some (i_ (v3 + 1)), none, none, none]) dX12_allClasses_38 rfl (Nat.le_of_ble_eq_true rfl) rfl (V_goto (tgt := 24) dX12_allClasses_41 rfl (V_msk [true, true, true, true, false, false, false] rfl (h.2.2.2 c1)))))))))))))
set_option maxRecDepth 20000 in
theorem b_X12_allClasses_46 {k n : Nat} {x : Wx} {Z : Zt} {Q : Option Value → Wx → Zt → Prop} {a0 : Nat} {v1 : Int} {v2 : Int} {v3 : Int} (o_a0 : Is12 x a0)
    (h : Rg v3 ∧ Rg v2 ∧ (((v2 ≤ v3) → (V mX12_allClasses k n 12 [some (r_ a0), some (i_ (v1 + 1)), none, none, none, none, none] [] x Z Q)) ∧ ((v3 < v2) → ((0 ≤ (5 * (Z a0 36)) ∧ (5 * (Z a0 36)) ≤ 2995) ∧ (∀ (Z'1 : Zt), ((∀ i : Nat, i < 5 → Z'1 (a0 + 20) ((5 * (Z a0 36)).toNat + i) = 0) ∧ KF a0 (5 * (Z a0 36)).toNat Z Z'1) → (0 ≤ 5 * (Z a0 36) ∧ 5 * (Z a0 36) < 3000 ∧ (∀ Z1 : Zt, Z1 = up Z'1 (a0 + 20) (5 * (Z a0 36)).toNat v1 → (V mX12_allClasses k n 79 [some (r_ a0), some (i_ v1), some (i_ v2), some (i_ v3), some (i_ (5 * (Z a0 36))), some (i_ v3), some (i_ 0)] [] x Z1 Q)))))))) :
    V mX12_allClasses k n 46 [some (r_ a0), some (i_ v1), some (i_ v2), some (i_ v3), none, none, none] [] x Z Q :=
  V_iload_n dX12_allClasses_46 rfl (V_iload_n dX12_allClasses_47 rfl (V_icmp_ge (tgt := 161) dX12_allClasses_48 rfl h.1 h.2.1 (fun c1 => V_iinc (lv' := [some (r_ a0), some (i_ (v1 + 1)), some (i_ v2), some (i_ v3), none, none, none]) dX12_allClasses_161 rfl (Nat.le_of_ble_eq_true rfl) rfl (V_goto (tgt := 12) dX12_allClasses_164 rfl (V_msk [true, true, false, false, false, false, false] rfl (h.2.2.1 c1)))) (fun c1 => V_iconst dX12_allClasses_51 (V_aload_n dX12_allClasses_52 rfl (G_12_36 o_a0.1 lf_12_405 dX12_allClasses_53 (V_imul dX12_allClasses_56 (V_istore (lv' := [some (r_ a0), some (i_ v1), some (i_ v2), some (i_ v3), some (i_ (5 * (Z a0 36))), none, none]) dX12_allClasses_57 (Nat.le_of_ble_eq_true rfl) rfl (V_aload_n dX12_allClasses_59 rfl (V_iload dX12_allClasses_60 rfl (V_callV (k' := 0) (n' := 0) (t := 12) (q := (RX12, TX12, 46)) [i_ (5 * (Z a0 36))] [] okX12_noClass o_a0.1 rfl rfl lm_12_360 liX12_noClass lqX12_noClass (Nat.le_of_ble_eq_true rfl) (Nat.le_of_ble_eq_true rfl) (Nat.le_of_ble_eq_true rfl) (cat_of rfl) (Nat.le_of_ble_eq_true rfl) (Nat.zero_le _) (Nat.zero_le _) rfl dX12_allClasses_62 (sp_X12_noClass o_a0 (h.2.2.2 c1).1 (fun Z'1 p1 => V_aload_n dX12_allClasses_65 rfl (G_12_34 o_a0.1 o_a0.qR34 lf_12_69 dX12_allClasses_66 (V_iload dX12_allClasses_69 rfl (V_iload_n dX12_allClasses_71 rfl (V_iast (t := 100) o_a0.qK34 (by decide) (by decide) rfl ((h.2.2.2 c1).2 Z'1 p1).1 ((h.2.2.2 c1).2 Z'1 p1).2.1 (Nat.le_of_ble_eq_true rfl) dX12_allClasses_72 (V_nmZ (fun Z1 eZ1 => V_iload_n dX12_allClasses_73 rfl (V_istore (lv' := [some (r_ a0), some (i_ v1), some (i_ v2), some (i_ v3), some (i_ (5 * (Z a0 36))), some (i_ v3), none]) dX12_allClasses_74 (Nat.le_of_ble_eq_true rfl) rfl (V_iconst dX12_allClasses_76 (V_istore (lv' := [some (r_ a0), some (i_ v1), some (i_ v2), some (i_ v3), some (i_ (5 * (Z a0 36))), some (i_ v3), some (i_ 0)]) dX12_allClasses_77 (Nat.le_of_ble_eq_true rfl) rfl (V_msk [true, true, true, true, true, true, true] rfl (((h.2.2.2 c1).2 Z'1 p1).2.2 Z1 eZ1)))))))))))))))))))))))
set_option maxRecDepth 20000 in
theorem b_X12_allClasses_79 {k n : Nat} {x : Wx} {Z : Zt} {Q : Option Value → Wx → Zt → Prop} {a0 : Nat} {v1 : Int} {v2 : Int} {v3 : Int} {v4 : Int} {v5 : Int} {v6 : Int} (o_a0 : Is12 x a0)
    (h : Rg v6 ∧ Rg (2 * v1) ∧ (((2 * v1 ≤ v6) → (∃ g1 : Int, (∃ g2 : Nat → Int, (∃ g3 : UV, (MF Z a0 g1 g2 ∧ RP g1 (gen g2) g3 ∧ (0 ≤ v4 ∧ v4 ≤ 2995) ∧ KC Z a0 v4.toNat g3 ∧ (∀ (Z'1 : Zt), (MF Z'1 a0 g1 g2 ∧ Oth Z Z'1 (O4 a0)) → (Rg (bI (vldB g1 g2 g3)) ∧ ((((bI (vldB g1 g2 g3)) = 0) → (V mX12_allClasses k n 155 [some (r_ a0), some (i_ v1), some (i_ v2), some (i_ v3), none, none, none] [] x Z'1 Q)) ∧ (((bI (vldB g1 g2 g3)) ≠ 0) → (∀ Z1 : Zt, Z1 = up Z'1 a0 36 ((Z'1 a0 36) + 1) → (V mX12_allClasses k n 155 [some (r_ a0), some (i_ v1), some (i_ v2), some (i_ v3), none, none, none] [] x Z1 Q))))))))))) ∧ ((v6 < 2 * v1) → (Rg v1 ∧ (((v1 ≤ v6) → (V mX12_allClasses k n 112 [some (r_ a0), some (i_ v1), some (i_ v2), some (i_ v3), some (i_ v4), some (i_ v5), some (i_ v6)] [i_ ((3 + v6) - v1), i_ v4, r_ (a0 + 20)] x Z Q)) ∧ ((v6 < v1) → (V mX12_allClasses k n 112 [some (r_ a0), some (i_ v1), some (i_ v2), some (i_ v3), some (i_ v4), some (i_ v5), some (i_ v6)] [i_ (1 + v6), i_ v4, r_ (a0 + 20)] x Z Q))))))) :
    V mX12_allClasses k n 79 [some (r_ a0), some (i_ v1), some (i_ v2), some (i_ v3), some (i_ v4), some (i_ v5), some (i_ v6)] [] x Z Q :=
  V_iload dX12_allClasses_79 rfl (V_iconst dX12_allClasses_81 (V_iload_n dX12_allClasses_82 rfl (V_imul dX12_allClasses_83 (V_icmp_ge (tgt := 136) dX12_allClasses_84 rfl h.1 h.2.1 (fun c1 => V_aload_n dX12_allClasses_136 rfl (V_iload dX12_allClasses_137 rfl (Exists.elim (h.2.2.1 c1) (fun g1 w1 => Exists.elim w1 (fun g2 w2 => Exists.elim w2 (fun g3 w3 => V_callV (k' := 0) (n' := 0) (t := 12) (q := (RX12, TX12, 46)) [i_ v4] [] okX12_isClass o_a0.1 rfl rfl lm_12_408 liX12_isClass lqX12_isClass (Nat.le_of_ble_eq_true rfl) (Nat.le_of_ble_eq_true rfl) (Nat.le_of_ble_eq_true rfl) (cat_of rfl) (Nat.le_of_ble_eq_true rfl) (Nat.zero_le _) (Nat.zero_le _) rfl dX12_allClasses_139 (sp_X12_isClass o_a0 w3.1 w3.2.1 w3.2.2.1 w3.2.2.2.1 (fun Z'1 p1 => V_if_eq (tgt := 155) dX12_allClasses_142 rfl (w3.2.2.2.2 Z'1 p1).1 (fun c2 => V_msk [true, true, true, true, false, false, false] rfl ((w3.2.2.2.2 Z'1 p1).2.1 c2)) (fun c2 => V_aload_n dX12_allClasses_145 rfl (V_dup dX12_allClasses_146 rfl (G_12_36 o_a0.1 lf_12_405 dX12_allClasses_147 (V_iconst dX12_allClasses_150 (V_iadd dX12_allClasses_151 (P_12_36 o_a0.1 lf_12_405 dX12_allClasses_152 (V_nmZ (fun Z1 eZ1 => V_msk [true, true, true, true, false, false, false] rfl (((w3.2.2.2.2 Z'1 p1).2.2 c2) Z1 eZ1))))))))))))))))) (fun c1 => V_aload_n dX12_allClasses_87 rfl (G_12_34 o_a0.1 o_a0.qR34 lf_12_69 dX12_allClasses_88 (V_iload dX12_allClasses_91 rfl (V_iload dX12_allClasses_93 rfl (V_iload_n dX12_allClasses_95 rfl (V_icmp_ge (tgt := 106) dX12_allClasses_96 rfl h.1 (h.2.2.2 c1).1 (fun c3 => V_iconst dX12_allClasses_106 (V_iload dX12_allClasses_107 rfl (V_iadd dX12_allClasses_109 (V_iload_n dX12_allClasses_110 rfl (V_isub dX12_allClasses_111 (V_msk [true, true, true, true, true, true, true] rfl ((h.2.2.2 c1).2.1 c3))))))) (fun c3 => V_iconst dX12_allClasses_99 (V_iload dX12_allClasses_100 rfl (V_iadd dX12_allClasses_102 (V_goto (tgt := 112) dX12_allClasses_103 rfl (V_msk [true, true, true, true, true, true, true] rfl ((h.2.2.2 c1).2.2 c3))))))))))))))))
set_option maxRecDepth 20000 in
theorem b_X12_allClasses_112 {k n : Nat} {x : Wx} {Z : Zt} {Q : Option Value → Wx → Zt → Prop} {a0 : Nat} {v1 : Int} {v2 : Int} {v3 : Int} {v4 : Int} {v5 : Int} {v6 : Int} {b0_ : Nat} {t1 : Int} {t2 : Int} (o_a0 : Is12 x a0) (s_b0 : x.1 b0_ = some (100, 3000))
    (h : Rg v5 ∧ Rg (Z a0 11) ∧ 0 < Z a0 11 ∧ (0 ≤ t1 + t2 ∧ t1 + t2 < 3000 ∧ (∀ Z1 : Zt, Z1 = up Z b0_ (t1 + t2).toNat (Int.tmod v5 (Z a0 11)) → (Rg (Z1 a0 11) ∧ 0 < Z1 a0 11 ∧ (V mX12_allClasses k n 79 [some (r_ a0), some (i_ v1), some (i_ v2), some (i_ v3), some (i_ v4), some (i_ (Int.tdiv v5 (Z1 a0 11))), some (i_ (v6 + 1))] [] x Z1 Q))))) :
    V mX12_allClasses k n 112 [some (r_ a0), some (i_ v1), some (i_ v2), some (i_ v3), some (i_ v4), some (i_ v5), some (i_ v6)] [i_ t2, i_ t1, r_ b0_] x Z Q :=
  V_iadd dX12_allClasses_112 (V_iload dX12_allClasses_113 rfl (V_aload_n dX12_allClasses_115 rfl (G_12_11 o_a0.1 lf_12_179 dX12_allClasses_116 (V_irem dX12_allClasses_119 h.1 h.2.1 h.2.2.1 (V_iast (t := 100) s_b0 (by decide) (by decide) rfl h.2.2.2.1 h.2.2.2.2.1 (Nat.le_of_ble_eq_true rfl) dX12_allClasses_120 (V_nmZ (fun Z1 eZ1 => V_iload dX12_allClasses_121 rfl (V_aload_n dX12_allClasses_123 rfl (G_12_11 o_a0.1 lf_12_179 dX12_allClasses_124 (V_idiv dX12_allClasses_127 h.1 (h.2.2.2.2.2 Z1 eZ1).1 (h.2.2.2.2.2 Z1 eZ1).2.1 (V_istore (lv' := [some (r_ a0), some (i_ v1), some (i_ v2), some (i_ v3), some (i_ v4), some (i_ (Int.tdiv v5 (Z1 a0 11))), some (i_ v6)]) dX12_allClasses_128 (Nat.le_of_ble_eq_true rfl) rfl (V_iinc (lv' := [some (r_ a0), some (i_ v1), some (i_ v2), some (i_ v3), some (i_ v4), some (i_ (Int.tdiv v5 (Z1 a0 11))), some (i_ (v6 + 1))]) dX12_allClasses_130 rfl (Nat.le_of_ble_eq_true rfl) rfl (V_goto (tgt := 79) dX12_allClasses_133 rfl (V_msk [true, true, true, true, true, true, true] rfl (h.2.2.2.2.2 Z1 eZ1).2.2))))))))))))))
set_option maxRecDepth 20000 in
theorem b_X12_allClasses_155 {k n : Nat} {x : Wx} {Z : Zt} {Q : Option Value → Wx → Zt → Prop} {a0 : Nat} {v1 : Int} {v2 : Int} {v3 : Int} 
    (h : V mX12_allClasses k n 46 [some (r_ a0), some (i_ v1), some (i_ v2), some (i_ (v3 + 1)), none, none, none] [] x Z Q) :
    V mX12_allClasses k n 155 [some (r_ a0), some (i_ v1), some (i_ v2), some (i_ v3), none, none, none] [] x Z Q :=
  V_iinc (lv' := [some (r_ a0), some (i_ v1), some (i_ v2), some (i_ (v3 + 1)), none, none, none]) dX12_allClasses_155 rfl (Nat.le_of_ble_eq_true rfl) rfl (V_goto (tgt := 46) dX12_allClasses_158 rfl (V_msk [true, true, true, true, false, false, false] rfl h))
/-- the m-th pair of degree d, its numbers the digits of m -/
def cdU (p : Int) (d : Nat) (m : Int) : UV := if d = 1 then uv1 (m % p) (m / p % p) else uv2 (m % p) (m / p % p) (m / p / p % p) (m / p / p / p % p)
def alL (p : Int) (F : Nat → Int) (d : Nat) : Nat → Nat → List UV
  | 0, _ => []
  | m + 1, c => (if vldB p F (cdU p d c) = true then [cdU p d c] else []) ++ alL p F d m (c + 1)
/-- all classes, as the reference goes through them -/
def mAl (p : Int) (F : Nat → Int) : List UV := [czero] ++ alL p F 1 (p * p).toNat 0 ++ (if gen F = 2 then alL p F 2 (p * p * p * p).toNat 0 else [])
def AlS (b : Nat) (p : Int) (F : Nat → Int) (L : List UV) (Z0 Z : Zt) : Prop := Z b 36 = L.length ∧ (∀ i : Nat, i < L.length → KC Z b (5 * i) (L.getD i czero)) ∧ MF Z b p F ∧ ∀ d : Nat, d ≠ b → d ≠ b + 4 → d ≠ b + 20 → Z d = Z0 d
theorem cdU_ok {p g : Int} (hp : IsP p) {d : Nat} (hd : d = 1 ∨ d = 2) (hg : (d : Int) ≤ g) (hg2 : g ≤ 2) (m : Int) : RP p g (cdU p d m) := by
  have hpr := hp.rg
  have e : ∀ v : Int, 0 ≤ v % p ∧ v % p < p := fun v => emr v (by omega)
  unfold cdU
  rcases hd with rfl | rfl
  · rw [if_pos rfl]; exact (uv1_ok hp (by omega) (e _) (e _)).1
  · rw [if_neg (by decide)]
    have := (uv2_ok hp (e m) (e (m / p)) (e (m / p / p)) (e (m / p / p / p))).1
    rw [show g = 2 by omega]; exact this
theorem getD_apU (L : List UV) (A : UV) (i : Nat) : (L ++ [A]).getD i czero = if i < L.length then L.getD i czero else if i = L.length then A else czero := by
  rw [List.getD_eq_getElem?_getD, List.getD_eq_getElem?_getD, List.getElem?_append]
  by_cases c : i < L.length
  · rw [if_pos c, if_pos c]
  · rw [if_neg c, if_neg c]
    by_cases e : i = L.length
    · rw [if_pos e, e, Nat.sub_self]; rfl
    · rw [if_neg e, List.getElem?_eq_none (by show 1 ≤ i - L.length; omega)]; rfl
theorem MF.o36 {b : Nat} {Z Z1 : Zt} {p v : Int} {F : Nat → Int} (h : MF Z b p F) (e : Z1 = up Z b 36 v) : MF Z1 b p F := by
  obtain ⟨h1, h2, P, h3, h4⟩ := h
  have r2 : ∀ d : Nat, d ≠ b → Z1 d = Z d := fun d hd => by rw [e, up_row _ _ _ _ _ hd]
  have rb : ∀ i : Nat, i ≠ 36 → Z1 b i = Z b i := fun i hi => by rw [e, up_at, if_neg hi]
  exact ⟨h1.kept ⟨rb _ (by decide), rb _ (by decide), rb _ (by decide)⟩ (r2 _ (by omega)) (r2 _ (by omega)), h2, P, h3.kept (r2 _ (by omega)), h4⟩
theorem sp_X12_allClasses {k n : Nat} {x : Wx} {Z : Zt} {Q : Option Value → Wx → Zt → Prop} {b : Nat} (o : Is12 x b) {p : Int} {F : Nat → Int} (hF : MF Z b p F) (hL : (mAl p F).length ≤ 579) (h : ∀ Z' : Zt, AlS b p F (mAl p F) Z Z' → Q none x Z') : V mX12_allClasses k n 0 [some (r_ b), none, none, none, none, none, none] [] x Z Q := by
  have hC := hF.2.1
  have hp := hC.1
  have hpr := hp.rg
  have hgn := hC.2.2.2.2
  have s20 : x.1 (b + 20) = some (100, 3000) := by
    have := o.2.2.2.2.2.2.2.2.2.2.2.2.2.2.2.2.2.2.2.2.2.2.2.2.2.2.2.2.2.2.2.2.2.2.2.2.2.2.2.2.1
    exact this
  -- one digit
  have st : ∀ (d i c : Nat) (v2 v3 rest : Int) (Z1 : Zt) (ps : Nat), (d = 1 ∨ d = 2) → i < 2 * d → MF Z1 b p F → c + 5 ≤ 3000 → 0 ≤ rest → rest ≤ 30000 → ps = (if i < d then 1 + i else 3 + i - d) → (∀ Z2 : Zt, Z2 = up Z1 (b + 20) (c + ps) (rest % p) → V mX12_allClasses k n 79 [some (r_ b), some (i_ (d : Int)), some (i_ v2), some (i_ v3), some (i_ (c : Int)), some (i_ (rest / p)), some (i_ ((i : Int) + 1))] [] x Z2 Q) → V mX12_allClasses k n 79 [some (r_ b), some (i_ (d : Int)), some (i_ v2), some (i_ v3), some (i_ (c : Int)), some (i_ rest), some (i_ (i : Int))] [] x Z1 Q := by
    intro d i c v2 v3 rest Z1 ps hd hi f1 hc h0 h1 hps nx
    have e11 : Z1 b 11 = p := f1.1.1.1
    have tm : Int.tmod rest p = rest % p := Int.tmod_eq_emod_of_nonneg h0
    have td : Int.tdiv rest p = rest / p := Int.tdiv_eq_ediv_of_nonneg h0
    have go : ∀ t : Int, t = (ps : Int) → V mX12_allClasses k n 112 [some (r_ b), some (i_ (d : Int)), some (i_ v2), some (i_ v3), some (i_ (c : Int)), some (i_ rest), some (i_ (i : Int))] [i_ t, i_ (c : Int), r_ (b + 20)] x Z1 Q := fun t ht => by
      have hps5 : ps < 5 := by rw [hps]; split <;> omega
      refine b_X12_allClasses_112 o s20 ?_
      rw [e11, tm]
      refine ⟨⟨by omega, by omega⟩, ⟨by omega, by omega⟩, by omega, by omega, by omega, fun Z2 e2 => ?_⟩
      rw [show ((c : Int) + t).toNat = c + ps from by omega] at e2
      have e112 : Z2 b 11 = p := by rw [e2, up_row _ _ _ _ _ (by omega)]; exact e11
      rw [e112, td]
      exact ⟨⟨by omega, by omega⟩, by omega, nx Z2 e2⟩
    refine b_X12_allClasses_79 o ⟨⟨by omega, by omega⟩, ⟨by omega, by omega⟩, fun cc => by omega, fun _ => ⟨⟨by omega, by omega⟩, fun c1 => go _ ?_, fun c1 => go _ ?_⟩⟩
    · rw [hps, if_neg (by omega)]; omega
    · rw [hps, if_pos (by omega)]; omega
  -- the pair is told; is it one?
  have en : ∀ (d : Nat) (v2 : Int) (m : Nat) (v5 : Int) (L : List UV) (Z1 : Zt), (d = 1 ∨ d = 2) → (d : Int) ≤ gen F → (L ++ (if vldB p F (cdU p d m) = true then [cdU p d m] else [])).length ≤ 579 → L.length ≤ 579 → KC Z1 b (5 * L.length) (cdU p d m) → AlS b p F L Z Z1 → (∀ Z2 : Zt, AlS b p F (L ++ (if vldB p F (cdU p d m) = true then [cdU p d m] else [])) Z Z2 → V mX12_allClasses k n 46 [some (r_ b), some (i_ (d : Int)), some (i_ v2), some (i_ ((m : Int) + 1)), none, none, none] [] x Z2 Q) → V mX12_allClasses k n 79 [some (r_ b), some (i_ (d : Int)), some (i_ v2), some (i_ (m : Int)), some (i_ ((5 * L.length : Nat) : Int)), some (i_ v5), some (i_ ((2 * d : Nat) : Int))] [] x Z1 Q := by
    intro d v2 m v5 L Z1 hd hdg hl hl2 kc hS nx
    obtain ⟨s1, s2, s3, s4⟩ := id hS
    refine b_X12_allClasses_79 o ⟨⟨by omega, by omega⟩, ⟨by omega, by omega⟩, fun _ => ⟨p, F, cdU p d m, s3, cdU_ok hp hd hdg (by omega) _, by omega, by rw [Int.toNat_natCast]; exact kc, fun Z2 hz2 => ⟨bI_rg _, fun c1 => b_X12_allClasses_155 (nx Z2 ?_), fun c1 Z3 e3 => b_X12_allClasses_155 (nx Z3 ?_)⟩⟩, fun cc => by omega⟩
    · rw [bI_0 c1, if_neg (by decide), List.append_nil]
      exact ⟨by rw [hz2.2 b (by show ¬ (b = b + 4); omega)]; exact s1, fun i hi => (s2 i hi).ro (hz2.2 _ (by show ¬ (b + 20 = b + 4); omega)), hz2.1, fun q q1 q2 q3 => by rw [hz2.2 q q2]; exact s4 q q1 q2 q3⟩
    · rw [bI_1 c1, if_pos rfl]
      have e36 : Z2 b 36 = L.length := by rw [hz2.2 b (by show ¬ (b = b + 4); omega)]; exact s1
      rw [e36] at e3
      have r20 : Z3 (b + 20) = Z1 (b + 20) := by rw [e3, up_row _ _ _ _ _ (by omega)]; exact hz2.2 _ (by show ¬ (b + 20 = b + 4); omega)
      refine ⟨by rw [e3, up_self, List.length_append]; rfl, fun i hi => ?_, hz2.1.o36 e3, fun q q1 q2 q3 => by rw [e3, up_row _ _ _ _ _ q1, hz2.2 q q2]; exact s4 q q1 q2 q3⟩
      rw [List.length_append] at hi
      have hi : i < L.length + 1 := hi
      rw [getD_apU]
      by_cases ci : i < L.length
      · rw [if_pos ci]; exact (s2 i ci).ro r20
      · rw [if_neg ci, if_pos (by omega), show i = L.length from by omega]
        exact kc.ro r20
  -- all of one degree
  have lp : ∀ (d : Nat) (al : Nat) (R : List UV), (d = 1 ∨ d = 2) → (d : Int) ≤ gen F → (al : Int) ≤ 30000 → R.length ≤ 579 → (∀ Z2 : Zt, AlS b p F R Z Z2 → V mX12_allClasses k n 12 [some (r_ b), some (i_ ((d : Int) + 1)), none, none, none, none, none] [] x Z2 Q) → ∀ (m c : Nat) (L : List UV) (Z1 : Zt), c + m = al → L ++ alL p F d m c = R → AlS b p F L Z Z1 → V mX12_allClasses k n 46 [some (r_ b), some (i_ (d : Int)), some (i_ (al : Int)), some (i_ (c : Int)), none, none, none] [] x Z1 Q := by
    intro d al R hd hdg hal hR nx m
    induction m with
    | zero =>
      intro c L Z1 hc he hS
      have he : L ++ [] = R := he
      rw [List.append_nil] at he
      rw [he] at hS
      exact b_X12_allClasses_46 o ⟨⟨by omega, by omega⟩, ⟨by omega, by omega⟩, fun _ => nx Z1 hS, fun cc => by omega⟩
    | succ m ih =>
      intro c L Z1 hc he hS
      unfold alL at he
      rw [← List.append_assoc] at he
      have hl1 : (L ++ (if vldB p F (cdU p d c) = true then [cdU p d c] else [])).length ≤ 579 := by
        rw [← he, List.length_append] at hR; omega
      have hl2 : L.length ≤ 579 := by rw [List.length_append] at hl1; omega
      obtain ⟨s1, s2, s3, s4⟩ := id hS
      refine b_X12_allClasses_46 o ?_
      rw [s1]
      refine ⟨⟨by omega, by omega⟩, ⟨by omega, by omega⟩, fun cc => by omega, fun _ => ⟨by omega, fun Z2 hz2 => ⟨by omega, by omega, fun Z3 e3 => ?_⟩⟩⟩
      rw [show (5 * (L.length : Int)).toNat = 5 * L.length from by omega] at hz2 e3
      rw [show (5 * (L.length : Int)) = ((5 * L.length : Nat) : Int) from by omega]
      have g3 : KF b (5 * L.length) Z1 Z3 := hz2.2.tr (KF.put (i := 0) (by decide) e3)
      have keep : ∀ Z4 : Zt, KF b (5 * L.length) Z1 Z4 → AlS b p F L Z Z4 := fun Z4 g4 => ⟨by rw [g4.1 b (by omega)]; exact s1, fun i hi => (s2 i hi).kf g4 (Or.inl (by omega)), s3.kf g4, fun q q1 q2 q3 => by rw [g4.1 q q3]; exact s4 q q1 q2 q3⟩
      have fin : ∀ Z4 : Zt, KF b (5 * L.length) Z1 Z4 → KC Z4 b (5 * L.length) (cdU p d c) → ∀ v5 : Int, V mX12_allClasses k n 79 [some (r_ b), some (i_ (d : Int)), some (i_ (al : Int)), some (i_ (c : Int)), some (i_ ((5 * L.length : Nat) : Int)), some (i_ v5), some (i_ ((2 * d : Nat) : Int))] [] x Z4 Q := fun Z4 g4 kc v5 => en d al c v5 L Z4 hd hdg hl1 hl2 kc (keep Z4 g4) (fun Z5 hS5 => ih (c + 1) _ Z5 (by omega) he hS5)
      have z2 : ∀ i : Nat, i < 5 → Z3 (b + 20) (5 * L.length + i) = if i = 0 then (d : Int) else 0 := fun i hi => by
        rw [e3, up_at]
        by_cases ci : i = 0
        · rw [if_pos (by omega), if_pos ci]
        · rw [if_neg (by omega), if_neg ci]; exact hz2.1 i hi
      have dv : ∀ v : Int, 0 ≤ v → v ≤ 30000 → 0 ≤ v / p ∧ v / p ≤ 30000 := fun v v0 v1 => ⟨Int.ediv_nonneg v0 (by omega), Int.le_trans (Int.ediv_le_self p v0) v1⟩
      have d0 := dv (c : Int) (by omega) (by omega)
      have d1 := dv _ d0.1 d0.2
      have d2 := dv _ d1.1 d1.2
      have e : ∀ v : Int, 0 ≤ v % p ∧ v % p < p := fun v => emr v (by omega)
      rcases hd with rfl | rfl
      · refine st 1 0 (5 * L.length) al c c Z3 1 (Or.inl rfl) (by decide) (s3.kf g3) (by omega) (by omega) (by omega) rfl (fun Z4 e4 => ?_)
        have g4 := g3.tr (KF.put (i := 1) (by decide) e4)
        refine st 1 1 (5 * L.length) al c _ Z4 3 (Or.inl rfl) (by decide) (s3.kf g4) (by omega) d0.1 d0.2 rfl (fun Z5 e5 => ?_)
        have g5 := g4.tr (KF.put (i := 3) (by decide) e5)
        refine fin Z5 g5 (fun i hi => ?_) _
        have hu := uv1_ok (g := 1) hp (by decide) (e c) (e ((c : Int) / p))
        rw [e5, up_at, e4, up_at, z2 i hi]
        unfold kcl
        have eU : cdU p 1 c = uv1 ((c : Int) % p) ((c : Int) / p % p) := by unfold cdU; rw [if_pos rfl]
        rw [eU, hu.2]
        match i, hi with
        | 0, _ => rw [if_neg (by omega), if_neg (by omega)]; rfl
        | 1, _ => rw [if_neg (by omega), if_pos rfl]; rfl
        | 2, _ => rw [if_neg (by omega), if_neg (by omega)]; rfl
        | 3, _ => rw [if_pos rfl]; rfl
        | 4, _ => rw [if_neg (by omega), if_neg (by omega)]; rfl
      · refine st 2 0 (5 * L.length) al c c Z3 1 (Or.inr rfl) (by decide) (s3.kf g3) (by omega) (by omega) (by omega) rfl (fun Z4 e4 => ?_)
        have g4 := g3.tr (KF.put (i := 1) (by decide) e4)
        refine st 2 1 (5 * L.length) al c _ Z4 2 (Or.inr rfl) (by decide) (s3.kf g4) (by omega) d0.1 d0.2 rfl (fun Z5 e5 => ?_)
        have g5 := g4.tr (KF.put (i := 2) (by decide) e5)
        refine st 2 2 (5 * L.length) al c _ Z5 3 (Or.inr rfl) (by decide) (s3.kf g5) (by omega) d1.1 d1.2 rfl (fun Z6 e6 => ?_)
        have g6 := g5.tr (KF.put (i := 3) (by decide) e6)
        refine st 2 3 (5 * L.length) al c _ Z6 4 (Or.inr rfl) (by decide) (s3.kf g6) (by omega) d2.1 d2.2 rfl (fun Z7 e7 => ?_)
        have g7 := g6.tr (KF.put (i := 4) (by decide) e7)
        refine fin Z7 g7 (fun i hi => ?_) _
        have hu := uv2_ok hp (e c) (e ((c : Int) / p)) (e ((c : Int) / p / p)) (e ((c : Int) / p / p / p))
        rw [e7, up_at, e6, up_at, e5, up_at, e4, up_at, z2 i hi]
        unfold kcl
        have eU : cdU p 2 c = uv2 ((c : Int) % p) ((c : Int) / p % p) ((c : Int) / p / p % p) ((c : Int) / p / p / p % p) := by unfold cdU; rw [if_neg (by decide)]
        rw [eU, hu.2]
        match i, hi with
        | 0, _ => rw [if_neg (by omega), if_neg (by omega), if_neg (by omega), if_neg (by omega)]; rfl
        | 1, _ => rw [if_neg (by omega), if_neg (by omega), if_neg (by omega), if_pos rfl]; rfl
        | 2, _ => rw [if_neg (by omega), if_neg (by omega), if_pos rfl]; rfl
        | 3, _ => rw [if_neg (by omega), if_pos rfl]; rfl
        | 4, _ => rw [if_pos rfl]; rfl
  -- how many of a degree
  have pw : ∀ (d : Nat) (al : Nat) (Z1 : Zt), (d = 1 ∨ d = 2) → MF Z1 b p F → (al : Int) = (if d = 1 then p * p else p * p * p * p) → V mX12_allClasses k n 46 [some (r_ b), some (i_ (d : Int)), some (i_ (al : Int)), some (i_ ((0 : Nat) : Int)), none, none, none] [] x Z1 Q → V mX12_allClasses k n 24 [some (r_ b), some (i_ (d : Int)), some (i_ 1), some (i_ 0), none, none, none] [] x Z1 Q := by
    intro d al Z1 hd f1 hal nx
    have e11 : Z1 b 11 = p := f1.1.1.1
    have s1 : ∀ (v2 i : Int), 0 ≤ i → i < 2 * d → V mX12_allClasses k n 24 [some (r_ b), some (i_ (d : Int)), some (i_ (v2 * p)), some (i_ (i + 1)), none, none, none] [] x Z1 Q → V mX12_allClasses k n 24 [some (r_ b), some (i_ (d : Int)), some (i_ v2), some (i_ i), none, none, none] [] x Z1 Q := fun v2 i h0 h1 hv => by
      refine b_X12_allClasses_24 o ?_
      rw [e11]
      exact ⟨⟨by omega, by omega⟩, ⟨by omega, by omega⟩, fun cc => by omega, fun _ => hv⟩
    have s2 : ∀ v2 : Int, v2 = (al : Int) → V mX12_allClasses k n 24 [some (r_ b), some (i_ (d : Int)), some (i_ v2), some (i_ (2 * (d : Int))), none, none, none] [] x Z1 Q := fun v2 hv => by
      refine b_X12_allClasses_24 o ⟨⟨by omega, by omega⟩, ⟨by omega, by omega⟩, fun _ => ?_, fun cc => by omega⟩
      rw [hv]; exact nx
    rcases hd with rfl | rfl
    · rw [if_pos rfl] at hal
      exact s1 1 0 (by decide) (by decide) (s1 _ _ (by decide) (by decide) (s2 _ (by rw [hal, Int.one_mul])))
    · rw [if_neg (by decide)] at hal
      exact s1 1 0 (by decide) (by decide) (s1 _ _ (by decide) (by decide) (s1 _ _ (by decide) (by decide) (s1 _ _ (by decide) (by decide) (s2 _ (by rw [hal, Int.one_mul])))))
  have pp : 0 ≤ p * p ∧ p * p ≤ 169 := ⟨Int.mul_nonneg (by omega) (by omega), Int.le_trans (Int.mul_le_mul_of_nonneg_left (show p ≤ 13 by omega) (by omega)) (by omega)⟩
  have pp3 : 0 ≤ p * p * p ∧ p * p * p ≤ 2197 := ⟨Int.mul_nonneg pp.1 (by omega), Int.le_trans (Int.mul_le_mul_of_nonneg_left (show p ≤ 13 by omega) pp.1) (by omega)⟩
  have pp4 : 0 ≤ p * p * p * p ∧ p * p * p * p ≤ 28561 := ⟨Int.mul_nonneg pp3.1 (by omega), Int.le_trans (Int.mul_le_mul_of_nonneg_left (show p ≤ 13 by omega) pp3.1) (by omega)⟩
  refine b_X12_allClasses_0 o ⟨by decide, fun Z1 hz1 Z2 e2 => ?_⟩
  have t00 : (0 : Int).toNat = 0 := rfl
  rw [t00] at hz1
  have k1 : KC Z1 b 0 czero := KC.z hp (g := gen F) (by omega) hz1.1
  have S2 : AlS b p F [czero] Z Z2 := ⟨by rw [e2, up_self]; rfl, fun i hi => by
    have hi : i < 1 := hi
    rw [show i = 0 from by omega]
    exact k1.ro (by rw [e2, up_row _ _ _ _ _ (by omega)]), (hF.kf hz1.2).o36 e2, fun q q1 q2 q3 => by rw [e2, up_row _ _ _ _ _ q1]; exact hz1.2.1 q q3⟩
  have a1 : (((p * p).toNat : Nat) : Int) = p * p := by omega
  have a2 : (((p * p * p * p).toNat : Nat) : Int) = p * p * p * p := by omega
  have e12 : ∀ Z3 : Zt, MF Z3 b p F → Z3 b 12 = gen F := fun Z3 f3 => f3.1.1.2
  have end_ : ∀ (Z3 : Zt) (d : Int), AlS b p F (mAl p F) Z Z3 → gen F < d → d ≤ 3 → V mX12_allClasses k n 12 [some (r_ b), some (i_ d), none, none, none, none, none] [] x Z3 Q := fun Z3 d hS hd hd3 => by
    refine b_X12_allClasses_12 o ?_
    rw [e12 Z3 hS.2.2.1]
    exact ⟨⟨by omega, by omega⟩, ⟨by omega, by omega⟩, fun _ => h Z3 hS, fun cc => by omega⟩
  refine b_X12_allClasses_12 o ?_
  rw [e12 Z2 S2.2.2.1]
  refine ⟨⟨by decide, by decide⟩, ⟨by omega, by omega⟩, fun cc => by omega, fun _ => ?_⟩
  have hl1 : ([czero] ++ alL p F 1 (p * p).toNat 0).length ≤ 579 := by
    unfold mAl at hL
    rw [List.length_append] at hL
    omega
  refine pw 1 (p * p).toNat Z2 (Or.inl rfl) S2.2.2.1 (by rw [a1, if_pos rfl]) ?_
  refine lp 1 (p * p).toNat _ (Or.inl rfl) (by omega) (by omega) hl1 (fun Z3 S3 => ?_) (p * p).toNat 0 [czero] Z2 (by omega) rfl S2
  by_cases cg : gen F = 2
  · have eM : mAl p F = ([czero] ++ alL p F 1 (p * p).toNat 0) ++ alL p F 2 (p * p * p * p).toNat 0 := by unfold mAl; rw [if_pos cg]
    refine b_X12_allClasses_12 o ?_
    rw [e12 Z3 S3.2.2.1]
    refine ⟨⟨by decide, by decide⟩, ⟨by omega, by omega⟩, fun cc => by omega, fun _ => ?_⟩
    refine pw 2 (p * p * p * p).toNat Z3 (Or.inr rfl) S3.2.2.1 (by rw [a2, if_neg (by decide)]) ?_
    exact lp 2 (p * p * p * p).toNat (mAl p F) (Or.inr rfl) (by omega) (by omega) hL (fun Z4 S4 => end_ Z4 _ S4 (by omega) (by omega)) (p * p * p * p).toNat 0 _ Z3 (by omega) eM.symm S3
  · have eM : mAl p F = [czero] ++ alL p F 1 (p * p).toNat 0 := by unfold mAl; rw [if_neg cg, List.append_nil]
    rw [← eM] at S3
    exact end_ Z3 _ S3 (by omega) (by omega)
