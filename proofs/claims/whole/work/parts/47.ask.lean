theorem dX9_ask_0 : decode cX9_ask 0 = .ok (.aload_n 0, 1) := by decide +kernel
theorem dX9_ask_1 : decode cX9_ask 1 = .ok (.getfield 76, 3) := by decide +kernel
theorem dX9_ask_4 : decode cX9_ask 4 = .ok (.istore 4, 2) := by decide +kernel
theorem dX9_ask_6 : decode cX9_ask 6 = .ok (.iload 4, 2) := by decide +kernel
theorem dX9_ask_8 : decode cX9_ask 8 = .ok (.iload_n 3, 1) := by decide +kernel
theorem dX9_ask_9 : decode cX9_ask 9 = .ok (.iadd, 1) := by decide +kernel
theorem dX9_ask_10 : decode cX9_ask 10 = .ok (.bipush 40, 2) := by decide +kernel
theorem dX9_ask_12 : decode cX9_ask 12 = .ok (.invokestatic 67, 3) := by decide +kernel
theorem dX9_ask_15 : decode cX9_ask 15 = .ok (.istore 5, 2) := by decide +kernel
theorem dX9_ask_17 : decode cX9_ask 17 = .ok (.iload 5, 2) := by decide +kernel
theorem dX9_ask_19 : decode cX9_ask 19 = .ok (.iload 4, 2) := by decide +kernel
theorem dX9_ask_21 : decode cX9_ask 21 = .ok (.if_icmp .gt 4, 3) := by decide +kernel
theorem dX9_ask_24 : decode cX9_ask 24 = .ok (.return_, 1) := by decide +kernel
theorem dX9_ask_25 : decode cX9_ask 25 = .ok (.aload_n 1, 1) := by decide +kernel
theorem dX9_ask_26 : decode cX9_ask 26 = .ok (.iload_n 2, 1) := by decide +kernel
theorem dX9_ask_27 : decode cX9_ask 27 = .ok (.iload 5, 2) := by decide +kernel
theorem dX9_ask_29 : decode cX9_ask 29 = .ok (.iload 4, 2) := by decide +kernel
theorem dX9_ask_31 : decode cX9_ask 31 = .ok (.isub, 1) := by decide +kernel
theorem dX9_ask_32 : decode cX9_ask 32 = .ok (.invokevirtual 120, 3) := by decide +kernel
theorem dX9_ask_35 : decode cX9_ask 35 = .ok (.iload 4, 2) := by decide +kernel
theorem dX9_ask_37 : decode cX9_ask 37 = .ok (.istore 6, 2) := by decide +kernel
theorem dX9_ask_39 : decode cX9_ask 39 = .ok (.iload 6, 2) := by decide +kernel
theorem dX9_ask_41 : decode cX9_ask 41 = .ok (.iload 5, 2) := by decide +kernel
theorem dX9_ask_43 : decode cX9_ask 43 = .ok (.if_icmp .ge 20, 3) := by decide +kernel
theorem dX9_ask_46 : decode cX9_ask 46 = .ok (.aload_n 0, 1) := by decide +kernel
theorem dX9_ask_47 : decode cX9_ask 47 = .ok (.getfield 27, 3) := by decide +kernel
theorem dX9_ask_50 : decode cX9_ask 50 = .ok (.iload 6, 2) := by decide +kernel
theorem dX9_ask_52 : decode cX9_ask 52 = .ok (.aaload, 1) := by decide +kernel
theorem dX9_ask_53 : decode cX9_ask 53 = .ok (.iconst 0, 1) := by decide +kernel
theorem dX9_ask_54 : decode cX9_ask 54 = .ok (.invokestatic 105, 3) := by decide +kernel
theorem dX9_ask_57 : decode cX9_ask 57 = .ok (.iinc 6 1, 3) := by decide +kernel
theorem dX9_ask_60 : decode cX9_ask 60 = .ok (.goto (-21), 3) := by decide +kernel
theorem dX9_ask_63 : decode cX9_ask 63 = .ok (.iconst 0, 1) := by decide +kernel
theorem dX9_ask_64 : decode cX9_ask 64 = .ok (.istore 6, 2) := by decide +kernel
theorem dX9_ask_66 : decode cX9_ask 66 = .ok (.iconst 2, 1) := by decide +kernel
theorem dX9_ask_67 : decode cX9_ask 67 = .ok (.iload 6, 2) := by decide +kernel
theorem dX9_ask_69 : decode cX9_ask 69 = .ok (.imul, 1) := by decide +kernel
theorem dX9_ask_70 : decode cX9_ask 70 = .ok (.aload_n 0, 1) := by decide +kernel
theorem dX9_ask_71 : decode cX9_ask 71 = .ok (.getfield 73, 3) := by decide +kernel
theorem dX9_ask_74 : decode cX9_ask 74 = .ok (.if_icmp .gt 100, 3) := by decide +kernel
theorem dX9_ask_77 : decode cX9_ask 77 = .ok (.iconst 2, 1) := by decide +kernel
theorem dX9_ask_78 : decode cX9_ask 78 = .ok (.iload 6, 2) := by decide +kernel
theorem dX9_ask_80 : decode cX9_ask 80 = .ok (.imul, 1) := by decide +kernel
theorem dX9_ask_81 : decode cX9_ask 81 = .ok (.istore 7, 2) := by decide +kernel
theorem dX9_ask_83 : decode cX9_ask 83 = .ok (.iconst 2, 1) := by decide +kernel
theorem dX9_ask_84 : decode cX9_ask 84 = .ok (.iload 6, 2) := by decide +kernel
theorem dX9_ask_86 : decode cX9_ask 86 = .ok (.imul, 1) := by decide +kernel
theorem dX9_ask_87 : decode cX9_ask 87 = .ok (.iconst 2, 1) := by decide +kernel
theorem dX9_ask_88 : decode cX9_ask 88 = .ok (.aload_n 1, 1) := by decide +kernel
theorem dX9_ask_89 : decode cX9_ask 89 = .ok (.getfield 124, 3) := by decide +kernel
theorem dX9_ask_92 : decode cX9_ask 92 = .ok (.imul, 1) := by decide +kernel
theorem dX9_ask_93 : decode cX9_ask 93 = .ok (.iadd, 1) := by decide +kernel
theorem dX9_ask_94 : decode cX9_ask 94 = .ok (.iconst 1, 1) := by decide +kernel
theorem dX9_ask_95 : decode cX9_ask 95 = .ok (.iadd, 1) := by decide +kernel
theorem dX9_ask_96 : decode cX9_ask 96 = .ok (.istore 8, 2) := by decide +kernel
theorem dX9_ask_98 : decode cX9_ask 98 = .ok (.iload 4, 2) := by decide +kernel
theorem dX9_ask_100 : decode cX9_ask 100 = .ok (.istore 9, 2) := by decide +kernel
theorem dX9_ask_102 : decode cX9_ask 102 = .ok (.iload 9, 2) := by decide +kernel
theorem dX9_ask_104 : decode cX9_ask 104 = .ok (.iload 5, 2) := by decide +kernel
theorem dX9_ask_106 : decode cX9_ask 106 = .ok (.if_icmp .ge 58, 3) := by decide +kernel
theorem dX9_ask_109 : decode cX9_ask 109 = .ok (.aload_n 0, 1) := by decide +kernel
theorem dX9_ask_110 : decode cX9_ask 110 = .ok (.getfield 27, 3) := by decide +kernel
theorem dX9_ask_113 : decode cX9_ask 113 = .ok (.iload 9, 2) := by decide +kernel
theorem dX9_ask_115 : decode cX9_ask 115 = .ok (.aaload, 1) := by decide +kernel
theorem dX9_ask_116 : decode cX9_ask 116 = .ok (.iload 7, 2) := by decide +kernel
theorem dX9_ask_118 : decode cX9_ask 118 = .ok (.aload_n 1, 1) := by decide +kernel
theorem dX9_ask_119 : decode cX9_ask 119 = .ok (.getfield 127, 3) := by decide +kernel
theorem dX9_ask_122 : decode cX9_ask 122 = .ok (.iload 9, 2) := by decide +kernel
theorem dX9_ask_124 : decode cX9_ask 124 = .ok (.iload 4, 2) := by decide +kernel
theorem dX9_ask_126 : decode cX9_ask 126 = .ok (.isub, 1) := by decide +kernel
theorem dX9_ask_127 : decode cX9_ask 127 = .ok (.iaload, 1) := by decide +kernel
theorem dX9_ask_128 : decode cX9_ask 128 = .ok (.iastore, 1) := by decide +kernel
theorem dX9_ask_129 : decode cX9_ask 129 = .ok (.iload 8, 2) := by decide +kernel
theorem dX9_ask_131 : decode cX9_ask 131 = .ok (.aload_n 0, 1) := by decide +kernel
theorem dX9_ask_132 : decode cX9_ask 132 = .ok (.getfield 73, 3) := by decide +kernel
theorem dX9_ask_135 : decode cX9_ask 135 = .ok (.if_icmp .gt 23, 3) := by decide +kernel
theorem dX9_ask_138 : decode cX9_ask 138 = .ok (.aload_n 0, 1) := by decide +kernel
theorem dX9_ask_139 : decode cX9_ask 139 = .ok (.getfield 27, 3) := by decide +kernel
theorem dX9_ask_142 : decode cX9_ask 142 = .ok (.iload 9, 2) := by decide +kernel
theorem dX9_ask_144 : decode cX9_ask 144 = .ok (.aaload, 1) := by decide +kernel
theorem dX9_ask_145 : decode cX9_ask 145 = .ok (.iload 8, 2) := by decide +kernel
theorem dX9_ask_147 : decode cX9_ask 147 = .ok (.aload_n 1, 1) := by decide +kernel
theorem dX9_ask_148 : decode cX9_ask 148 = .ok (.getfield 130, 3) := by decide +kernel
theorem dX9_ask_151 : decode cX9_ask 151 = .ok (.iload 9, 2) := by decide +kernel
theorem dX9_ask_153 : decode cX9_ask 153 = .ok (.iload 4, 2) := by decide +kernel
theorem dX9_ask_155 : decode cX9_ask 155 = .ok (.isub, 1) := by decide +kernel
theorem dX9_ask_156 : decode cX9_ask 156 = .ok (.iaload, 1) := by decide +kernel
theorem dX9_ask_157 : decode cX9_ask 157 = .ok (.iastore, 1) := by decide +kernel
theorem dX9_ask_158 : decode cX9_ask 158 = .ok (.iinc 9 1, 3) := by decide +kernel
theorem dX9_ask_161 : decode cX9_ask 161 = .ok (.goto (-59), 3) := by decide +kernel
theorem dX9_ask_164 : decode cX9_ask 164 = .ok (.aload_n 1, 1) := by decide +kernel
theorem dX9_ask_165 : decode cX9_ask 165 = .ok (.invokevirtual 133, 3) := by decide +kernel
theorem dX9_ask_168 : decode cX9_ask 168 = .ok (.iinc 6 1, 3) := by decide +kernel
theorem dX9_ask_171 : decode cX9_ask 171 = .ok (.goto (-105), 3) := by decide +kernel
theorem dX9_ask_174 : decode cX9_ask 174 = .ok (.aload_n 0, 1) := by decide +kernel
theorem dX9_ask_175 : decode cX9_ask 175 = .ok (.iload 5, 2) := by decide +kernel
theorem dX9_ask_177 : decode cX9_ask 177 = .ok (.putfield 76, 3) := by decide +kernel
theorem dX9_ask_180 : decode cX9_ask 180 = .ok (.return_, 1) := by decide +kernel
set_option maxRecDepth 20000 in
theorem b_X9_ask_0 {k n : Nat} {x : Wx} {Z : Zt} {Q : Option Value → Wx → Zt → Prop} {a0 : Nat} {a1 : Nat} {v2 : Int} {v3 : Int} (o_a0 : Is9 x a0) (o_a1 : Is2 x a1)
    (h : Rg ((Z a0 9) + v3) ∧ (Rg (min ((Z a0 9) + v3) 40) ∧ Rg (Z a0 9) ∧ (((Z a0 9 < min ((Z a0 9) + v3) 40) → (∃ g1 : Int, (∃ g2 : Nat → Int, (IsP g1 ∧ CvA Z a1 g1 g2 ∧ (0 ≤ v2 ∧ v2 + 1 < (pall g1 g2).length) ∧ Rg ((min ((Z a0 9) + v3) 40) - (Z a0 9)) ∧ (∀ (Z'1 : Zt), (BgA Z'1 a1 g1 g2 ((pall g1 g2).getD (Int.toNat v2) (0, 0)).1 ((pall g1 g2).getD (Int.toNat v2) (0, 0)).2 (max 0 (min ((min ((Z a0 9) + v3) 40) - (Z a0 9)) 40)) (fxd (pall g1 g2) v2) ∧ Oth Z Z'1 (fun b => b = a1 ∨ b = a1 + 13 ∨ b = a1 + 14 ∨ b = a1 + 15) ∧ (∀ i : Nat, i < 14 → Z'1 a1 i = Z a1 i)) → (V mX9_ask k n 39 [some (r_ a0), some (r_ a1), none, none, some (i_ (Z a0 9)), some (i_ (min ((Z a0 9) + v3) 40)), some (i_ (Z a0 9)), none, none, none] [] x Z'1 Q)))))) ∧ ((min ((Z a0 9) + v3) 40 ≤ Z a0 9) → (Q none x Z))))) :
    V mX9_ask k n 0 [some (r_ a0), some (r_ a1), some (i_ v2), some (i_ v3), none, none, none, none, none, none] [] x Z Q :=
  V_aload_n dX9_ask_0 rfl (G_9_9 o_a0.1 lf_9_76 dX9_ask_1 (V_istore (lv' := [some (r_ a0), some (r_ a1), some (i_ v2), some (i_ v3), some (i_ (Z a0 9)), none, none, none, none, none]) dX9_ask_4 (Nat.le_of_ble_eq_true rfl) rfl (V_iload dX9_ask_6 rfl (V_iload_n dX9_ask_8 rfl (V_iadd dX9_ask_9 (V_bipush dX9_ask_10 rfl (V_mmin lm_9_67 (Nat.le_of_ble_eq_true rfl) (Nat.le_of_ble_eq_true rfl) h.1 (rg_c rfl) dX9_ask_12 (V_istore (lv' := [some (r_ a0), some (r_ a1), some (i_ v2), some (i_ v3), some (i_ (Z a0 9)), some (i_ (min ((Z a0 9) + v3) 40)), none, none, none, none]) dX9_ask_15 (Nat.le_of_ble_eq_true rfl) rfl (V_iload dX9_ask_17 rfl (V_iload dX9_ask_19 rfl (V_icmp_gt (tgt := 25) dX9_ask_21 rfl h.2.1 h.2.2.1 (fun c1 => V_aload_n dX9_ask_25 rfl (V_iload_n dX9_ask_26 rfl (V_iload dX9_ask_27 rfl (V_iload dX9_ask_29 rfl (V_isub dX9_ask_31 (Exists.elim (h.2.2.2.1 c1) (fun g1 w1 => Exists.elim w1 (fun g2 w2 => V_callV (k' := 0) (n' := 0) (t := 2) (q := (RX2, TX2, 17)) [i_ v2, i_ ((min ((Z a0 9) + v3) 40) - (Z a0 9))] [] okX2_beginAt o_a1.1 rfl rfl lm_9_120 liX2_beginAt lqX2_beginAt (Nat.le_of_ble_eq_true rfl) (Nat.le_of_ble_eq_true rfl) (Nat.le_of_ble_eq_true rfl) (cat_of rfl) (Nat.le_of_ble_eq_true rfl) (Nat.zero_le _) (Nat.zero_le _) rfl dX9_ask_32 (sp_X2_beginAt o_a1 w2.1 w2.2.1 w2.2.2.1 w2.2.2.2.1 (fun Z'1 p1 => V_iload dX9_ask_35 rfl (V_istore (lv' := [some (r_ a0), some (r_ a1), some (i_ v2), some (i_ v3), some (i_ (Z a0 9)), some (i_ (min ((Z a0 9) + v3) 40)), some (i_ (Z a0 9)), none, none, none]) dX9_ask_37 (Nat.le_of_ble_eq_true rfl) rfl (V_msk [true, true, false, false, true, true, true, false, false, false] rfl (w2.2.2.2.2 Z'1 p1))))))))))))) (fun c1 => V_ret dX9_ask_24 rfl (h.2.2.2.2 c1)))))))))))))
set_option maxRecDepth 20000 in
theorem b_X9_ask_39 {k n : Nat} {x : Wx} {Z : Zt} {Q : Option Value → Wx → Zt → Prop} {a0 : Nat} {a1 : Nat} {v4 : Int} {v5 : Int} {v6 : Int} (o_a0 : Is9 x a0)
    (h : Rg v6 ∧ Rg v5 ∧ (((v5 ≤ v6) → (V mX9_ask k n 66 [some (r_ a0), some (r_ a1), none, none, some (i_ v4), some (i_ v5), some (i_ 0), none, none, none] [] x Z Q)) ∧ ((v6 < v5) → (0 ≤ v6 ∧ v6 < 40 ∧ (∃ b1, (x.2.1 (a0 + 5) v6.toNat = some b1 ∧ x.1 b1 = some (100, 90)) ∧ (∀ Z1 : Zt, Z1 = fillZ Z b1 90 (0 : Int) → (V mX9_ask k n 39 [some (r_ a0), some (r_ a1), none, none, some (i_ v4), some (i_ v5), some (i_ (v6 + 1)), none, none, none] [] x Z1 Q))))))) :
    V mX9_ask k n 39 [some (r_ a0), some (r_ a1), none, none, some (i_ v4), some (i_ v5), some (i_ v6), none, none, none] [] x Z Q :=
  V_iload dX9_ask_39 rfl (V_iload dX9_ask_41 rfl (V_icmp_ge (tgt := 63) dX9_ask_43 rfl h.1 h.2.1 (fun c1 => V_iconst dX9_ask_63 (V_istore (lv' := [some (r_ a0), some (r_ a1), none, none, some (i_ v4), some (i_ v5), some (i_ 0), none, none, none]) dX9_ask_64 (Nat.le_of_ble_eq_true rfl) rfl (V_msk [true, true, false, false, true, true, true, false, false, false] rfl (h.2.2.1 c1)))) (fun c1 => V_aload_n dX9_ask_46 rfl (G_9_8 o_a0.1 o_a0.2.2.2.2.2.2.2.2.2.1 lf_9_27 dX9_ask_47 (V_iload dX9_ask_50 rfl (Exists.elim (h.2.2.2 c1).2.2 (fun b1 w1 => V_aaldR (t := 104) o_a0.2.2.2.2.2.2.2.2.2.2.1 (by decide) (fun _ _ => rfl) rfl (h.2.2.2 c1).1 (h.2.2.2 c1).2.1 (Nat.le_of_ble_eq_true rfl) w1.1.1 dX9_ask_52 (V_iconst dX9_ask_53 (V_callS (k' := 0) (n' := 0) [r_ b1, i_ 0] [] okJ7_fill_53178 lm_9_105 lsJ7_fill_53178 (Nat.le_of_ble_eq_true rfl) (Nat.le_of_ble_eq_true rfl) (Nat.le_of_ble_eq_true rfl) (cat_of rfl) (Nat.le_of_ble_eq_true rfl) (Nat.zero_le _) (Nat.zero_le _) rfl dX9_ask_54 (sp_J7_fill_53178 w1.1.2 (Nat.le_of_ble_eq_true rfl)  (V_nmZ (fun Z1 eZ1 => V_iinc (lv' := [some (r_ a0), some (r_ a1), none, none, some (i_ v4), some (i_ v5), some (i_ (v6 + 1)), none, none, none]) dX9_ask_57 rfl (Nat.le_of_ble_eq_true rfl) rfl (V_goto (tgt := 39) dX9_ask_60 rfl (V_msk [true, true, false, false, true, true, true, false, false, false] rfl (w1.2 Z1 eZ1)))))))))))))))
set_option maxRecDepth 20000 in
theorem b_X9_ask_66 {k n : Nat} {x : Wx} {Z : Zt} {Q : Option Value → Wx → Zt → Prop} {a0 : Nat} {a1 : Nat} {v4 : Int} {v5 : Int} {v6 : Int} (o_a0 : Is9 x a0) (o_a1 : Is2 x a1)
    (h : Rg (2 * v6) ∧ Rg (Z a0 2) ∧ (((Z a0 2 < 2 * v6) → (∀ Z1 : Zt, Z1 = up Z a0 9 v5 → (Q none x Z1))) ∧ ((2 * v6 ≤ Z a0 2) → (V mX9_ask k n 102 [some (r_ a0), some (r_ a1), none, none, some (i_ v4), some (i_ v5), some (i_ v6), some (i_ (2 * v6)), some (i_ (((2 * v6) + (2 * (Z a1 2))) + 1)), some (i_ v4)] [] x Z Q)))) :
    V mX9_ask k n 66 [some (r_ a0), some (r_ a1), none, none, some (i_ v4), some (i_ v5), some (i_ v6), none, none, none] [] x Z Q :=
  V_iconst dX9_ask_66 (V_iload dX9_ask_67 rfl (V_imul dX9_ask_69 (V_aload_n dX9_ask_70 rfl (G_9_2 o_a0.1 lf_9_73 dX9_ask_71 (V_icmp_gt (tgt := 174) dX9_ask_74 rfl h.1 h.2.1 (fun c1 => V_aload_n dX9_ask_174 rfl (V_iload dX9_ask_175 rfl (P_9_9 o_a0.1 lf_9_76 dX9_ask_177 (V_nmZ (fun Z1 eZ1 => V_ret dX9_ask_180 rfl ((h.2.2.1 c1) Z1 eZ1)))))) (fun c1 => V_iconst dX9_ask_77 (V_iload dX9_ask_78 rfl (V_imul dX9_ask_80 (V_istore (lv' := [some (r_ a0), some (r_ a1), none, none, some (i_ v4), some (i_ v5), some (i_ v6), some (i_ (2 * v6)), none, none]) dX9_ask_81 (Nat.le_of_ble_eq_true rfl) rfl (V_iconst dX9_ask_83 (V_iload dX9_ask_84 rfl (V_imul dX9_ask_86 (V_iconst dX9_ask_87 (V_aload_n dX9_ask_88 rfl (G_2_2 o_a1.1 lf_9_124 dX9_ask_89 (V_imul dX9_ask_92 (V_iadd dX9_ask_93 (V_iconst dX9_ask_94 (V_iadd dX9_ask_95 (V_istore (lv' := [some (r_ a0), some (r_ a1), none, none, some (i_ v4), some (i_ v5), some (i_ v6), some (i_ (2 * v6)), some (i_ (((2 * v6) + (2 * (Z a1 2))) + 1)), none]) dX9_ask_96 (Nat.le_of_ble_eq_true rfl) rfl (V_iload dX9_ask_98 rfl (V_istore (lv' := [some (r_ a0), some (r_ a1), none, none, some (i_ v4), some (i_ v5), some (i_ v6), some (i_ (2 * v6)), some (i_ (((2 * v6) + (2 * (Z a1 2))) + 1)), some (i_ v4)]) dX9_ask_100 (Nat.le_of_ble_eq_true rfl) rfl (V_msk [true, true, false, false, true, true, true, true, true, true] rfl (h.2.2.2 c1))))))))))))))))))))))))
set_option maxRecDepth 20000 in
theorem b_X9_ask_102 {k n : Nat} {x : Wx} {Z : Zt} {Q : Option Value → Wx → Zt → Prop} {a0 : Nat} {a1 : Nat} {v4 : Int} {v5 : Int} {v6 : Int} {v7 : Int} {v8 : Int} {v9 : Int} (o_a1 : Is2 x a1) (o_a0 : Is9 x a0)
    (h : Rg v9 ∧ Rg v5 ∧ (((v5 ≤ v9) → (∃ g1 : Int, (IsP g1 ∧ Z (a1 + 1) 0 = g1 ∧ (0 ≤ Z a1 14 ∧ Z a1 14 ≤ 40) ∧ (1 ≤ Z a1 15 ∧ Z a1 15 ≤ 2) ∧ (0 ≤ Z a1 16 ∧ Z a1 16 < g1) ∧ (∀ i : Nat, i < 40 → 0 ≤ Z (a1 + 14) i ∧ Z (a1 + 14) i < g1) ∧ (∀ i : Nat, i < 40 → 0 ≤ Z (a1 + 15) i ∧ Z (a1 + 15) i < g1) ∧ (∀ (Z'1 : Zt), ((∀ i : Nat, i < 40 → Z'1 (a1 + 14) i = (if (i : Int) < Z a1 14 then npw g1 (Z a1 16) (Z a1 15).toNat (Z (a1 + 14)) i else Z (a1 + 14) i) ∧ Z'1 (a1 + 15) i = (if (i : Int) < Z a1 14 then npw g1 (Z a1 16) (Z a1 15).toNat (Z (a1 + 15)) i else Z (a1 + 15) i)) ∧ Oth Z Z'1 (fun b => b = a1 + 14 ∨ b = a1 + 15)) → (V mX9_ask k n 66 [some (r_ a0), some (r_ a1), none, none, some (i_ v4), some (i_ v5), some (i_ (v6 + 1)), none, none, none] [] x Z'1 Q))))) ∧ ((v9 < v5) → (0 ≤ v9 ∧ v9 < 40 ∧ (∃ b1, (x.2.1 (a0 + 5) v9.toNat = some b1 ∧ x.1 b1 = some (100, 90)) ∧ (0 ≤ v9 - v4 ∧ v9 - v4 < 40 ∧ (0 ≤ v7 ∧ v7 < 90 ∧ (∀ Z1 : Zt, Z1 = up Z b1 v7.toNat (Z (a1 + 14) (v9 - v4).toNat) → (Rg v8 ∧ Rg (Z1 a0 2) ∧ (((Z1 a0 2 < v8) → (V mX9_ask k n 158 [some (r_ a0), some (r_ a1), none, none, some (i_ v4), some (i_ v5), some (i_ v6), some (i_ v7), some (i_ v8), some (i_ v9)] [] x Z1 Q)) ∧ ((v8 ≤ Z1 a0 2) → (∃ b2, (x.2.1 (a0 + 5) v9.toNat = some b2 ∧ x.1 b2 = some (100, 90)) ∧ (0 ≤ v8 ∧ v8 < 90 ∧ (∀ Z2 : Zt, Z2 = up Z1 b2 v8.toNat (Z1 (a1 + 15) (v9 - v4).toNat) → (V mX9_ask k n 158 [some (r_ a0), some (r_ a1), none, none, some (i_ v4), some (i_ v5), some (i_ v6), some (i_ v7), some (i_ v8), some (i_ v9)] [] x Z2 Q))))))))))))))) :
    V mX9_ask k n 102 [some (r_ a0), some (r_ a1), none, none, some (i_ v4), some (i_ v5), some (i_ v6), some (i_ v7), some (i_ v8), some (i_ v9)] [] x Z Q :=
  V_iload dX9_ask_102 rfl (V_iload dX9_ask_104 rfl (V_icmp_ge (tgt := 164) dX9_ask_106 rfl h.1 h.2.1 (fun c1 => V_aload_n dX9_ask_164 rfl (Exists.elim (h.2.2.1 c1) (fun g1 w1 => V_callV (k' := 0) (n' := 0) (t := 2) (q := (RX2, TX2, 17)) [] [] okX2_nextPower o_a1.1 rfl rfl lm_9_133 liX2_nextPower lqX2_nextPower (Nat.le_of_ble_eq_true rfl) (Nat.le_of_ble_eq_true rfl) (Nat.le_of_ble_eq_true rfl) (cat_of rfl) (Nat.le_of_ble_eq_true rfl) (Nat.zero_le _) (Nat.zero_le _) rfl dX9_ask_165 (sp_X2_nextPower o_a1 w1.1 w1.2.1 w1.2.2.1 w1.2.2.2.1 w1.2.2.2.2.1 w1.2.2.2.2.2.1 w1.2.2.2.2.2.2.1 (fun Z'1 p1 => V_iinc (lv' := [some (r_ a0), some (r_ a1), none, none, some (i_ v4), some (i_ v5), some (i_ (v6 + 1)), some (i_ v7), some (i_ v8), some (i_ v9)]) dX9_ask_168 rfl (Nat.le_of_ble_eq_true rfl) rfl (V_goto (tgt := 66) dX9_ask_171 rfl (V_msk [true, true, false, false, true, true, true, false, false, false] rfl (w1.2.2.2.2.2.2.2 Z'1 p1)))))))) (fun c1 => V_aload_n dX9_ask_109 rfl (G_9_8 o_a0.1 o_a0.2.2.2.2.2.2.2.2.2.1 lf_9_27 dX9_ask_110 (V_iload dX9_ask_113 rfl (Exists.elim (h.2.2.2 c1).2.2 (fun b1 w2 => V_aaldR (t := 104) o_a0.2.2.2.2.2.2.2.2.2.2.1 (by decide) (fun _ _ => rfl) rfl (h.2.2.2 c1).1 (h.2.2.2 c1).2.1 (Nat.le_of_ble_eq_true rfl) w2.1.1 dX9_ask_115 (V_iload dX9_ask_116 rfl (V_aload_n dX9_ask_118 rfl (G_2_12 o_a1.1 o_a1.2.2.2.2.2.2.2.2.2.2.2.2.2.2.2.2.2.2.2.2.2.1 lf_9_127 dX9_ask_119 (V_iload dX9_ask_122 rfl (V_iload dX9_ask_124 rfl (V_isub dX9_ask_126 (V_iald (t := 100) o_a1.2.2.2.2.2.2.2.2.2.2.2.2.2.2.2.2.2.2.2.2.2.2.1 (by decide) rfl w2.2.1 w2.2.2.1 (Nat.le_of_ble_eq_true rfl) dX9_ask_127 (V_iast (t := 100) w2.1.2 (by decide) (by decide) rfl w2.2.2.2.1 w2.2.2.2.2.1 (Nat.le_of_ble_eq_true rfl) dX9_ask_128 (V_nmZ (fun Z1 eZ1 => V_iload dX9_ask_129 rfl (V_aload_n dX9_ask_131 rfl (G_9_2 o_a0.1 lf_9_73 dX9_ask_132 (V_icmp_gt (tgt := 158) dX9_ask_135 rfl (w2.2.2.2.2.2 Z1 eZ1).1 (w2.2.2.2.2.2 Z1 eZ1).2.1 (fun c2 => V_msk [true, true, false, false, true, true, true, true, true, true] rfl ((w2.2.2.2.2.2 Z1 eZ1).2.2.1 c2)) (fun c2 => V_aload_n dX9_ask_138 rfl (G_9_8 o_a0.1 o_a0.2.2.2.2.2.2.2.2.2.1 lf_9_27 dX9_ask_139 (V_iload dX9_ask_142 rfl (Exists.elim ((w2.2.2.2.2.2 Z1 eZ1).2.2.2 c2) (fun b2 w3 => V_aaldR (t := 104) o_a0.2.2.2.2.2.2.2.2.2.2.1 (by decide) (fun _ _ => rfl) rfl (h.2.2.2 c1).1 (h.2.2.2 c1).2.1 (Nat.le_of_ble_eq_true rfl) w3.1.1 dX9_ask_144 (V_iload dX9_ask_145 rfl (V_aload_n dX9_ask_147 rfl (G_2_13 o_a1.1 o_a1.2.2.2.2.2.2.2.2.2.2.2.2.2.2.2.2.2.2.2.2.2.2.2.1 lf_9_130 dX9_ask_148 (V_iload dX9_ask_151 rfl (V_iload dX9_ask_153 rfl (V_isub dX9_ask_155 (V_iald (t := 100) o_a1.2.2.2.2.2.2.2.2.2.2.2.2.2.2.2.2.2.2.2.2.2.2.2.2 (by decide) rfl w2.2.1 w2.2.2.1 (Nat.le_of_ble_eq_true rfl) dX9_ask_156 (V_iast (t := 100) w3.1.2 (by decide) (by decide) rfl w3.2.1 w3.2.2.1 (Nat.le_of_ble_eq_true rfl) dX9_ask_157 (V_nmZ (fun Z2 eZ2 => V_msk [true, true, false, false, true, true, true, true, true, true] rfl (w3.2.2.2 Z2 eZ2))))))))))))))))))))))))))))))))))))
set_option maxRecDepth 20000 in
theorem b_X9_ask_158 {k n : Nat} {x : Wx} {Z : Zt} {Q : Option Value → Wx → Zt → Prop} {a0 : Nat} {a1 : Nat} {v4 : Int} {v5 : Int} {v6 : Int} {v7 : Int} {v8 : Int} {v9 : Int} 
    (h : V mX9_ask k n 102 [some (r_ a0), some (r_ a1), none, none, some (i_ v4), some (i_ v5), some (i_ v6), some (i_ v7), some (i_ v8), some (i_ (v9 + 1))] [] x Z Q) :
    V mX9_ask k n 158 [some (r_ a0), some (r_ a1), none, none, some (i_ v4), some (i_ v5), some (i_ v6), some (i_ v7), some (i_ v8), some (i_ v9)] [] x Z Q :=
  V_iinc (lv' := [some (r_ a0), some (r_ a1), none, none, some (i_ v4), some (i_ v5), some (i_ v6), some (i_ v7), some (i_ v8), some (i_ (v9 + 1))]) dX9_ask_158 rfl (Nat.le_of_ble_eq_true rfl) rfl (V_goto (tgt := 102) dX9_ask_161 rfl (V_msk [true, true, false, false, true, true, true, true, true, true] rfl h))
/-! ===== Room: what A + B y must meet at a POINT ===== -/
theorem V_nmx {y : MD} {k n pc : Nat} {lv : List (Option Value)} {st : List Value} {x : Wx} {Z : Zt} {Q : Option Value → Wx → Zt → Prop} (h : ∀ x' : Wx, x' = x → V y k n pc lv st x' Z Q) : V y k n pc lv st x Z Q := h x rfl
/-- which row each line is now -/
def LnA (x : Wx) (s : Nat) (σ : Nat → Nat) : Prop := (∀ i : Nat, i < 40 → x.2.1 (s + 5) i = some (s + 6 + σ i) ∧ σ i < 40) ∧ ∀ i j : Nat, i < 40 → j < 40 → σ i = σ j → i = j
theorem LnA.at {x : Wx} {s : Nat} {σ : Nat → Nat} (h : LnA x s σ) (o : Is9 x s) {i : Nat} (hi : i < 40) : x.2.1 (s + 5) i = some (s + 6 + σ i) ∧ x.1 (s + 6 + σ i) = some (100, 90) := by
  refine ⟨(h.1 i hi).1, ?_⟩
  exact o.2.2.2.2.2.2.2.2.2.2.2.1 (σ i) (h.1 i hi).2
def askW (P Y : Nat → Nat → Int) (g : Nat) (poles : Int) (i t c : Nat) : Int := if c % 2 = 0 then (if c / 2 < i then P (c / 2) t else 0) else if 2 * g + 1 ≤ c ∧ (c : Int) ≤ poles ∧ (c - 2 * g - 1) / 2 < i then Y ((c - 2 * g - 1) / 2) t else 0
theorem askW_0 (P Y : Nat → Nat → Int) (g : Nat) (poles : Int) (t c : Nat) : askW P Y g poles 0 t c = 0 := by
  unfold askW
  rw [if_neg (show ¬ c / 2 < 0 by omega), if_neg (show ¬ (2 * g + 1 ≤ c ∧ (c : Int) ≤ poles ∧ (c - 2 * g - 1) / 2 < 0) by omega)]
  split <;> rfl
theorem askW_A (P Y : Nat → Nat → Int) (g : Nat) (poles : Int) (i t : Nat) : askW P Y g poles (i + 1) t (2 * i) = P i t := by
  unfold askW
  rw [if_pos (by omega), if_pos (by omega), show 2 * i / 2 = i by omega]
theorem askW_B (P Y : Nat → Nat → Int) (g : Nat) {poles : Int} {i : Nat} (t : Nat) (h : ((2 * i + 2 * g + 1 : Nat) : Int) ≤ poles) : askW P Y g poles (i + 1) t (2 * i + 2 * g + 1) = Y i t := by
  unfold askW
  rw [if_neg (by omega), if_pos ⟨by omega, h, by omega⟩, show (2 * i + 2 * g + 1 - 2 * g - 1) / 2 = i by omega]
theorem askW_N (P Y : Nat → Nat → Int) (g : Nat) {poles : Int} {i : Nat} (t : Nat) {c : Nat} (h1 : c ≠ 2 * i) (h2 : c ≠ 2 * i + 2 * g + 1 ∨ ¬ (c : Int) ≤ poles) : askW P Y g poles (i + 1) t c = askW P Y g poles i t c := by
  unfold askW
  by_cases e : c % 2 = 0
  · rw [if_pos e, if_pos e]
    by_cases e2 : c / 2 < i
    · rw [if_pos (by omega), if_pos e2]
    · rw [if_neg (by omega), if_neg e2]
  · rw [if_neg e, if_neg e]
    by_cases e2 : 2 * g + 1 ≤ c ∧ (c : Int) ≤ poles ∧ (c - 2 * g - 1) / 2 < i
    · rw [if_pos (by omega), if_pos e2]
    · rw [if_neg (by omega), if_neg e2]
theorem askW_rg {p : Int} (hp : 0 < p) {P Y : Nat → Nat → Int} (hP : ∀ i j : Nat, 0 ≤ P i j ∧ P i j < p) (hY : ∀ i j : Nat, 0 ≤ Y i j ∧ Y i j < p) (g : Nat) (poles : Int) (i t c : Nat) : 0 ≤ askW P Y g poles i t c ∧ askW P Y g poles i t c < p := by
  unfold askW
  split
  · split
    · exact hP _ _
    · omega
  · split
    · exact hY _ _
    · omega
/-- how many powers of x are gone through -/
def pwN (poles : Int) : Nat := ((poles + 2) / 2).toNat
/-- the lines that are asked at the POINT (X, y), of m terms -/
def askF (p : Int) (F : Nat → Int) (poles : Int) (X y : Int) (fx : Bool) (m : Int) (t c : Nat) : Int := askW (pwI p X (if fx = true then 2 else 1) m pln) (pwI p X (if fx = true then 2 else 1) m (bgY p F X y m fx)) (gen F).toNat poles (pwN poles) t c
theorem askF_rg {p : Int} (hp : IsP p) {F : Nat → Int} {poles X y : Int} {fx : Bool} {m : Int} (hy : 0 ≤ y ∧ y < p) (t c : Nat) : 0 ≤ askF p F poles X y fx m t c ∧ askF p F poles X y fx m t c < p := by
  have hpr := hp.rg
  refine askW_rg (by omega) (pwI_rg (by omega) (fun j => ?_)) (pwI_rg (by omega) (fun j => bgY_rg hp hy j)) _ _ _ _ _
  unfold pln; split <;> omega
theorem sp_X9_ask {k n : Nat} {x : Wx} {Z : Zt} {Q : Option Value → Wx → Zt → Prop} {s c : Nat} {v z : Int} (o : Is9 x s) (oc : Is2 x c) {p : Int} {F : Nat → Int} {σ : Nat → Nat} {u : Nat} (hp : IsP p) (hC : CvA Z c p F) (hσ : LnA x s σ) (hv : 0 ≤ v ∧ v + 1 < (pall p F).length) (hz : -5000 ≤ z ∧ z ≤ 5000) (hu : Z s 9 = (u : Int) ∧ u ≤ 40) (hpo : -100 ≤ Z s 2 ∧ Z s 2 < 90) (hcs : c + 16 ≤ s ∨ s + 48 ≤ c) (h : ∀ Z' : Zt, ((∀ q : Nat, q < 40 → ∀ j : Nat, j < 90 → Z' (s + 6 + σ q) j = if u ≤ q ∧ (q : Int) < min (u + z) 40 then askF p F (Z s 2) ((pall p F).getD (Int.toNat v) (0, 0)).1 ((pall p F).getD (Int.toNat v) (0, 0)).2 (fxd (pall p F) v) (min (u + z) 40 - u) (q - u) j else Z (s + 6 + σ q) j) ∧ Z' s = (fun i => if i = 9 then max (u : Int) (min (u + z) 40) else Z s i) ∧ (∀ i : Nat, i < 14 → Z' c i = Z c i) ∧ Oth Z Z' (fun b => b = c ∨ b = c + 13 ∨ b = c + 14 ∨ b = c + 15 ∨ b = s ∨ (s + 6 ≤ b ∧ b < s + 46))) → Q none x Z') : V mX9_ask k n 0 [some (r_ s), some (r_ c), some (i_ v), some (i_ z), none, none, none, none, none, none] [] x Z Q := by
  have hpr := hp.rg
  have hgn := hC.2.2.2.1
  have hgr := gen_rg F
  refine b_X9_ask_0 o oc ?_
  rw [hu.1]
  refine ⟨⟨by omega, by omega⟩, ⟨by omega, by omega⟩, ⟨by omega, by omega⟩, fun c1 => ⟨p, F, hp, hC, hv, ⟨by omega, by omega⟩, fun Z2 hz2 => ?_⟩, fun c1 => h Z ⟨fun q hq j hj => ?_, funext fun i => ?_, fun _ _ => rfl, Oth.rf⟩⟩
  · obtain ⟨la, hla⟩ : ∃ la : Nat, min ((u : Int) + z) 40 = (la : Int) := ⟨(min ((u : Int) + z) 40).toNat, by omega⟩
    rw [hla] at c1 hz2 h ⊢
    have hla40 : la ≤ 40 ∧ u < la := by omega
    have hpt := pall_get (p := p) (F := F) (by omega) (k := v.toNat) (by omega)
    unfold askF at h
    generalize (pall p F).getD v.toNat (0, 0) = e at h hpt hz2
    generalize fxd (pall p F) v = fx at h hz2
    rw [show max (0 : Int) (min ((la : Int) - (u : Int)) 40) = (la : Int) - u by omega] at hz2
    generalize hmd : (la : Int) - (u : Int) = m at h hz2
    have hsh : (if fx = true then (2 : Int) else 1) = ((if fx = true then 2 else 1 : Nat) : Int) := by cases fx <;> rfl
    have hshr : 1 ≤ (if fx = true then 2 else 1 : Nat) ∧ (if fx = true then 2 else 1 : Nat) ≤ 2 := by cases fx <;> decide
    obtain ⟨⟨b14, b15, b16, bP, bY⟩, hO2, hc2⟩ := hz2
    rw [hsh] at b15
    generalize (if fx = true then 2 else 1 : Nat) = sh at h hshr b15
    have hYr : ∀ j : Nat, 0 ≤ bgY p F e.1 e.2 m fx j ∧ bgY p F e.1 e.2 m fx j < p := fun j => bgY_rg hp hpt.2.1 j
    generalize bgY p F e.1 e.2 m fx = y0 at h bY hYr
    have hPr : ∀ j : Nat, 0 ≤ pln j ∧ pln j < p := fun j => by unfold pln; split <;> omega
    have gP := pwI_rg (X := e.1) (sh := sh) (t := m) (p := p) (by omega) hPr
    have gY := pwI_rg (X := e.1) (sh := sh) (t := m) (p := p) (by omega) hYr
    generalize hPd : pwI p e.1 sh m pln = P at h gP
    generalize hYd : pwI p e.1 sh m y0 = Y at h gY
    obtain ⟨g, hgd⟩ : ∃ g : Nat, gen F = (g : Int) := ⟨(gen F).toNat, by omega⟩
    rw [hgd] at h hgn hgr
    rw [show ((g : Int)).toNat = g by omega] at h
    obtain ⟨po, hpo'⟩ : ∃ po : Int, Z s 2 = po := ⟨_, rfl⟩
    rw [hpo'] at h hpo
    have hN : pwN po = ((po + 2) / 2).toNat := rfl
    have hσr : ∀ q : Nat, q < 40 → s + 6 ≤ s + 6 + σ q ∧ s + 6 + σ q < s + 46 := fun q hq => by have := (hσ.1 q hq).2; omega
    have hσn : ∀ q r : Nat, q < 40 → r < 40 → q ≠ r → s + 6 + σ q ≠ s + 6 + σ r := fun q r hq hr hn he => hn (hσ.2 q r hq hr (by omega))
    -- the state of the lines
    have lp2 : ∀ (r i : Nat) (w : Int) (Z3 : Zt), w = i → i + r = pwN po → Oth Z Z3 (fun b => b = c ∨ b = c + 13 ∨ b = c + 14 ∨ b = c + 15 ∨ (s + 6 ≤ b ∧ b < s + 46)) → (∀ i : Nat, i < 14 → Z3 c i = Z c i) → (Z3 c 14 = m ∧ Z3 c 15 = sh ∧ Z3 c 16 = e.1) → (∀ j : Nat, j < 40 → Z3 (c + 14) j = P i j ∧ Z3 (c + 15) j = Y i j) → (∀ q : Nat, q < 40 → ∀ j : Nat, j < 90 → Z3 (s + 6 + σ q) j = if u ≤ q ∧ (q : Int) < la then askW P Y g po i (q - u) j else Z (s + 6 + σ q) j) → V mX9_ask k n 66 [some (r_ s), some (r_ c), none, none, some (i_ (u : Int)), some (i_ (la : Int)), some (i_ w), none, none, none] [] x Z3 Q := by
      intro r
      induction r with
      | zero =>
        intro i w Z3 hw hi ho hc h14 hPY hz3
        refine b_X9_ask_66 o oc ?_
        rw [ho s (by omega), hpo']
        refine ⟨⟨by omega, by omega⟩, ⟨by omega, by omega⟩, fun _ Z4 e4 => h Z4 ⟨fun q hq j hj => ?_, funext fun i => ?_, fun i hi => ?_, fun b hb => ?_⟩, fun c2 => by omega⟩
        · rw [e4, up_row _ _ _ _ _ (by have := hσr q hq; omega), hz3 q hq j hj, show i = pwN po by omega]
        · rw [e4, up_at, ho s (by omega), show max (u : Int) (la : Int) = la by omega]
        · rw [e4, up_row _ _ _ _ _ (by omega)]; exact hc i hi
        · rw [e4, up_row _ _ _ _ _ (by omega)]; exact ho b (by omega)
      | succ r ih =>
        intro i w Z3 hw hi ho hc h14 hPY hz3
        refine b_X9_ask_66 o oc ?_
        rw [ho s (by omega), hpo', hc 2 (by decide), hgn]
        refine ⟨⟨by omega, by omega⟩, ⟨by omega, by omega⟩, fun c2 => by omega, fun c2 => ?_⟩
        have lp3 : ∀ (t l : Nat) (u9 : Int) (Z4 : Zt), u9 = l → u ≤ l → l + t = la → (∀ b, ¬ (s + 6 ≤ b ∧ b < s + 46) → Z4 b = Z3 b) → (∀ q : Nat, q < 40 → ∀ j : Nat, j < 90 → Z4 (s + 6 + σ q) j = if u ≤ q ∧ (q : Int) < la then askW P Y g po (if q < l then i + 1 else i) (q - u) j else Z (s + 6 + σ q) j) → V mX9_ask k n 102 [some (r_ s), some (r_ c), none, none, some (i_ (u : Int)), some (i_ (la : Int)), some (i_ w), some (i_ (2 * w)), some (i_ (2 * w + 2 * (g : Int) + 1)), some (i_ u9)] [] x Z4 Q := by
          intro t
          induction t with
          | zero =>
            intro l u9 Z4 hu9 hul hl ho4 hz4
            have ec : Z4 c = Z3 c := ho4 c (by omega)
            have e14 : Z4 (c + 14) = Z3 (c + 14) := ho4 _ (by omega)
            have e15 : Z4 (c + 15) = Z3 (c + 15) := ho4 _ (by omega)
            have eP : Z4 (c + 1) 0 = p := by rw [ho4 (c + 1) (by omega), ho (c + 1) (by omega)]; exact hC.1.1
            refine b_X9_ask_102 oc o ?_
            rw [ec, e14, e15, h14.1, h14.2.1, h14.2.2]
            refine ⟨⟨by omega, by omega⟩, ⟨by omega, by omega⟩, fun _ => ⟨p, hp, eP, by omega, by omega, hpt.1, fun j hj => ?_, fun j hj => ?_, fun Z5 hz5 => ?_⟩, fun c2 => by omega⟩
            · rw [(hPY j hj).1]; exact gP i j
            · rw [(hPY j hj).2]; exact gY i j
            · refine ih (i + 1) (w + 1) Z5 (by omega) (by omega) (fun b hb => ?_) (fun q hq => ?_) ?_ (fun j hj => ?_) (fun q hq j hj => ?_)
              · rw [hz5.2 b (by omega), ho4 b (by omega)]; exact ho b hb
              · rw [hz5.2 c (by omega), ec]; exact hc q hq
              · rw [hz5.2 c (by omega), ec]; exact h14
              · have := hz5.1 j hj
                rw [this.1, this.2, Int.toNat_natCast, ← hPd, ← hYd]
                show _ = nxp p e.1 sh m (pwI p e.1 sh m pln i) j ∧ _ = nxp p e.1 sh m (pwI p e.1 sh m y0 i) j
                unfold nxp
                rw [hPd, hYd, npw_ext (f := Z3 (c + 14)) (g := P i) (fun q hq => (hPY q (by omega)).1), npw_ext (f := Z3 (c + 15)) (g := Y i) (fun q hq => (hPY q (by omega)).2), (hPY j hj).1, (hPY j hj).2]
                exact ⟨rfl, rfl⟩
              · have := hσr q hq
                rw [hz5.2 _ (by omega), hz4 q hq j hj]
                by_cases c5 : u ≤ q ∧ (q : Int) < la
                · rw [if_pos c5, if_pos c5, if_pos (by omega)]
                · rw [if_neg c5, if_neg c5]
          | succ t ih3 =>
            intro l u9 Z4 hu9 hul hl ho4 hz4
            have hl40 : l < 40 := by omega
            have hrl := hσr l hl40
            have hat := hσ.at o hl40
            refine b_X9_ask_102 oc o ?_
            rw [show u9.toNat = l by omega, ho4 (c + 14) (by omega), show (u9 - (u : Int)).toNat = l - u by omega, (hPY (l - u) (by omega)).1, show (2 * w).toNat = 2 * i by omega, show (2 * w + 2 * (g : Int) + 1).toNat = 2 * i + 2 * g + 1 by omega]
            refine ⟨⟨by omega, by omega⟩, ⟨by omega, by omega⟩, fun c2 => by omega, fun _ => ⟨by omega, by omega, _, hat, by omega, by omega, by omega, by omega, fun Z5 e5 => ?_⟩⟩
            have e5s : Z5 s 2 = po := by rw [e5, up_row _ _ _ _ _ (by omega), ho4 s (by omega), ho s (by omega)]; exact hpo'
            have e5y : Z5 (c + 15) (l - u) = Y i (l - u) := by rw [e5, up_row _ _ _ _ _ (by omega), ho4 _ (by omega)]; exact (hPY (l - u) (by omega)).2
            rw [e5s, e5y]
            refine ⟨⟨by omega, by omega⟩, ⟨by omega, by omega⟩, fun c4 => b_X9_ask_158 (ih3 (l + 1) (u9 + 1) Z5 (by omega) (by omega) (by omega) (fun b hb => ?_) (fun q hq j hj => ?_)), fun c4 => ⟨_, hat, by omega, by omega, fun Z6 e6 => b_X9_ask_158 (ih3 (l + 1) (u9 + 1) Z6 (by omega) (by omega) (by omega) (fun b hb => ?_) (fun q hq j hj => ?_))⟩⟩
            · rw [e5, up_row _ _ _ _ _ (fun e9 => hb (by omega))]; exact ho4 b hb
            · by_cases c5 : q = l
              · subst c5
                rw [e5, up_at, if_pos (show u ≤ q ∧ (q : Int) < la by omega), if_pos (show q < q + 1 by omega)]
                by_cases c6 : j = 2 * i
                · rw [if_pos c6, c6, askW_A]
                · rw [if_neg c6, hz4 q hq j hj, if_pos (by omega), if_neg (by omega), askW_N P Y g _ c6 (by omega)]
              · rw [e5, up_row _ _ _ _ _ (hσn q l hq hl40 c5), hz4 q hq j hj]
                by_cases c6 : q < l
                · rw [if_pos c6, if_pos (show q < l + 1 by omega)]
                · rw [if_neg c6, if_neg (show ¬ q < l + 1 by omega)]
            · rw [e6, up_row _ _ _ _ _ (fun e9 => hb (by omega)), e5, up_row _ _ _ _ _ (fun e9 => hb (by omega))]; exact ho4 b hb
            · by_cases c5 : q = l
              · subst c5
                rw [e6, up_at, if_pos (show u ≤ q ∧ (q : Int) < la by omega), if_pos (show q < q + 1 by omega)]
                by_cases c7 : j = 2 * i + 2 * g + 1
                · rw [if_pos c7, c7, askW_B P Y g _ (by omega)]
                · rw [if_neg c7, e5, up_at]
                  by_cases c6 : j = 2 * i
                  · rw [if_pos c6, c6, askW_A]
                  · rw [if_neg c6, hz4 q hq j hj, if_pos (by omega), if_neg (by omega), askW_N P Y g _ c6 (Or.inl c7)]
              · rw [e6, up_row _ _ _ _ _ (hσn q l hq hl40 c5), e5, up_row _ _ _ _ _ (hσn q l hq hl40 c5), hz4 q hq j hj]
                by_cases c6 : q < l
                · rw [if_pos c6, if_pos (show q < l + 1 by omega)]
                · rw [if_neg c6, if_neg (show ¬ q < l + 1 by omega)]
        refine lp3 (la - u) u u Z3 rfl (by omega) (by omega) (fun _ _ => rfl) (fun q hq j hj => ?_)
        rw [hz3 q hq j hj]
        by_cases c5 : u ≤ q ∧ (q : Int) < la
        · rw [if_pos c5, if_pos c5, if_neg (by omega)]
        · rw [if_neg c5, if_neg c5]
    have lp1 : ∀ (r l : Nat) (w : Int) (Z3 : Zt), w = l → u ≤ l → l + r = la → (∀ b, ¬ (s + 6 ≤ b ∧ b < s + 46) → Z3 b = Z2 b) → (∀ q : Nat, q < 40 → ∀ j : Nat, j < 90 → Z3 (s + 6 + σ q) j = if u ≤ q ∧ q < l then 0 else Z (s + 6 + σ q) j) → V mX9_ask k n 39 [some (r_ s), some (r_ c), none, none, some (i_ (u : Int)), some (i_ (la : Int)), some (i_ w), none, none, none] [] x Z3 Q := by
      intro r
      induction r with
      | zero =>
        intro l w Z3 hw hul hl ho hz3
        refine b_X9_ask_39 o ⟨⟨by omega, by omega⟩, ⟨by omega, by omega⟩, fun _ => lp2 (pwN po) 0 0 Z3 rfl (by omega) (fun b hb => ?_) (fun i hi => ?_) ?_ (fun j hj => ?_) (fun q hq j hj => ?_), fun c2 => by omega⟩
        · rw [ho b (by omega)]; exact hO2 b (by omega)
        · rw [ho c (by omega)]; exact hc2 i hi
        · rw [ho c (by omega)]; exact ⟨b14, b15, b16⟩
        · rw [ho _ (by omega), ho _ (by omega), ← hPd, ← hYd]; exact ⟨bP j hj, bY j hj⟩
        · rw [hz3 q hq j hj, askW_0]
          by_cases c5 : u ≤ q ∧ q < l
          · rw [if_pos c5, if_pos (by omega)]
          · rw [if_neg c5, if_neg (by omega)]
      | succ r ih =>
        intro l w Z3 hw hul hl ho hz3
        have hl40 : l < 40 := by omega
        have hrl := hσr l hl40
        have hat := hσ.at o hl40
        refine b_X9_ask_39 o ?_
        rw [show w.toNat = l by omega]
        refine ⟨⟨by omega, by omega⟩, ⟨by omega, by omega⟩, fun c2 => by omega, fun _ => ⟨by omega, by omega, _, hat, fun Z4 e4 => ih (l + 1) (w + 1) Z4 (by omega) (by omega) (by omega) (fun b hb => ?_) (fun q hq j hj => ?_)⟩⟩
        · rw [e4, fill_row _ _ _ _ _ (fun e9 => hb (by omega))]; exact ho b hb
        · by_cases c5 : q = l
          · subst c5
            rw [e4, fill_at _ _ _ _ hj, if_pos (by omega)]
          · rw [e4, fill_row _ _ _ _ _ (hσn q l hq hl40 c5), hz3 q hq j hj]
            by_cases c6 : u ≤ q ∧ q < l
            · rw [if_pos c6, if_pos (by omega)]
            · rw [if_neg c6, if_neg (by omega)]
    refine lp1 (la - u) u u Z2 rfl (by omega) (by omega) (fun _ _ => rfl) (fun q hq j hj => ?_)
    have := hσr q hq
    rw [hO2 _ (by omega), if_neg (by omega)]
  · rw [if_neg (by omega)]
  · by_cases ci : i = 9
    · rw [if_pos ci, ci, hu.1]; omega
    · rw [if_neg ci]
