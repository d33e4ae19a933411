theorem dX2_takeRoot_0 : decode cX2_takeRoot 0 = .ok (.aload_n 0, 1) := by decide +kernel
theorem dX2_takeRoot_1 : decode cX2_takeRoot 1 = .ok (.aload_n 0, 1) := by decide +kernel
theorem dX2_takeRoot_2 : decode cX2_takeRoot 2 = .ok (.getfield 21, 3) := by decide +kernel
theorem dX2_takeRoot_5 : decode cX2_takeRoot 5 = .ok (.iconst 1, 1) := by decide +kernel
theorem dX2_takeRoot_6 : decode cX2_takeRoot 6 = .ok (.aload_n 0, 1) := by decide +kernel
theorem dX2_takeRoot_7 : decode cX2_takeRoot 7 = .ok (.getfield 145, 3) := by decide +kernel
theorem dX2_takeRoot_10 : decode cX2_takeRoot 10 = .ok (.invokevirtual 127, 3) := by decide +kernel
theorem dX2_takeRoot_13 : decode cX2_takeRoot 13 = .ok (.aload_n 0, 1) := by decide +kernel
theorem dX2_takeRoot_14 : decode cX2_takeRoot 14 = .ok (.getfield 12, 3) := by decide +kernel
theorem dX2_takeRoot_17 : decode cX2_takeRoot 17 = .ok (.aload_n 0, 1) := by decide +kernel
theorem dX2_takeRoot_18 : decode cX2_takeRoot 18 = .ok (.getfield 12, 3) := by decide +kernel
theorem dX2_takeRoot_21 : decode cX2_takeRoot 21 = .ok (.iconst 2, 1) := by decide +kernel
theorem dX2_takeRoot_22 : decode cX2_takeRoot 22 = .ok (.iload_n 1, 1) := by decide +kernel
theorem dX2_takeRoot_23 : decode cX2_takeRoot 23 = .ok (.imul, 1) := by decide +kernel
theorem dX2_takeRoot_24 : decode cX2_takeRoot 24 = .ok (.invokevirtual 109, 3) := by decide +kernel
theorem dX2_takeRoot_27 : decode cX2_takeRoot 27 = .ok (.invokevirtual 154, 3) := by decide +kernel
theorem dX2_takeRoot_30 : decode cX2_takeRoot 30 = .ok (.istore_n 2, 1) := by decide +kernel
theorem dX2_takeRoot_31 : decode cX2_takeRoot 31 = .ok (.aload_n 0, 1) := by decide +kernel
theorem dX2_takeRoot_32 : decode cX2_takeRoot 32 = .ok (.getfield 54, 3) := by decide +kernel
theorem dX2_takeRoot_35 : decode cX2_takeRoot 35 = .ok (.iconst 0, 1) := by decide +kernel
theorem dX2_takeRoot_36 : decode cX2_takeRoot 36 = .ok (.iload_n 1, 1) := by decide +kernel
theorem dX2_takeRoot_37 : decode cX2_takeRoot 37 = .ok (.iastore, 1) := by decide +kernel
theorem dX2_takeRoot_38 : decode cX2_takeRoot 38 = .ok (.iconst 1, 1) := by decide +kernel
theorem dX2_takeRoot_39 : decode cX2_takeRoot 39 = .ok (.istore_n 3, 1) := by decide +kernel
theorem dX2_takeRoot_40 : decode cX2_takeRoot 40 = .ok (.iload_n 3, 1) := by decide +kernel
theorem dX2_takeRoot_41 : decode cX2_takeRoot 41 = .ok (.aload_n 0, 1) := by decide +kernel
theorem dX2_takeRoot_42 : decode cX2_takeRoot 42 = .ok (.getfield 142, 3) := by decide +kernel
theorem dX2_takeRoot_45 : decode cX2_takeRoot 45 = .ok (.if_icmp .ge 91, 3) := by decide +kernel
theorem dX2_takeRoot_48 : decode cX2_takeRoot 48 = .ok (.iload_n 3, 1) := by decide +kernel
theorem dX2_takeRoot_49 : decode cX2_takeRoot 49 = .ok (.aload_n 0, 1) := by decide +kernel
theorem dX2_takeRoot_50 : decode cX2_takeRoot 50 = .ok (.getfield 48, 3) := by decide +kernel
theorem dX2_takeRoot_53 : decode cX2_takeRoot 53 = .ok (.arraylength, 1) := by decide +kernel
theorem dX2_takeRoot_54 : decode cX2_takeRoot 54 = .ok (.if_icmp .ge 12, 3) := by decide +kernel
theorem dX2_takeRoot_57 : decode cX2_takeRoot 57 = .ok (.aload_n 0, 1) := by decide +kernel
theorem dX2_takeRoot_58 : decode cX2_takeRoot 58 = .ok (.getfield 48, 3) := by decide +kernel
theorem dX2_takeRoot_61 : decode cX2_takeRoot 61 = .ok (.iload_n 3, 1) := by decide +kernel
theorem dX2_takeRoot_62 : decode cX2_takeRoot 62 = .ok (.iaload, 1) := by decide +kernel
theorem dX2_takeRoot_63 : decode cX2_takeRoot 63 = .ok (.goto 4, 3) := by decide +kernel
theorem dX2_takeRoot_66 : decode cX2_takeRoot 66 = .ok (.iconst 0, 1) := by decide +kernel
theorem dX2_takeRoot_67 : decode cX2_takeRoot 67 = .ok (.istore 4, 2) := by decide +kernel
theorem dX2_takeRoot_69 : decode cX2_takeRoot 69 = .ok (.iconst 1, 1) := by decide +kernel
theorem dX2_takeRoot_70 : decode cX2_takeRoot 70 = .ok (.istore 5, 2) := by decide +kernel
theorem dX2_takeRoot_72 : decode cX2_takeRoot 72 = .ok (.iload 5, 2) := by decide +kernel
theorem dX2_takeRoot_74 : decode cX2_takeRoot 74 = .ok (.iload_n 3, 1) := by decide +kernel
theorem dX2_takeRoot_75 : decode cX2_takeRoot 75 = .ok (.if_icmp .ge 31, 3) := by decide +kernel
theorem dX2_takeRoot_78 : decode cX2_takeRoot 78 = .ok (.iload 4, 2) := by decide +kernel
theorem dX2_takeRoot_80 : decode cX2_takeRoot 80 = .ok (.aload_n 0, 1) := by decide +kernel
theorem dX2_takeRoot_81 : decode cX2_takeRoot 81 = .ok (.getfield 54, 3) := by decide +kernel
theorem dX2_takeRoot_84 : decode cX2_takeRoot 84 = .ok (.iload 5, 2) := by decide +kernel
theorem dX2_takeRoot_86 : decode cX2_takeRoot 86 = .ok (.iaload, 1) := by decide +kernel
theorem dX2_takeRoot_87 : decode cX2_takeRoot 87 = .ok (.aload_n 0, 1) := by decide +kernel
theorem dX2_takeRoot_88 : decode cX2_takeRoot 88 = .ok (.getfield 54, 3) := by decide +kernel
theorem dX2_takeRoot_91 : decode cX2_takeRoot 91 = .ok (.iload_n 3, 1) := by decide +kernel
theorem dX2_takeRoot_92 : decode cX2_takeRoot 92 = .ok (.iload 5, 2) := by decide +kernel
theorem dX2_takeRoot_94 : decode cX2_takeRoot 94 = .ok (.isub, 1) := by decide +kernel
theorem dX2_takeRoot_95 : decode cX2_takeRoot 95 = .ok (.iaload, 1) := by decide +kernel
theorem dX2_takeRoot_96 : decode cX2_takeRoot 96 = .ok (.imul, 1) := by decide +kernel
theorem dX2_takeRoot_97 : decode cX2_takeRoot 97 = .ok (.isub, 1) := by decide +kernel
theorem dX2_takeRoot_98 : decode cX2_takeRoot 98 = .ok (.istore 4, 2) := by decide +kernel
theorem dX2_takeRoot_100 : decode cX2_takeRoot 100 = .ok (.iinc 5 1, 3) := by decide +kernel
theorem dX2_takeRoot_103 : decode cX2_takeRoot 103 = .ok (.goto (-31), 3) := by decide +kernel
theorem dX2_takeRoot_106 : decode cX2_takeRoot 106 = .ok (.aload_n 0, 1) := by decide +kernel
theorem dX2_takeRoot_107 : decode cX2_takeRoot 107 = .ok (.getfield 54, 3) := by decide +kernel
theorem dX2_takeRoot_110 : decode cX2_takeRoot 110 = .ok (.iload_n 3, 1) := by decide +kernel
theorem dX2_takeRoot_111 : decode cX2_takeRoot 111 = .ok (.aload_n 0, 1) := by decide +kernel
theorem dX2_takeRoot_112 : decode cX2_takeRoot 112 = .ok (.getfield 12, 3) := by decide +kernel
theorem dX2_takeRoot_115 : decode cX2_takeRoot 115 = .ok (.aload_n 0, 1) := by decide +kernel
theorem dX2_takeRoot_116 : decode cX2_takeRoot 116 = .ok (.getfield 12, 3) := by decide +kernel
theorem dX2_takeRoot_119 : decode cX2_takeRoot 119 = .ok (.iload 4, 2) := by decide +kernel
theorem dX2_takeRoot_121 : decode cX2_takeRoot 121 = .ok (.invokevirtual 109, 3) := by decide +kernel
theorem dX2_takeRoot_124 : decode cX2_takeRoot 124 = .ok (.iload_n 2, 1) := by decide +kernel
theorem dX2_takeRoot_125 : decode cX2_takeRoot 125 = .ok (.imul, 1) := by decide +kernel
theorem dX2_takeRoot_126 : decode cX2_takeRoot 126 = .ok (.invokevirtual 109, 3) := by decide +kernel
theorem dX2_takeRoot_129 : decode cX2_takeRoot 129 = .ok (.iastore, 1) := by decide +kernel
theorem dX2_takeRoot_130 : decode cX2_takeRoot 130 = .ok (.iinc 3 1, 3) := by decide +kernel
theorem dX2_takeRoot_133 : decode cX2_takeRoot 133 = .ok (.goto (-93), 3) := by decide +kernel
theorem dX2_takeRoot_136 : decode cX2_takeRoot 136 = .ok (.return_, 1) := by decide +kernel
set_option maxRecDepth 20000 in
theorem b_X2_takeRoot_0 {k n : Nat} {x : Wx} {Z : Zt} {Q : Option Value → Wx → Zt → Prop} {a0 : Nat} {v1 : Int} (o_a0 : Is2 x a0)
    (h : ∃ g1 : Int, (∃ g2 : Nat → Int, (IsP g1 ∧ Z (a0 + 1) 0 = g1 ∧ PA Z (a0 + 4) g1 g2 ∧ (0 ≤ (1 : Int) ∧ (1 : Int) < g1) ∧ (0 ≤ (Z a0 16) ∧ (Z a0 16) < g1) ∧ (∀ (Z'1 : Zt), ((∀ j : Nat, j < 6 → Z'1 (a0 + 13) j = mvd g1 (1 : Int) (Z a0 16) g2 j) ∧ Oth Z Z'1 (fun b => b = a0 + 13)) → (Rg (2 * v1) ∧ 2 ≤ Z'1 (a0 + 1) 0 ∧ Z'1 (a0 + 1) 0 ≤ 13 ∧ (0 ≤ ((2 * v1) % Z'1 (a0 + 1) 0) ∧ ((2 * v1) % Z'1 (a0 + 1) 0) < 13 ∧ (∀ Z1 : Zt, Z1 = up Z'1 (a0 + 15) 0 v1 → (V mX2_takeRoot k n 40 [some (r_ a0), none, some (i_ (Z'1 ((a0 + 1) + 1) (Int.toNat ((2 * v1) % Z'1 (a0 + 1) 0)))), some (i_ 1), none, none] [] x Z1 Q)))))))) :
    V mX2_takeRoot k n 0 [some (r_ a0), some (i_ v1), none, none, none, none] [] x Z Q :=
  V_aload_n dX2_takeRoot_0 rfl (V_aload_n dX2_takeRoot_1 rfl (G_2_1 o_a0.1 o_a0.2.2.2.1 lf_2_21 dX2_takeRoot_2 (V_iconst dX2_takeRoot_5 (V_aload_n dX2_takeRoot_6 rfl (G_2_16 o_a0.1 lf_2_145 dX2_takeRoot_7 (Exists.elim h (fun g1 w1 => Exists.elim w1 (fun g2 w2 => V_callV (k' := 0) (n' := 0) (t := 2) (q := (RX2, TX2, 17)) [r_ (a0 + 4), i_ 1, i_ (Z a0 16)] [] okX2_move o_a0.1 rfl rfl lm_2_127 liX2_move lqX2_move (Nat.le_of_ble_eq_true rfl) (Nat.le_of_ble_eq_true rfl) (Nat.le_of_ble_eq_true rfl) (cat_of rfl) (Nat.le_of_ble_eq_true rfl) (Nat.zero_le _) (Nat.zero_le _) rfl dX2_takeRoot_10 (sp_X2_move o_a0 o_a0.2.2.2.2.1 w2.1 w2.2.1 w2.2.2.1 w2.2.2.2.1 w2.2.2.2.2.1 (fun Z'1 p1 => V_aload_n dX2_takeRoot_13 rfl (G_2_0 o_a0.1 o_a0.2.1 lf_2_12 dX2_takeRoot_14 (V_aload_n dX2_takeRoot_17 rfl (G_2_0 o_a0.1 o_a0.2.1 lf_2_12 dX2_takeRoot_18 (V_iconst dX2_takeRoot_21 (V_iload_n dX2_takeRoot_22 rfl (V_imul dX2_takeRoot_23 (V_callV (k' := 0) (n' := 0) (t := 4) (q := (RX4, TX4, 4)) [i_ (2 * v1)] [r_ (a0 + 1)] okX4_rem o_a0.2.2.1.1 rfl rfl lm_2_109 liX4_rem lqX4_rem (Nat.le_of_ble_eq_true rfl) (Nat.le_of_ble_eq_true rfl) (Nat.le_of_ble_eq_true rfl) (cat_of rfl) (Nat.le_of_ble_eq_true rfl) (Nat.zero_le _) (Nat.zero_le _) rfl dX2_takeRoot_24 (sp_X4_rem o_a0.2.2.1 (w2.2.2.2.2.2 Z'1 p1).1 (w2.2.2.2.2.2 Z'1 p1).2.1 (w2.2.2.2.2.2 Z'1 p1).2.2.1 (V_callV (k' := 0) (n' := 0) (t := 4) (q := (RX4, TX4, 4)) [i_ ((2 * v1) % Z'1 (a0 + 1) 0)] [] okX4_inverse o_a0.2.2.1.1 rfl rfl lm_2_154 liX4_inverse lqX4_inverse (Nat.le_of_ble_eq_true rfl) (Nat.le_of_ble_eq_true rfl) (Nat.le_of_ble_eq_true rfl) (cat_of rfl) (Nat.le_of_ble_eq_true rfl) (Nat.zero_le _) (Nat.zero_le _) rfl dX2_takeRoot_27 (sp_X4_inverse o_a0.2.2.1 (w2.2.2.2.2.2 Z'1 p1).2.2.2.1 (w2.2.2.2.2.2 Z'1 p1).2.2.2.2.1 (V_istore_n (lv' := [some (r_ a0), some (i_ v1), some (i_ (Z'1 ((a0 + 1) + 1) (Int.toNat ((2 * v1) % Z'1 (a0 + 1) 0)))), none, none, none]) dX2_takeRoot_30 (Nat.le_of_ble_eq_true rfl) rfl (V_aload_n dX2_takeRoot_31 rfl (G_2_13 o_a0.1 o_a0.2.2.2.2.2.2.2.2.2.2.2.2.2.2.2.2.2.2.2.2.2.2.2.1 lf_2_54 dX2_takeRoot_32 (V_iconst dX2_takeRoot_35 (V_iload_n dX2_takeRoot_36 rfl (V_iast (t := 100) o_a0.2.2.2.2.2.2.2.2.2.2.2.2.2.2.2.2.2.2.2.2.2.2.2.2 (by decide) (by decide) rfl (by decide) (by decide) (Nat.le_of_ble_eq_true rfl) dX2_takeRoot_37 (V_nmZ (fun Z1 eZ1 => V_iconst dX2_takeRoot_38 (V_istore_n (lv' := [some (r_ a0), some (i_ v1), some (i_ (Z'1 ((a0 + 1) + 1) (Int.toNat ((2 * v1) % Z'1 (a0 + 1) 0)))), some (i_ 1), none, none]) dX2_takeRoot_39 (Nat.le_of_ble_eq_true rfl) rfl (V_msk [true, false, true, true, false, false] rfl ((w2.2.2.2.2.2 Z'1 p1).2.2.2.2.2 Z1 eZ1)))))))))))))))))))))))))))))))
set_option maxRecDepth 20000 in
theorem b_X2_takeRoot_40 {k n : Nat} {x : Wx} {Z : Zt} {Q : Option Value → Wx → Zt → Prop} {a0 : Nat} {v2 : Int} {v3 : Int} (o_a0 : Is2 x a0)
    (h : Rg v3 ∧ Rg (Z a0 14) ∧ (((Z a0 14 ≤ v3) → (Q none x Z)) ∧ ((v3 < Z a0 14) → (((6 ≤ v3) → (V mX2_takeRoot k n 67 [some (r_ a0), none, some (i_ v2), some (i_ v3), none, none] [i_ 0] x Z Q)) ∧ ((v3 < 6) → (0 ≤ v3 ∧ (V mX2_takeRoot k n 67 [some (r_ a0), none, some (i_ v2), some (i_ v3), none, none] [i_ (Z (a0 + 13) v3.toNat)] x Z Q))))))) :
    V mX2_takeRoot k n 40 [some (r_ a0), none, some (i_ v2), some (i_ v3), none, none] [] x Z Q :=
  V_iload_n dX2_takeRoot_40 rfl (V_aload_n dX2_takeRoot_41 rfl (G_2_14 o_a0.1 lf_2_142 dX2_takeRoot_42 (V_icmp_ge (tgt := 136) dX2_takeRoot_45 rfl h.1 h.2.1 (fun c1 => V_ret dX2_takeRoot_136 rfl (h.2.2.1 c1)) (fun c1 => V_iload_n dX2_takeRoot_48 rfl (V_aload_n dX2_takeRoot_49 rfl (G_2_11 o_a0.1 o_a0.2.2.2.2.2.2.2.2.2.2.2.2.2.2.2.2.2.2.2.1 lf_2_48 dX2_takeRoot_50 (V_alen (t := 100) o_a0.2.2.2.2.2.2.2.2.2.2.2.2.2.2.2.2.2.2.2.2.1 (by decide) (Nat.le_of_ble_eq_true rfl) dX2_takeRoot_53 (V_icmp_ge (tgt := 66) dX2_takeRoot_54 rfl h.1 (rg_c rfl) (fun c2 => V_iconst dX2_takeRoot_66 (V_msk [true, false, true, true, false, false] rfl ((h.2.2.2 c1).1 c2))) (fun c2 => V_aload_n dX2_takeRoot_57 rfl (G_2_11 o_a0.1 o_a0.2.2.2.2.2.2.2.2.2.2.2.2.2.2.2.2.2.2.2.1 lf_2_48 dX2_takeRoot_58 (V_iload_n dX2_takeRoot_61 rfl (V_iald (t := 100) o_a0.2.2.2.2.2.2.2.2.2.2.2.2.2.2.2.2.2.2.2.2.1 (by decide) rfl ((h.2.2.2 c1).2 c2).1 c2 (Nat.le_of_ble_eq_true rfl) dX2_takeRoot_62 (V_goto (tgt := 67) dX2_takeRoot_63 rfl (V_msk [true, false, true, true, false, false] rfl ((h.2.2.2 c1).2 c2).2))))))))))))))
set_option maxRecDepth 20000 in
theorem b_X2_takeRoot_67 {k n : Nat} {x : Wx} {Z : Zt} {Q : Option Value → Wx → Zt → Prop} {a0 : Nat} {v2 : Int} {v3 : Int} {t0 : Int} 
    (h : V mX2_takeRoot k n 72 [some (r_ a0), none, some (i_ v2), some (i_ v3), some (i_ t0), some (i_ 1)] [] x Z Q) :
    V mX2_takeRoot k n 67 [some (r_ a0), none, some (i_ v2), some (i_ v3), none, none] [i_ t0] x Z Q :=
  V_istore (lv' := [some (r_ a0), none, some (i_ v2), some (i_ v3), some (i_ t0), none]) dX2_takeRoot_67 (Nat.le_of_ble_eq_true rfl) rfl (V_iconst dX2_takeRoot_69 (V_istore (lv' := [some (r_ a0), none, some (i_ v2), some (i_ v3), some (i_ t0), some (i_ 1)]) dX2_takeRoot_70 (Nat.le_of_ble_eq_true rfl) rfl (V_msk [true, false, true, true, true, true] rfl h)))
set_option maxRecDepth 20000 in
theorem b_X2_takeRoot_72 {k n : Nat} {x : Wx} {Z : Zt} {Q : Option Value → Wx → Zt → Prop} {a0 : Nat} {v2 : Int} {v3 : Int} {v4 : Int} {v5 : Int} (o_a0 : Is2 x a0)
    (h : Rg v5 ∧ Rg v3 ∧ (((v3 ≤ v5) → (Rg v4 ∧ 2 ≤ Z (a0 + 1) 0 ∧ Z (a0 + 1) 0 ≤ 13 ∧ (Rg ((v4 % Z (a0 + 1) 0) * v2) ∧ (0 ≤ v3 ∧ v3 < 40 ∧ (∀ Z1 : Zt, Z1 = up Z (a0 + 15) v3.toNat (((v4 % Z (a0 + 1) 0) * v2) % Z (a0 + 1) 0) → (V mX2_takeRoot k n 40 [some (r_ a0), none, some (i_ v2), some (i_ (v3 + 1)), none, none] [] x Z1 Q)))))) ∧ ((v5 < v3) → (0 ≤ v5 ∧ v5 < 40 ∧ (0 ≤ v3 - v5 ∧ v3 - v5 < 40 ∧ (∀ i1 : Int, i1 = v4 - ((Z (a0 + 15) v5.toNat) * (Z (a0 + 15) (v3 - v5).toNat)) → (V mX2_takeRoot k n 72 [some (r_ a0), none, some (i_ v2), some (i_ v3), some (i_ i1), some (i_ (v5 + 1))] [] x Z Q))))))) :
    V mX2_takeRoot k n 72 [some (r_ a0), none, some (i_ v2), some (i_ v3), some (i_ v4), some (i_ v5)] [] x Z Q :=
  V_iload dX2_takeRoot_72 rfl (V_iload_n dX2_takeRoot_74 rfl (V_icmp_ge (tgt := 106) dX2_takeRoot_75 rfl h.1 h.2.1 (fun c1 => V_aload_n dX2_takeRoot_106 rfl (G_2_13 o_a0.1 o_a0.2.2.2.2.2.2.2.2.2.2.2.2.2.2.2.2.2.2.2.2.2.2.2.1 lf_2_54 dX2_takeRoot_107 (V_iload_n dX2_takeRoot_110 rfl (V_aload_n dX2_takeRoot_111 rfl (G_2_0 o_a0.1 o_a0.2.1 lf_2_12 dX2_takeRoot_112 (V_aload_n dX2_takeRoot_115 rfl (G_2_0 o_a0.1 o_a0.2.1 lf_2_12 dX2_takeRoot_116 (V_iload dX2_takeRoot_119 rfl (V_callV (k' := 0) (n' := 0) (t := 4) (q := (RX4, TX4, 4)) [i_ v4] [r_ (a0 + 1), i_ v3, r_ (a0 + 15)] okX4_rem o_a0.2.2.1.1 rfl rfl lm_2_109 liX4_rem lqX4_rem (Nat.le_of_ble_eq_true rfl) (Nat.le_of_ble_eq_true rfl) (Nat.le_of_ble_eq_true rfl) (cat_of rfl) (Nat.le_of_ble_eq_true rfl) (Nat.zero_le _) (Nat.zero_le _) rfl dX2_takeRoot_121 (sp_X4_rem o_a0.2.2.1 (h.2.2.1 c1).1 (h.2.2.1 c1).2.1 (h.2.2.1 c1).2.2.1 (V_iload_n dX2_takeRoot_124 rfl (V_imul dX2_takeRoot_125 (V_callV (k' := 0) (n' := 0) (t := 4) (q := (RX4, TX4, 4)) [i_ ((v4 % Z (a0 + 1) 0) * v2)] [i_ v3, r_ (a0 + 15)] okX4_rem o_a0.2.2.1.1 rfl rfl lm_2_109 liX4_rem lqX4_rem (Nat.le_of_ble_eq_true rfl) (Nat.le_of_ble_eq_true rfl) (Nat.le_of_ble_eq_true rfl) (cat_of rfl) (Nat.le_of_ble_eq_true rfl) (Nat.zero_le _) (Nat.zero_le _) rfl dX2_takeRoot_126 (sp_X4_rem o_a0.2.2.1 (h.2.2.1 c1).2.2.2.1 (h.2.2.1 c1).2.1 (h.2.2.1 c1).2.2.1 (V_iast (t := 100) o_a0.2.2.2.2.2.2.2.2.2.2.2.2.2.2.2.2.2.2.2.2.2.2.2.2 (by decide) (by decide) rfl (h.2.2.1 c1).2.2.2.2.1 (h.2.2.1 c1).2.2.2.2.2.1 (Nat.le_of_ble_eq_true rfl) dX2_takeRoot_129 (V_nmZ (fun Z1 eZ1 => V_iinc (lv' := [some (r_ a0), none, some (i_ v2), some (i_ (v3 + 1)), some (i_ v4), some (i_ v5)]) dX2_takeRoot_130 rfl (Nat.le_of_ble_eq_true rfl) rfl (V_goto (tgt := 40) dX2_takeRoot_133 rfl (V_msk [true, false, true, true, false, false] rfl ((h.2.2.1 c1).2.2.2.2.2.2 Z1 eZ1)))))))))))))))))))) (fun c1 => V_iload dX2_takeRoot_78 rfl (V_aload_n dX2_takeRoot_80 rfl (G_2_13 o_a0.1 o_a0.2.2.2.2.2.2.2.2.2.2.2.2.2.2.2.2.2.2.2.2.2.2.2.1 lf_2_54 dX2_takeRoot_81 (V_iload dX2_takeRoot_84 rfl (V_iald (t := 100) o_a0.2.2.2.2.2.2.2.2.2.2.2.2.2.2.2.2.2.2.2.2.2.2.2.2 (by decide) rfl (h.2.2.2 c1).1 (h.2.2.2 c1).2.1 (Nat.le_of_ble_eq_true rfl) dX2_takeRoot_86 (V_aload_n dX2_takeRoot_87 rfl (G_2_13 o_a0.1 o_a0.2.2.2.2.2.2.2.2.2.2.2.2.2.2.2.2.2.2.2.2.2.2.2.1 lf_2_54 dX2_takeRoot_88 (V_iload_n dX2_takeRoot_91 rfl (V_iload dX2_takeRoot_92 rfl (V_isub dX2_takeRoot_94 (V_iald (t := 100) o_a0.2.2.2.2.2.2.2.2.2.2.2.2.2.2.2.2.2.2.2.2.2.2.2.2 (by decide) rfl (h.2.2.2 c1).2.2.1 (h.2.2.2 c1).2.2.2.1 (Nat.le_of_ble_eq_true rfl) dX2_takeRoot_95 (V_imul dX2_takeRoot_96 (V_isub dX2_takeRoot_97 (V_nmi (fun i1 ei1 => V_istore (lv' := [some (r_ a0), none, some (i_ v2), some (i_ v3), some (i_ i1), some (i_ v5)]) dX2_takeRoot_98 (Nat.le_of_ble_eq_true rfl) rfl (V_iinc (lv' := [some (r_ a0), none, some (i_ v2), some (i_ v3), some (i_ i1), some (i_ (v5 + 1))]) dX2_takeRoot_100 rfl (Nat.le_of_ble_eq_true rfl) rfl (V_goto (tgt := 72) dX2_takeRoot_103 rfl (V_msk [true, false, true, true, true, true] rfl ((h.2.2.2 c1).2.2.2.2 i1 ei1)))))))))))))))))))))
/-! ===== Curve: y as a row in x - X ===== -/
def rtS (W : Nat → Int) (n : Nat) : Nat → Nat → Int → Int
  | 0, _, v => v
  | m + 1, i, v => rtS W n m (i + 1) (v - W i * W (n - i))
def rtT (p h y : Int) (M : Nat → Int) : Nat → Nat → Int
  | 0 => fun i => if i = 0 then y else 0
  | m + 1 => upf (rtT p h y M m) (m + 1) (rtS (rtT p h y M m) (m + 1) m 1 (if m + 1 < 6 then M (m + 1) else 0) % p * h % p)
theorem rtT_rg {p : Int} (hp : 0 < p) {h y : Int} (hy : 0 ≤ y ∧ y < p) {M : Nat → Int} : ∀ m i : Nat, 0 ≤ rtT p h y M m i ∧ rtT p h y M m i < p
  | 0, i => by
    show 0 ≤ (if i = 0 then y else 0) ∧ (if i = 0 then y else 0) < p
    split
    · exact hy
    · exact ⟨Int.le_refl 0, hp⟩
  | m + 1, i => by
    show 0 ≤ upf (rtT p h y M m) (m + 1) _ i ∧ upf (rtT p h y M m) (m + 1) _ i < p
    unfold upf
    split
    · exact emr _ hp
    · exact rtT_rg hp hy m i
theorem rtT_up {p h y : Int} {M : Nat → Int} : ∀ (k m i : Nat), i ≤ m → rtT p h y M (m + k) i = rtT p h y M m i
  | 0, _, _, _ => rfl
  | k + 1, m, i, hi => by
    show upf (rtT p h y M (m + k)) (m + k + 1) _ i = _
    unfold upf
    rw [if_neg (by omega)]
    exact rtT_up k m i hi
theorem rtS_ext {W W' : Nat → Int} {n : Nat} : ∀ (m i : Nat) (v : Int), 1 ≤ i → i + m ≤ n → (∀ j : Nat, j < n → W j = W' j) → rtS W n m i v = rtS W' n m i v
  | 0, _, _, _, _, _ => rfl
  | m + 1, i, v, h1, h2, h => by
    unfold rtS
    rw [h i (by omega), h (n - i) (by omega)]
    exact rtS_ext m (i + 1) _ (by omega) (by omega) h
theorem inv_ok {p : Int} (hp : IsP p) (v : Int) (hv : 0 ≤ v ∧ v < p) : 0 ≤ inv p v ∧ inv p v < p := by
  have h3 : ∀ i : Nat, i < 3 → 0 ≤ inv 3 i ∧ inv 3 i < 3 := by decide
  have h5 : ∀ i : Nat, i < 5 → 0 ≤ inv 5 i ∧ inv 5 i < 5 := by decide
  have h7 : ∀ i : Nat, i < 7 → 0 ≤ inv 7 i ∧ inv 7 i < 7 := by decide
  have h11 : ∀ i : Nat, i < 11 → 0 ≤ inv 11 i ∧ inv 11 i < 11 := by decide
  have h13 : ∀ i : Nat, i < 13 → 0 ≤ inv 13 i ∧ inv 13 i < 13 := by decide
  have hc : ((v.toNat : Nat) : Int) = v := by omega
  rcases hp with e | e | e | e | e
  · subst e; have := h3 v.toNat (by omega); rw [hc] at this; exact this
  · subst e; have := h5 v.toNat (by omega); rw [hc] at this; exact this
  · subst e; have := h7 v.toNat (by omega); rw [hc] at this; exact this
  · subst e; have := h11 v.toNat (by omega); rw [hc] at this; exact this
  · subst e; have := h13 v.toNat (by omega); rw [hc] at this; exact this
theorem sp_X2_takeRoot {k n : Nat} {x : Wx} {Z : Zt} {Q : Option Value → Wx → Zt → Prop} {a : Nat} {y : Int} (o : Is2 x a) {p : Int} {F : Nat → Int} (hp : IsP p) (hfl : FA Z (a + 1) p) (hF : PA Z (a + 4) p F) (hX : 0 ≤ Z a 16 ∧ Z a 16 < p) (ht : 0 ≤ Z a 14 ∧ Z a 14 ≤ 40) (hy : 0 ≤ y ∧ y < p) (h : ∀ Z' : Zt, ((∀ i : Nat, i < 40 → Z' (a + 15) i = if i = 0 then y else if (i : Int) < Z a 14 then rtT p (inv p (2 * y % p)) y (mvd p 1 (Z a 16) F) 40 i else Z (a + 15) i) ∧ Oth Z Z' (fun b => b = a + 13 ∨ b = a + 15)) → Q none x Z') : V mX2_takeRoot k n 0 [some (r_ a), some (i_ y), none, none, none, none] [] x Z Q := by
  have hpr := hp.rg
  have h2y := emr (2 * y) (p := p) (by omega)
  have hin := inv_ok hp (2 * y % p) h2y
  refine b_X2_takeRoot_0 o ⟨p, F, hp, hfl.1, hF, ⟨by decide, by omega⟩, hX, fun Z1 hz1 => ?_⟩
  have f1 : FA Z1 (a + 1) p := hfl.kept hz1.2 (by omega) (by omega) (by omega)
  rw [f1.1]
  have ei : Z1 (a + 1 + 1) (Int.toNat (2 * y % p)) = inv p (2 * y % p) := by
    have := f1.2.2.1 (Int.toNat (2 * y % p)) (by omega)
    rw [show ((Int.toNat (2 * y % p) : Nat) : Int) = 2 * y % p by omega] at this
    exact this
  rw [ei]
  refine ⟨⟨by omega, by omega⟩, by omega, by omega, by omega, by omega, fun Z2 e2 => ?_⟩
  generalize hI : inv p (2 * y % p) = I at h hin
  generalize hM : mvd p 1 (Z a 16) F = M at h hz1
  have hMr : ∀ j : Nat, 0 ≤ M j ∧ M j < p := fun j => by rw [← hM]; exact mvd_rg (by omega) _ _ _ j
  have lp2 : ∀ (m i c : Nat) (v w : Int) (Z3 : Zt), w = i → 1 ≤ i → i + m = c + 1 → c < 39 → (-(13 + 169 * (i : Int)) ≤ v ∧ v ≤ 13 + 169 * (i : Int)) → (∀ j : Nat, j ≤ c → Z3 (a + 15) j = rtT p I y M c j) → (∀ u : Int, u = rtS (rtT p I y M c) (c + 1) m i v → Rg u → V mX2_takeRoot k n 72 [some (r_ a), none, some (i_ I), some (i_ ((c + 1 : Nat) : Int)), some (i_ u), some (i_ ((c + 1 : Nat) : Int))] [] x Z3 Q) → V mX2_takeRoot k n 72 [some (r_ a), none, some (i_ I), some (i_ ((c + 1 : Nat) : Int)), some (i_ v), some (i_ w)] [] x Z3 Q := by
    intro m
    induction m with
    | zero =>
      intro i c v w Z3 hw hi hm hc hv hz hn
      rw [hw, show i = c + 1 by omega]
      exact hn v rfl ⟨by omega, by omega⟩
    | succ m ih =>
      intro i c v w Z3 hw hi hm hc hv hz hn
      have r1 := rtT_rg (p := p) (by omega) (h := I) hy (M := M) c i
      have r2 := rtT_rg (p := p) (by omega) (h := I) hy (M := M) c (c + 1 - i)
      have q := mul13 (a := rtT p I y M c i) (b := rtT p I y M c (c + 1 - i)) ⟨r1.1, by omega⟩ ⟨r2.1, by omega⟩
      refine b_X2_takeRoot_72 o ?_
      rw [show w.toNat = i by omega, show (((c + 1 : Nat) : Int) - w).toNat = c + 1 - i by omega, hz i (by omega), hz (c + 1 - i) (by omega)]
      refine ⟨⟨by omega, by omega⟩, ⟨by omega, by omega⟩, fun c2 => by omega, fun _ => ⟨by omega, by omega, by omega, by omega, fun i1 e1 => ih (i + 1) c i1 (w + 1) Z3 (by omega) (by omega) (by omega) hc ⟨by omega, by omega⟩ hz (fun u hu => hn u ?_)⟩⟩
      rw [hu, e1]; rfl
  have lp1 : ∀ (m c : Nat) (w : Int) (Z3 : Zt), w = (c + 1 : Nat) → (c : Int) + 1 + m = max (Z a 14) 1 → Oth Z Z3 (fun b => b = a + 13 ∨ b = a + 15) → (∀ j : Nat, j < 6 → Z3 (a + 13) j = M j) → (∀ i : Nat, i < 40 → Z3 (a + 15) i = if i ≤ c then rtT p I y M c i else Z (a + 15) i) → V mX2_takeRoot k n 40 [some (r_ a), none, some (i_ I), some (i_ w), none, none] [] x Z3 Q := by
    intro m
    induction m with
    | zero =>
      intro c w Z3 hw hm ho h13 h15
      have ea : Z3 a = Z a := ho a (by omega)
      refine b_X2_takeRoot_40 o ?_
      rw [ea]
      refine ⟨⟨by omega, by omega⟩, ⟨by omega, by omega⟩, fun _ => h Z3 ⟨fun i hi => ?_, ho⟩, fun c2 => by omega⟩
      rw [h15 i hi]
      by_cases c0 : i = 0
      · rw [if_pos c0, if_pos (by omega), c0]
        have := rtT_up (p := p) (h := I) (y := y) (M := M) c 0 0 (Nat.le_refl 0)
        rw [Nat.zero_add] at this
        rw [this]; rfl
      · rw [if_neg c0]
        by_cases c1 : (i : Int) < Z a 14
        · rw [if_pos c1, if_pos (by omega)]
          have := rtT_up (p := p) (h := I) (y := y) (M := M) (40 - c) c i (by omega)
          rw [show c + (40 - c) = 40 by omega] at this
          exact this.symm
        · rw [if_neg c1, if_neg (by omega)]
    | succ m ih =>
      intro c w Z3 hw hm ho h13 h15
      have ea : Z3 a = Z a := ho a (by omega)
      have eP : Z3 (a + 1) 0 = p := by rw [ho (a + 1) (by omega)]; exact hfl.1
      have go : ∀ t0 : Int, t0 = (if c + 1 < 6 then M (c + 1) else 0) → V mX2_takeRoot k n 67 [some (r_ a), none, some (i_ I), some (i_ w), none, none] [i_ t0] x Z3 Q := by
        intro t0 h0
        have ht0 : 0 ≤ t0 ∧ t0 ≤ 13 := by
          rw [h0]; split
          · have := hMr (c + 1); omega
          · decide
        rw [hw]
        refine b_X2_takeRoot_67 (lp2 c 1 c t0 1 Z3 rfl (by omega) (by omega) (by omega) ⟨by omega, by omega⟩ (fun j hj => ?_) (fun u hu hur => b_X2_takeRoot_72 o ?_))
        · rw [h15 j (by omega), if_pos hj]
        · rw [eP]
          have q1 := emr u (p := p) (by omega)
          have q2 := mul13 (a := u % p) (b := I) ⟨q1.1, by omega⟩ ⟨hin.1, by omega⟩
          refine ⟨⟨by omega, by omega⟩, ⟨by omega, by omega⟩, fun _ => ⟨hur, by omega, by omega, ⟨by omega, by omega⟩, by omega, by omega, fun Z4 e4 => ih (c + 1) _ Z4 (by omega) (by omega) (fun b hb => ?_) (fun j hj => ?_) (fun i hi => ?_)⟩, fun c2 => by omega⟩
          · rw [e4, up_row _ _ _ _ _ (fun e => hb (Or.inr e))]; exact ho b hb
          · rw [e4, up_row _ _ _ _ _ (by omega)]; exact h13 j hj
          · rw [e4, Int.toNat_natCast, up_at]
            show _ = if i ≤ c + 1 then upf (rtT p I y M c) (c + 1) _ i else _
            unfold upf
            by_cases c1 : i = c + 1
            · rw [if_pos c1, if_pos (by omega), if_pos c1, hu, h0]
            · rw [if_neg c1, h15 i hi]
              by_cases c2 : i ≤ c
              · rw [if_pos c2, if_pos (by omega), if_neg c1]
              · rw [if_neg c2, if_neg (by omega)]
      refine b_X2_takeRoot_40 o ?_
      rw [ea]
      refine ⟨⟨by omega, by omega⟩, ⟨by omega, by omega⟩, fun c2 => by omega, fun _ => ⟨fun c2 => go 0 ?_, fun c2 => ⟨by omega, go _ ?_⟩⟩⟩
      · rw [if_neg (by omega)]
      · rw [if_pos (by omega), show w.toNat = c + 1 by omega]
        exact h13 (c + 1) (by omega)
  refine lp1 (max (Z a 14) 1 - 1).toNat 0 1 Z2 rfl (by omega) (fun b hb => ?_) (fun j hj => ?_) (fun i hi => ?_)
  · rw [e2, up_row _ _ _ _ _ (fun e => hb (Or.inr e)), hz1.2 b (fun e => hb (Or.inl e))]
  · rw [e2, up_row _ _ _ _ _ (by omega)]; exact hz1.1 j hj
  · rw [e2, up_at]
    by_cases c : i = 0
    · rw [if_pos c, if_pos (by omega), c]; rfl
    · rw [if_neg c, if_neg (by omega), hz1.2 (a + 15) (by omega)]
theorem dX2_beginAt_0 : decode cX2_beginAt 0 = .ok (.aload_n 0, 1) := by decide +kernel
theorem dX2_beginAt_1 : decode cX2_beginAt 1 = .ok (.iconst 0, 1) := by decide +kernel
theorem dX2_beginAt_2 : decode cX2_beginAt 2 = .ok (.iload_n 2, 1) := by decide +kernel
theorem dX2_beginAt_3 : decode cX2_beginAt 3 = .ok (.bipush 40, 2) := by decide +kernel
theorem dX2_beginAt_5 : decode cX2_beginAt 5 = .ok (.invokestatic 134, 3) := by decide +kernel
theorem dX2_beginAt_8 : decode cX2_beginAt 8 = .ok (.invokestatic 139, 3) := by decide +kernel
theorem dX2_beginAt_11 : decode cX2_beginAt 11 = .ok (.putfield 142, 3) := by decide +kernel
theorem dX2_beginAt_14 : decode cX2_beginAt 14 = .ok (.aload_n 0, 1) := by decide +kernel
theorem dX2_beginAt_15 : decode cX2_beginAt 15 = .ok (.aload_n 0, 1) := by decide +kernel
theorem dX2_beginAt_16 : decode cX2_beginAt 16 = .ok (.getfield 25, 3) := by decide +kernel
theorem dX2_beginAt_19 : decode cX2_beginAt 19 = .ok (.iload_n 1, 1) := by decide +kernel
theorem dX2_beginAt_20 : decode cX2_beginAt 20 = .ok (.iaload, 1) := by decide +kernel
theorem dX2_beginAt_21 : decode cX2_beginAt 21 = .ok (.putfield 145, 3) := by decide +kernel
theorem dX2_beginAt_24 : decode cX2_beginAt 24 = .ok (.aload_n 0, 1) := by decide +kernel
theorem dX2_beginAt_25 : decode cX2_beginAt 25 = .ok (.getfield 51, 3) := by decide +kernel
theorem dX2_beginAt_28 : decode cX2_beginAt 28 = .ok (.iconst 0, 1) := by decide +kernel
theorem dX2_beginAt_29 : decode cX2_beginAt 29 = .ok (.invokestatic 112, 3) := by decide +kernel
theorem dX2_beginAt_32 : decode cX2_beginAt 32 = .ok (.aload_n 0, 1) := by decide +kernel
theorem dX2_beginAt_33 : decode cX2_beginAt 33 = .ok (.getfield 54, 3) := by decide +kernel
theorem dX2_beginAt_36 : decode cX2_beginAt 36 = .ok (.iconst 0, 1) := by decide +kernel
theorem dX2_beginAt_37 : decode cX2_beginAt 37 = .ok (.invokestatic 112, 3) := by decide +kernel
theorem dX2_beginAt_40 : decode cX2_beginAt 40 = .ok (.aload_n 0, 1) := by decide +kernel
theorem dX2_beginAt_41 : decode cX2_beginAt 41 = .ok (.getfield 51, 3) := by decide +kernel
theorem dX2_beginAt_44 : decode cX2_beginAt 44 = .ok (.iconst 0, 1) := by decide +kernel
theorem dX2_beginAt_45 : decode cX2_beginAt 45 = .ok (.iconst 1, 1) := by decide +kernel
theorem dX2_beginAt_46 : decode cX2_beginAt 46 = .ok (.iastore, 1) := by decide +kernel
theorem dX2_beginAt_47 : decode cX2_beginAt 47 = .ok (.aload_n 0, 1) := by decide +kernel
theorem dX2_beginAt_48 : decode cX2_beginAt 48 = .ok (.iload_n 1, 1) := by decide +kernel
theorem dX2_beginAt_49 : decode cX2_beginAt 49 = .ok (.invokevirtual 95, 3) := by decide +kernel
theorem dX2_beginAt_52 : decode cX2_beginAt 52 = .ok (.ifCond .eq 18, 3) := by decide +kernel
theorem dX2_beginAt_55 : decode cX2_beginAt 55 = .ok (.aload_n 0, 1) := by decide +kernel
theorem dX2_beginAt_56 : decode cX2_beginAt 56 = .ok (.iconst 2, 1) := by decide +kernel
theorem dX2_beginAt_57 : decode cX2_beginAt 57 = .ok (.putfield 148, 3) := by decide +kernel
theorem dX2_beginAt_60 : decode cX2_beginAt 60 = .ok (.aload_n 0, 1) := by decide +kernel
theorem dX2_beginAt_61 : decode cX2_beginAt 61 = .ok (.getfield 54, 3) := by decide +kernel
theorem dX2_beginAt_64 : decode cX2_beginAt 64 = .ok (.iconst 1, 1) := by decide +kernel
theorem dX2_beginAt_65 : decode cX2_beginAt 65 = .ok (.iconst 1, 1) := by decide +kernel
theorem dX2_beginAt_66 : decode cX2_beginAt 66 = .ok (.iastore, 1) := by decide +kernel
theorem dX2_beginAt_67 : decode cX2_beginAt 67 = .ok (.goto 18, 3) := by decide +kernel
theorem dX2_beginAt_70 : decode cX2_beginAt 70 = .ok (.aload_n 0, 1) := by decide +kernel
theorem dX2_beginAt_71 : decode cX2_beginAt 71 = .ok (.iconst 1, 1) := by decide +kernel
theorem dX2_beginAt_72 : decode cX2_beginAt 72 = .ok (.putfield 148, 3) := by decide +kernel
theorem dX2_beginAt_75 : decode cX2_beginAt 75 = .ok (.aload_n 0, 1) := by decide +kernel
theorem dX2_beginAt_76 : decode cX2_beginAt 76 = .ok (.aload_n 0, 1) := by decide +kernel
theorem dX2_beginAt_77 : decode cX2_beginAt 77 = .ok (.getfield 29, 3) := by decide +kernel
theorem dX2_beginAt_80 : decode cX2_beginAt 80 = .ok (.iload_n 1, 1) := by decide +kernel
theorem dX2_beginAt_81 : decode cX2_beginAt 81 = .ok (.iaload, 1) := by decide +kernel
theorem dX2_beginAt_82 : decode cX2_beginAt 82 = .ok (.invokevirtual 151, 3) := by decide +kernel
theorem dX2_beginAt_85 : decode cX2_beginAt 85 = .ok (.return_, 1) := by decide +kernel
set_option maxRecDepth 20000 in
theorem b_X2_beginAt_0 {k n : Nat} {x : Wx} {Z : Zt} {Q : Option Value → Wx → Zt → Prop} {a0 : Nat} {v1 : Int} {v2 : Int} (o_a0 : Is2 x a0)
    (h : Rg v2 ∧ (Rg (min v2 40) ∧ (∀ Z1 : Zt, Z1 = up Z a0 14 (max 0 (min v2 40)) → (0 ≤ v1 ∧ v1 < 27 ∧ (∀ Z2 : Zt, Z2 = up Z1 a0 16 (Z1 (a0 + 6) v1.toNat) → (∀ Z3 : Zt, Z3 = fillZ Z2 (a0 + 14) 40 (0 : Int) → (∀ Z4 : Zt, Z4 = fillZ Z3 (a0 + 15) 40 (0 : Int) → (∀ Z5 : Zt, Z5 = up Z4 (a0 + 14) 0 1 → (∃ g1 : List (Int × Int), (PtA Z5 a0 g1 ∧ PtR g1 ∧ (0 ≤ v1 ∧ v1 < g1.length) ∧ (Rg (bI (fxd g1 v1)) ∧ (((bI (fxd g1 v1) = 0) → (∀ Z6 : Zt, Z6 = up Z5 a0 15 1 → (∃ g2 : Int, (∃ g3 : Nat → Int, (IsP g2 ∧ FA Z6 (a0 + 1) g2 ∧ PA Z6 (a0 + 4) g2 g3 ∧ (0 ≤ Z6 a0 16 ∧ Z6 a0 16 < g2) ∧ (0 ≤ Z6 a0 14 ∧ Z6 a0 14 ≤ 40) ∧ (0 ≤ (Z6 (a0 + 7) v1.toNat) ∧ (Z6 (a0 + 7) v1.toNat) < g2) ∧ (∀ (Z'1 : Zt), ((∀ i : Nat, i < 40 → Z'1 (a0 + 15) i = if i = 0 then (Z6 (a0 + 7) v1.toNat) else if (i : Int) < Z6 a0 14 then rtT g2 (inv g2 (2 * (Z6 (a0 + 7) v1.toNat) % g2)) (Z6 (a0 + 7) v1.toNat) (mvd g2 1 (Z6 a0 16) g3) 40 i else Z6 (a0 + 15) i) ∧ Oth Z6 Z'1 (fun b => b = a0 + 13 ∨ b = a0 + 15)) → (Q none x Z'1))))))) ∧ ((bI (fxd g1 v1) ≠ 0) → (∀ Z7 : Zt, Z7 = up Z5 a0 15 2 → (∀ Z8 : Zt, Z8 = up Z7 (a0 + 15) 1 1 → (Q none x Z8)))))))))))))))) :
    V mX2_beginAt k n 0 [some (r_ a0), some (i_ v1), some (i_ v2)] [] x Z Q :=
  V_aload_n dX2_beginAt_0 rfl (V_iconst dX2_beginAt_1 (V_iload_n dX2_beginAt_2 rfl (V_bipush dX2_beginAt_3 rfl (V_mmin lm_2_134 (Nat.le_of_ble_eq_true rfl) (Nat.le_of_ble_eq_true rfl) h.1 (rg_c rfl) dX2_beginAt_5 (V_mmax lm_2_139 (Nat.le_of_ble_eq_true rfl) (Nat.le_of_ble_eq_true rfl) (rg_c rfl) h.2.1 dX2_beginAt_8 (P_2_14 o_a0.1 lf_2_142 dX2_beginAt_11 (V_nmZ (fun Z1 eZ1 => V_aload_n dX2_beginAt_14 rfl (V_aload_n dX2_beginAt_15 rfl (G_2_4 o_a0.1 o_a0.2.2.2.2.2.1 lf_2_25 dX2_beginAt_16 (V_iload_n dX2_beginAt_19 rfl (V_iald (t := 100) o_a0.2.2.2.2.2.2.1 (by decide) rfl (h.2.2 Z1 eZ1).1 (h.2.2 Z1 eZ1).2.1 (Nat.le_of_ble_eq_true rfl) dX2_beginAt_20 (P_2_16 o_a0.1 lf_2_145 dX2_beginAt_21 (V_nmZ (fun Z2 eZ2 => V_aload_n dX2_beginAt_24 rfl (G_2_12 o_a0.1 o_a0.2.2.2.2.2.2.2.2.2.2.2.2.2.2.2.2.2.2.2.2.2.1 lf_2_51 dX2_beginAt_25 (V_iconst dX2_beginAt_28 (V_callS (k' := 0) (n' := 0) [r_ (a0 + 14), i_ 0] [] okJ7_fill_53178 lm_2_112 lsJ7_fill_53178 (Nat.le_of_ble_eq_true rfl) (Nat.le_of_ble_eq_true rfl) (Nat.le_of_ble_eq_true rfl) (cat_of rfl) (Nat.le_of_ble_eq_true rfl) (Nat.zero_le _) (Nat.zero_le _) rfl dX2_beginAt_29 (sp_J7_fill_53178 o_a0.2.2.2.2.2.2.2.2.2.2.2.2.2.2.2.2.2.2.2.2.2.2.1 (Nat.le_of_ble_eq_true rfl)  (V_nmZ (fun Z3 eZ3 => V_aload_n dX2_beginAt_32 rfl (G_2_13 o_a0.1 o_a0.2.2.2.2.2.2.2.2.2.2.2.2.2.2.2.2.2.2.2.2.2.2.2.1 lf_2_54 dX2_beginAt_33 (V_iconst dX2_beginAt_36 (V_callS (k' := 0) (n' := 0) [r_ (a0 + 15), i_ 0] [] okJ7_fill_53178 lm_2_112 lsJ7_fill_53178 (Nat.le_of_ble_eq_true rfl) (Nat.le_of_ble_eq_true rfl) (Nat.le_of_ble_eq_true rfl) (cat_of rfl) (Nat.le_of_ble_eq_true rfl) (Nat.zero_le _) (Nat.zero_le _) rfl dX2_beginAt_37 (sp_J7_fill_53178 o_a0.2.2.2.2.2.2.2.2.2.2.2.2.2.2.2.2.2.2.2.2.2.2.2.2 (Nat.le_of_ble_eq_true rfl)  (V_nmZ (fun Z4 eZ4 => V_aload_n dX2_beginAt_40 rfl (G_2_12 o_a0.1 o_a0.2.2.2.2.2.2.2.2.2.2.2.2.2.2.2.2.2.2.2.2.2.1 lf_2_51 dX2_beginAt_41 (V_iconst dX2_beginAt_44 (V_iconst dX2_beginAt_45 (V_iast (t := 100) o_a0.2.2.2.2.2.2.2.2.2.2.2.2.2.2.2.2.2.2.2.2.2.2.1 (by decide) (by decide) rfl (by decide) (by decide) (Nat.le_of_ble_eq_true rfl) dX2_beginAt_46 (V_nmZ (fun Z5 eZ5 => V_aload_n dX2_beginAt_47 rfl (V_iload_n dX2_beginAt_48 rfl (Exists.elim (((((h.2.2 Z1 eZ1).2.2 Z2 eZ2) Z3 eZ3) Z4 eZ4) Z5 eZ5) (fun g1 w1 => V_callV (k' := 0) (n' := 0) (t := 2) (q := (RX2, TX2, 17)) [i_ v1] [] okX2_isFixed o_a0.1 rfl rfl lm_2_95 liX2_isFixed lqX2_isFixed (Nat.le_of_ble_eq_true rfl) (Nat.le_of_ble_eq_true rfl) (Nat.le_of_ble_eq_true rfl) (cat_of rfl) (Nat.le_of_ble_eq_true rfl) (Nat.zero_le _) (Nat.zero_le _) rfl dX2_beginAt_49 (sp_X2_isFixed o_a0 w1.1 w1.2.1 w1.2.2.1 (V_if_eq (tgt := 70) dX2_beginAt_52 rfl w1.2.2.2.1 (fun c1 => V_aload_n dX2_beginAt_70 rfl (V_iconst dX2_beginAt_71 (P_2_15 o_a0.1 lf_2_148 dX2_beginAt_72 (V_nmZ (fun Z6 eZ6 => V_aload_n dX2_beginAt_75 rfl (V_aload_n dX2_beginAt_76 rfl (G_2_5 o_a0.1 o_a0.2.2.2.2.2.2.2.1 lf_2_29 dX2_beginAt_77 (V_iload_n dX2_beginAt_80 rfl (V_iald (t := 100) o_a0.2.2.2.2.2.2.2.2.1 (by decide) rfl (h.2.2 Z1 eZ1).1 (h.2.2 Z1 eZ1).2.1 (Nat.le_of_ble_eq_true rfl) dX2_beginAt_81 (Exists.elim ((w1.2.2.2.2.1 c1) Z6 eZ6) (fun g2 w2 => Exists.elim w2 (fun g3 w3 => V_callV (k' := 0) (n' := 0) (t := 2) (q := (RX2, TX2, 17)) [i_ (Z6 (a0 + 7) v1.toNat)] [] okX2_takeRoot o_a0.1 rfl rfl lm_2_151 liX2_takeRoot lqX2_takeRoot (Nat.le_of_ble_eq_true rfl) (Nat.le_of_ble_eq_true rfl) (Nat.le_of_ble_eq_true rfl) (cat_of rfl) (Nat.le_of_ble_eq_true rfl) (Nat.zero_le _) (Nat.zero_le _) rfl dX2_beginAt_82 (sp_X2_takeRoot o_a0 w3.1 w3.2.1 w3.2.2.1 w3.2.2.2.1 w3.2.2.2.2.1 w3.2.2.2.2.2.1 (fun Z'1 p1 => V_ret dX2_beginAt_85 rfl (w3.2.2.2.2.2.2 Z'1 p1))))))))))))))) (fun c1 => V_aload_n dX2_beginAt_55 rfl (V_iconst dX2_beginAt_56 (P_2_15 o_a0.1 lf_2_148 dX2_beginAt_57 (V_nmZ (fun Z7 eZ7 => V_aload_n dX2_beginAt_60 rfl (G_2_13 o_a0.1 o_a0.2.2.2.2.2.2.2.2.2.2.2.2.2.2.2.2.2.2.2.2.2.2.2.1 lf_2_54 dX2_beginAt_61 (V_iconst dX2_beginAt_64 (V_iconst dX2_beginAt_65 (V_iast (t := 100) o_a0.2.2.2.2.2.2.2.2.2.2.2.2.2.2.2.2.2.2.2.2.2.2.2.2 (by decide) (by decide) rfl (by decide) (by decide) (Nat.le_of_ble_eq_true rfl) dX2_beginAt_66 (V_nmZ (fun Z8 eZ8 => V_goto (tgt := 85) dX2_beginAt_67 rfl (V_ret dX2_beginAt_85 rfl (((w1.2.2.2.2.2 c1) Z7 eZ7) Z8 eZ8)))))))))))))))))))))))))))))))))))))))))))))))))))
theorem pall_get {p : Int} {F : Nat → Int} (hp : 0 ≤ p) {k : Nat} (hk : k + 1 < (pall p F).length) : (0 ≤ ((pall p F).getD k (0, 0)).1 ∧ ((pall p F).getD k (0, 0)).1 < p) ∧ (0 ≤ ((pall p F).getD k (0, 0)).2 ∧ ((pall p F).getD k (0, 0)).2 < p) ∧ ((pall p F).getD k (0, 0)).2 * ((pall p F).getD k (0, 0)).2 % p = ev p F ((pall p F).getD k (0, 0)).1 := by
  unfold pall at hk ⊢
  rw [List.length_append] at hk
  have hk2 : k + 1 < (pts p F).length + 1 := hk
  rw [getD_app, if_pos (by omega), List.getD_eq_getElem?_getD]
  cases he : (pts p F)[k]? with
  | none =>
    rw [List.getElem?_eq_none_iff] at he
    omega
  | some e => exact pts_mem hp (List.mem_of_getElem? he)
/-- y's row at the point X, y: t terms; fx: the point is FIXED -/
def bgY (p : Int) (F : Nat → Int) (X y t : Int) (fx : Bool) : Nat → Int := fun i => if fx = true then (if i = 1 then 1 else 0) else if i = 0 then y else if (i : Int) < t then rtT p (inv p (2 * y % p)) y (mvd p 1 X F) 40 i else 0
def BgA (Z : Zt) (a : Nat) (p : Int) (F : Nat → Int) (X y t : Int) (fx : Bool) : Prop := Z a 14 = t ∧ Z a 15 = (if fx = true then 2 else 1) ∧ Z a 16 = X ∧ (∀ i : Nat, i < 40 → Z (a + 14) i = if i = 0 then 1 else 0) ∧ (∀ i : Nat, i < 40 → Z (a + 15) i = bgY p F X y t fx i)
theorem fill_row (Z : Zt) (a N : Nat) (v : Int) (b : Nat) (h : b ≠ a) : fillZ Z a N v b = Z b := funext fun i => by unfold fillZ; rw [if_neg (fun e => h e.1)]
theorem fill_at (Z : Zt) (a N : Nat) (v : Int) {i : Nat} (h : i < N) : fillZ Z a N v a i = v := by unfold fillZ; rw [if_pos ⟨rfl, h⟩]
theorem sp_X2_beginAt {k n : Nat} {x : Wx} {Z : Zt} {Q : Option Value → Wx → Zt → Prop} {a : Nat} {v w : Int} (o : Is2 x a) {p : Int} {F : Nat → Int} (hp : IsP p) (hC : CvA Z a p F) (hv : 0 ≤ v ∧ v + 1 < (pall p F).length) (hw : Rg w) (h : ∀ Z' : Zt, (BgA Z' a p F ((pall p F).getD v.toNat (0, 0)).1 ((pall p F).getD v.toNat (0, 0)).2 (max 0 (min w 40)) (fxd (pall p F) v) ∧ Oth Z Z' (fun b => b = a ∨ b = a + 13 ∨ b = a + 14 ∨ b = a + 15) ∧ ∀ i : Nat, i < 14 → Z' a i = Z a i) → Q none x Z') : V mX2_beginAt k n 0 [some (r_ a), some (i_ v), some (i_ w)] [] x Z Q := by
  have hpr := hp.rg
  have hl := pall_len hp F
  have hr := pall_rg hp F
  have hg := pall_get (p := p) (F := F) (by omega) (k := v.toNat) (by omega)
  have hpt := hC.2.2.1.2 v.toNat (by omega)
  generalize (pall p F).getD v.toNat (0, 0) = e at hg hpt h
  have hwr : Rg w := hw
  unfold Rg at hw
  refine b_X2_beginAt_0 o ⟨hwr, ⟨by omega, by omega⟩, fun Z1 e1 => ⟨by omega, by omega, fun Z2 e2 Z3 e3 Z4 e4 Z5 e5 => ?_⟩⟩
  have z16 : Z1 (a + 6) v.toNat = e.1 := by rw [e1, up_row _ _ _ _ _ (by omega)]; exact hpt.1
  rw [z16] at e2
  have r5 : ∀ b, b ≠ a → b ≠ a + 14 → b ≠ a + 15 → Z5 b = Z b := fun b h1 h2 h3 => by
    rw [e5, up_row _ _ _ _ _ h2, e4, fill_row _ _ _ _ _ h3, e3, fill_row _ _ _ _ _ h2, e2, up_row _ _ _ _ _ h1, e1, up_row _ _ _ _ _ h1]
  have ra : ∀ i : Nat, Z5 a i = if i = 16 then e.1 else if i = 14 then max 0 (min w 40) else Z a i := fun i => by
    rw [e5, up_row _ _ _ _ _ (by omega), e4, fill_row _ _ _ _ _ (by omega), e3, fill_row _ _ _ _ _ (by omega), e2, up_at]
    by_cases c : i = 16
    · rw [if_pos c, if_pos c]
    · rw [if_neg c, if_neg c, e1, up_at]
  have r14 : ∀ i : Nat, i < 40 → Z5 (a + 14) i = if i = 0 then 1 else 0 := fun i hi => by
    rw [e5, up_at]
    by_cases c : i = 0
    · rw [if_pos c, if_pos c]
    · rw [if_neg c, if_neg c, e4, fill_row _ _ _ _ _ (by omega), e3, fill_at _ _ _ _ hi]
  have r15 : ∀ i : Nat, i < 40 → Z5 (a + 15) i = 0 := fun i hi => by
    rw [e5, up_row _ _ _ _ _ (by omega), e4, fill_at _ _ _ _ hi]
  have hP5 : PtA Z5 a (pall p F) := by
    refine ⟨?_, ?_⟩
    · rw [ra 3, if_neg (by decide), if_neg (by decide)]; exact hC.2.2.1.1
    · rw [r5 (a + 6) (by omega) (by omega) (by omega), r5 (a + 7) (by omega) (by omega) (by omega)]; exact hC.2.2.1.2
  refine ⟨pall p F, hP5, hr, ⟨hv.1, by omega⟩, bI_rg _, fun c Z6 e6 => ?_, fun c Z6 e6 Z7 e7 => h Z7 ⟨⟨?_, ?_, ?_, fun i hi => ?_, fun i hi => ?_⟩, fun b hb => ?_, fun i hi => ?_⟩⟩
  · have hfx := bI_0 c
    have r6 : ∀ b, b ≠ a → b ≠ a + 14 → b ≠ a + 15 → Z6 b = Z b := fun b h1 h2 h3 => by rw [e6, up_row _ _ _ _ _ h1]; exact r5 b h1 h2 h3
    have o6 : Oth Z Z6 (fun b => b = a ∨ b = a + 14 ∨ b = a + 15) := fun b hb => r6 b (fun q => hb (Or.inl q)) (fun q => hb (Or.inr (Or.inl q))) (fun q => hb (Or.inr (Or.inr q)))
    have a16 : Z6 a 16 = e.1 := by rw [e6, up_at, if_neg (by decide), ra 16, if_pos rfl]
    have a14 : Z6 a 14 = max 0 (min w 40) := by rw [e6, up_at, if_neg (by decide), ra 14, if_neg (by decide), if_pos rfl]
    have y6 : Z6 (a + 7) v.toNat = e.2 := by rw [r6 (a + 7) (by omega) (by omega) (by omega)]; exact hpt.2
    rw [a16, a14, y6]
    refine ⟨p, F, hp, hC.1.kept o6 (by omega) (by omega) (by omega), hC.2.1.kept o6 (by omega) (by omega), hg.1, ⟨by omega, by omega⟩, hg.2.1, fun Z7 hz7 => h Z7 ⟨⟨?_, ?_, ?_, fun i hi => ?_, fun i hi => ?_⟩, fun b hb => ?_, fun i hi => ?_⟩⟩
    · rw [hz7.2 a (by omega)]; exact a14
    · rw [hz7.2 a (by omega), e6, up_at, if_pos rfl, hfx]; rfl
    · rw [hz7.2 a (by omega)]; exact a16
    · rw [hz7.2 (a + 14) (by omega), e6, up_row _ _ _ _ _ (by omega)]; exact r14 i hi
    · have z15 : Z6 (a + 15) i = 0 := by rw [e6, up_row _ _ _ _ _ (by omega)]; exact r15 i hi
      rw [hz7.1 i hi, z15, hfx]
      unfold bgY
      rw [if_neg (show ¬ (false = true) by decide)]
    · rw [hz7.2 b (by omega)]
      exact o6 b (by omega)
    · rw [hz7.2 a (by omega), e6, up_at, if_neg (by omega), ra i, if_neg (by omega), if_neg (by omega)]
  · rw [e7, up_row _ _ _ _ _ (by omega), e6, up_at, if_neg (by decide), ra 14, if_neg (by decide), if_pos rfl]
  · rw [e7, up_row _ _ _ _ _ (by omega), e6, up_at, if_pos rfl, bI_1 c]; rfl
  · rw [e7, up_row _ _ _ _ _ (by omega), e6, up_at, if_neg (by decide), ra 16, if_pos rfl]
  · rw [e7, up_row _ _ _ _ _ (by omega), e6, up_row _ _ _ _ _ (by omega)]; exact r14 i hi
  · rw [e7, up_at]
    unfold bgY
    rw [if_pos (bI_1 c)]
    by_cases c1 : i = 1
    · rw [if_pos c1, if_pos c1]
    · rw [if_neg c1, if_neg c1, e6, up_row _ _ _ _ _ (by omega)]; exact r15 i hi
  · rw [e7, up_row _ _ _ _ _ (by omega), e6, up_row _ _ _ _ _ (by omega)]
    exact r5 b (by omega) (by omega) (by omega)
  · rw [e7, up_row _ _ _ _ _ (by omega), e6, up_at, if_neg (by omega), ra i, if_neg (by omega), if_neg (by omega)]
