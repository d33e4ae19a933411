theorem dX0_takeKey_0 : decode cX0_takeKey 0 = .ok (.aload_n 0, 1) := by decide +kernel
theorem dX0_takeKey_1 : decode cX0_takeKey 1 = .ok (.getfield 12, 3) := by decide +kernel
theorem dX0_takeKey_4 : decode cX0_takeKey 4 = .ok (.getfield 181, 3) := by decide +kernel
theorem dX0_takeKey_7 : decode cX0_takeKey 7 = .ok (.istore_n 3, 1) := by decide +kernel
theorem dX0_takeKey_8 : decode cX0_takeKey 8 = .ok (.iload_n 3, 1) := by decide +kernel
theorem dX0_takeKey_9 : decode cX0_takeKey 9 = .ok (.iload_n 3, 1) := by decide +kernel
theorem dX0_takeKey_10 : decode cX0_takeKey 10 = .ok (.imul, 1) := by decide +kernel
theorem dX0_takeKey_11 : decode cX0_takeKey 11 = .ok (.istore 4, 2) := by decide +kernel
theorem dX0_takeKey_13 : decode cX0_takeKey 13 = .ok (.aload_n 2, 1) := by decide +kernel
theorem dX0_takeKey_14 : decode cX0_takeKey 14 = .ok (.invokevirtual 86, 3) := by decide +kernel
theorem dX0_takeKey_17 : decode cX0_takeKey 17 = .ok (.iload_n 1, 1) := by decide +kernel
theorem dX0_takeKey_18 : decode cX0_takeKey 18 = .ok (.iconst 1, 1) := by decide +kernel
theorem dX0_takeKey_19 : decode cX0_takeKey 19 = .ok (.if_icmp .lt 8, 3) := by decide +kernel
theorem dX0_takeKey_22 : decode cX0_takeKey 22 = .ok (.iload_n 3, 1) := by decide +kernel
theorem dX0_takeKey_23 : decode cX0_takeKey 23 = .ok (.iconst 2, 1) := by decide +kernel
theorem dX0_takeKey_24 : decode cX0_takeKey 24 = .ok (.if_icmp .ge 4, 3) := by decide +kernel
theorem dX0_takeKey_27 : decode cX0_takeKey 27 = .ok (.return_, 1) := by decide +kernel
theorem dX0_takeKey_28 : decode cX0_takeKey 28 = .ok (.iload_n 1, 1) := by decide +kernel
theorem dX0_takeKey_29 : decode cX0_takeKey 29 = .ok (.iconst 1, 1) := by decide +kernel
theorem dX0_takeKey_30 : decode cX0_takeKey 30 = .ok (.isub, 1) := by decide +kernel
theorem dX0_takeKey_31 : decode cX0_takeKey 31 = .ok (.istore 5, 2) := by decide +kernel
theorem dX0_takeKey_33 : decode cX0_takeKey 33 = .ok (.iload 5, 2) := by decide +kernel
theorem dX0_takeKey_35 : decode cX0_takeKey 35 = .ok (.iload 4, 2) := by decide +kernel
theorem dX0_takeKey_37 : decode cX0_takeKey 37 = .ok (.if_icmp .ge 21, 3) := by decide +kernel
theorem dX0_takeKey_40 : decode cX0_takeKey 40 = .ok (.aload_n 2, 1) := by decide +kernel
theorem dX0_takeKey_41 : decode cX0_takeKey 41 = .ok (.aload_n 0, 1) := by decide +kernel
theorem dX0_takeKey_42 : decode cX0_takeKey 42 = .ok (.getfield 12, 3) := by decide +kernel
theorem dX0_takeKey_45 : decode cX0_takeKey 45 = .ok (.iload 5, 2) := by decide +kernel
theorem dX0_takeKey_47 : decode cX0_takeKey 47 = .ok (.iload_n 3, 1) := by decide +kernel
theorem dX0_takeKey_48 : decode cX0_takeKey 48 = .ok (.idiv, 1) := by decide +kernel
theorem dX0_takeKey_49 : decode cX0_takeKey 49 = .ok (.ineg, 1) := by decide +kernel
theorem dX0_takeKey_50 : decode cX0_takeKey 50 = .ok (.iload 5, 2) := by decide +kernel
theorem dX0_takeKey_52 : decode cX0_takeKey 52 = .ok (.iload_n 3, 1) := by decide +kernel
theorem dX0_takeKey_53 : decode cX0_takeKey 53 = .ok (.irem, 1) := by decide +kernel
theorem dX0_takeKey_54 : decode cX0_takeKey 54 = .ok (.invokevirtual 89, 3) := by decide +kernel
theorem dX0_takeKey_57 : decode cX0_takeKey 57 = .ok (.return_, 1) := by decide +kernel
theorem dX0_takeKey_58 : decode cX0_takeKey 58 = .ok (.iload 5, 2) := by decide +kernel
theorem dX0_takeKey_60 : decode cX0_takeKey 60 = .ok (.iload 4, 2) := by decide +kernel
theorem dX0_takeKey_62 : decode cX0_takeKey 62 = .ok (.isub, 1) := by decide +kernel
theorem dX0_takeKey_63 : decode cX0_takeKey 63 = .ok (.istore 5, 2) := by decide +kernel
theorem dX0_takeKey_65 : decode cX0_takeKey 65 = .ok (.aload_n 2, 1) := by decide +kernel
theorem dX0_takeKey_66 : decode cX0_takeKey 66 = .ok (.getfield 130, 3) := by decide +kernel
theorem dX0_takeKey_69 : decode cX0_takeKey 69 = .ok (.iconst 2, 1) := by decide +kernel
theorem dX0_takeKey_70 : decode cX0_takeKey 70 = .ok (.iconst 1, 1) := by decide +kernel
theorem dX0_takeKey_71 : decode cX0_takeKey 71 = .ok (.invokevirtual 205, 3) := by decide +kernel
theorem dX0_takeKey_74 : decode cX0_takeKey 74 = .ok (.aload_n 2, 1) := by decide +kernel
theorem dX0_takeKey_75 : decode cX0_takeKey 75 = .ok (.getfield 130, 3) := by decide +kernel
theorem dX0_takeKey_78 : decode cX0_takeKey 78 = .ok (.iconst 1, 1) := by decide +kernel
theorem dX0_takeKey_79 : decode cX0_takeKey 79 = .ok (.iload 5, 2) := by decide +kernel
theorem dX0_takeKey_81 : decode cX0_takeKey 81 = .ok (.iload 4, 2) := by decide +kernel
theorem dX0_takeKey_83 : decode cX0_takeKey 83 = .ok (.idiv, 1) := by decide +kernel
theorem dX0_takeKey_84 : decode cX0_takeKey 84 = .ok (.iload_n 3, 1) := by decide +kernel
theorem dX0_takeKey_85 : decode cX0_takeKey 85 = .ok (.irem, 1) := by decide +kernel
theorem dX0_takeKey_86 : decode cX0_takeKey 86 = .ok (.invokevirtual 205, 3) := by decide +kernel
theorem dX0_takeKey_89 : decode cX0_takeKey 89 = .ok (.aload_n 2, 1) := by decide +kernel
theorem dX0_takeKey_90 : decode cX0_takeKey 90 = .ok (.getfield 130, 3) := by decide +kernel
theorem dX0_takeKey_93 : decode cX0_takeKey 93 = .ok (.iconst 0, 1) := by decide +kernel
theorem dX0_takeKey_94 : decode cX0_takeKey 94 = .ok (.iload 5, 2) := by decide +kernel
theorem dX0_takeKey_96 : decode cX0_takeKey 96 = .ok (.iload 4, 2) := by decide +kernel
theorem dX0_takeKey_98 : decode cX0_takeKey 98 = .ok (.idiv, 1) := by decide +kernel
theorem dX0_takeKey_99 : decode cX0_takeKey 99 = .ok (.iload_n 3, 1) := by decide +kernel
theorem dX0_takeKey_100 : decode cX0_takeKey 100 = .ok (.idiv, 1) := by decide +kernel
theorem dX0_takeKey_101 : decode cX0_takeKey 101 = .ok (.invokevirtual 205, 3) := by decide +kernel
theorem dX0_takeKey_104 : decode cX0_takeKey 104 = .ok (.aload_n 2, 1) := by decide +kernel
theorem dX0_takeKey_105 : decode cX0_takeKey 105 = .ok (.getfield 111, 3) := by decide +kernel
theorem dX0_takeKey_108 : decode cX0_takeKey 108 = .ok (.iconst 1, 1) := by decide +kernel
theorem dX0_takeKey_109 : decode cX0_takeKey 109 = .ok (.iload 5, 2) := by decide +kernel
theorem dX0_takeKey_111 : decode cX0_takeKey 111 = .ok (.iload 4, 2) := by decide +kernel
theorem dX0_takeKey_113 : decode cX0_takeKey 113 = .ok (.irem, 1) := by decide +kernel
theorem dX0_takeKey_114 : decode cX0_takeKey 114 = .ok (.iload_n 3, 1) := by decide +kernel
theorem dX0_takeKey_115 : decode cX0_takeKey 115 = .ok (.idiv, 1) := by decide +kernel
theorem dX0_takeKey_116 : decode cX0_takeKey 116 = .ok (.invokevirtual 205, 3) := by decide +kernel
theorem dX0_takeKey_119 : decode cX0_takeKey 119 = .ok (.aload_n 2, 1) := by decide +kernel
theorem dX0_takeKey_120 : decode cX0_takeKey 120 = .ok (.getfield 111, 3) := by decide +kernel
theorem dX0_takeKey_123 : decode cX0_takeKey 123 = .ok (.iconst 0, 1) := by decide +kernel
theorem dX0_takeKey_124 : decode cX0_takeKey 124 = .ok (.iload 5, 2) := by decide +kernel
theorem dX0_takeKey_126 : decode cX0_takeKey 126 = .ok (.iload_n 3, 1) := by decide +kernel
theorem dX0_takeKey_127 : decode cX0_takeKey 127 = .ok (.irem, 1) := by decide +kernel
theorem dX0_takeKey_128 : decode cX0_takeKey 128 = .ok (.invokevirtual 205, 3) := by decide +kernel
theorem dX0_takeKey_131 : decode cX0_takeKey 131 = .ok (.return_, 1) := by decide +kernel
set_option maxRecDepth 20000 in
theorem b_X0_takeKey_0 {k n : Nat} {x : Wx} {Z : Zt} {Q : Option Value → Wx → Zt → Prop} {a0 : Nat} {v1 : Int} {a2 : Nat} {a0_field : Nat} (r_a0_field : x.2.1 a0 1 = some a0_field) (o_a0 : Is0 x a0) (o_a0_field : Is4 x a0_field) (o_a2 : Is6 x a2)
    (h : ∃ g1 : Int, ((3 ≤ g1 ∧ g1 ≤ 13) ∧ (∀ (Z'1 : Zt), (PrA Z'1 a2 g1 pone pzero ∧ Oth Z Z'1 (At5 a2)) → (Rg v1 ∧ (((v1 < 1) → (Q none x Z'1)) ∧ ((1 ≤ v1) → (Rg (Z a0_field 0) ∧ (((2 ≤ Z a0_field 0) → (Rg (v1 - 1) ∧ Rg ((Z a0_field 0) * (Z a0_field 0)) ∧ ((((Z a0_field 0) * (Z a0_field 0) ≤ v1 - 1) → (∃ g2 : Int, (∃ g3 : Nat → Int, (PA Z'1 (a2 + 1) g2 g3 ∧ 0 ≤ (2 : Int) ∧ (2 : Int) < 10 ∧ (0 ≤ (1 : Int) ∧ (1 : Int) < g2) ∧ g2 ≤ 13 ∧ (∀ (Z'2 : Zt), (PA Z'2 (a2 + 1) g2 (fun j => if j = (Int.toNat (2 : Int)) then (1 : Int) else g3 j) ∧ Oth Z'1 Z'2 (At2 (a2 + 1))) → (Rg ((v1 - 1) - ((Z a0_field 0) * (Z a0_field 0))) ∧ 0 < (Z a0_field 0) * (Z a0_field 0) ∧ (Rg (Int.tdiv ((v1 - 1) - ((Z a0_field 0) * (Z a0_field 0))) ((Z a0_field 0) * (Z a0_field 0))) ∧ 0 < Z a0_field 0 ∧ (∃ g4 : Int, (∃ g5 : Nat → Int, (PA Z'2 (a2 + 1) g4 g5 ∧ 0 ≤ (1 : Int) ∧ (1 : Int) < 10 ∧ (0 ≤ (Int.tmod (Int.tdiv ((v1 - 1) - ((Z a0_field 0) * (Z a0_field 0))) ((Z a0_field 0) * (Z a0_field 0))) (Z a0_field 0)) ∧ (Int.tmod (Int.tdiv ((v1 - 1) - ((Z a0_field 0) * (Z a0_field 0))) ((Z a0_field 0) * (Z a0_field 0))) (Z a0_field 0)) < g4) ∧ g4 ≤ 13 ∧ (∀ (Z'3 : Zt), (PA Z'3 (a2 + 1) g4 (fun j => if j = (Int.toNat (1 : Int)) then (Int.tmod (Int.tdiv ((v1 - 1) - ((Z a0_field 0) * (Z a0_field 0))) ((Z a0_field 0) * (Z a0_field 0))) (Z a0_field 0)) else g5 j) ∧ Oth Z'2 Z'3 (At2 (a2 + 1))) → (∃ g6 : Int, (∃ g7 : Nat → Int, (PA Z'3 (a2 + 1) g6 g7 ∧ 0 ≤ (0 : Int) ∧ (0 : Int) < 10 ∧ (0 ≤ (Int.tdiv (Int.tdiv ((v1 - 1) - ((Z a0_field 0) * (Z a0_field 0))) ((Z a0_field 0) * (Z a0_field 0))) (Z a0_field 0)) ∧ (Int.tdiv (Int.tdiv ((v1 - 1) - ((Z a0_field 0) * (Z a0_field 0))) ((Z a0_field 0) * (Z a0_field 0))) (Z a0_field 0)) < g6) ∧ g6 ≤ 13 ∧ (∀ (Z'4 : Zt), (PA Z'4 (a2 + 1) g6 (fun j => if j = (Int.toNat (0 : Int)) then (Int.tdiv (Int.tdiv ((v1 - 1) - ((Z a0_field 0) * (Z a0_field 0))) ((Z a0_field 0) * (Z a0_field 0))) (Z a0_field 0)) else g7 j) ∧ Oth Z'3 Z'4 (At2 (a2 + 1))) → (Rg (Int.tmod ((v1 - 1) - ((Z a0_field 0) * (Z a0_field 0))) ((Z a0_field 0) * (Z a0_field 0))) ∧ (∃ g8 : Int, (∃ g9 : Nat → Int, (PA Z'4 (a2 + 3) g8 g9 ∧ 0 ≤ (1 : Int) ∧ (1 : Int) < 10 ∧ (0 ≤ (Int.tdiv (Int.tmod ((v1 - 1) - ((Z a0_field 0) * (Z a0_field 0))) ((Z a0_field 0) * (Z a0_field 0))) (Z a0_field 0)) ∧ (Int.tdiv (Int.tmod ((v1 - 1) - ((Z a0_field 0) * (Z a0_field 0))) ((Z a0_field 0) * (Z a0_field 0))) (Z a0_field 0)) < g8) ∧ g8 ≤ 13 ∧ (∀ (Z'5 : Zt), (PA Z'5 (a2 + 3) g8 (fun j => if j = (Int.toNat (1 : Int)) then (Int.tdiv (Int.tmod ((v1 - 1) - ((Z a0_field 0) * (Z a0_field 0))) ((Z a0_field 0) * (Z a0_field 0))) (Z a0_field 0)) else g9 j) ∧ Oth Z'4 Z'5 (At2 (a2 + 3))) → (∃ g10 : Int, (∃ g11 : Nat → Int, (PA Z'5 (a2 + 3) g10 g11 ∧ 0 ≤ (0 : Int) ∧ (0 : Int) < 10 ∧ (0 ≤ (Int.tmod ((v1 - 1) - ((Z a0_field 0) * (Z a0_field 0))) (Z a0_field 0)) ∧ (Int.tmod ((v1 - 1) - ((Z a0_field 0) * (Z a0_field 0))) (Z a0_field 0)) < g10) ∧ g10 ≤ 13 ∧ (∀ (Z'6 : Zt), (PA Z'6 (a2 + 3) g10 (fun j => if j = (Int.toNat (0 : Int)) then (Int.tmod ((v1 - 1) - ((Z a0_field 0) * (Z a0_field 0))) (Z a0_field 0)) else g11 j) ∧ Oth Z'5 Z'6 (At2 (a2 + 3))) → (Q none x Z'6))))))))))))))))))))))))) ∧ ((v1 - 1 < (Z a0_field 0) * (Z a0_field 0)) → (0 < Z a0_field 0 ∧ (∃ g12 : Int, (Z'1 a0_field 0 = g12 ∧ (3 ≤ g12 ∧ g12 ≤ 13) ∧ (a0_field + 2 < a2 ∨ a2 + 4 < a0_field) ∧ ((-100) ≤ (-(Int.tdiv (v1 - 1) (Z a0_field 0))) ∧ (-(Int.tdiv (v1 - 1) (Z a0_field 0))) ≤ 100) ∧ ((-100) ≤ (Int.tmod (v1 - 1) (Z a0_field 0)) ∧ (Int.tmod (v1 - 1) (Z a0_field 0)) ≤ 100) ∧ (∀ (Z'7 : Zt), (PrA Z'7 a2 g12 (ulin g12 (-(Int.tdiv (v1 - 1) (Z a0_field 0)))) (pcon ((Int.tmod (v1 - 1) (Z a0_field 0)) % g12)) ∧ Oth Z'1 Z'7 (At5 a2)) → (Q none x Z'7))))))))) ∧ ((Z a0_field 0 < 2) → (Q none x Z'1)))))))))) :
    V mX0_takeKey k n 0 [some (r_ a0), some (i_ v1), some (r_ a2), none, none, none] [] x Z Q :=
  V_aload_n dX0_takeKey_0 rfl (G_0_1 o_a0.1 r_a0_field lf_0_12 dX0_takeKey_1 (G_4_0 o_a0_field.1 lf_0_181 dX0_takeKey_4 (V_istore_n (lv' := [some (r_ a0), some (i_ v1), some (r_ a2), some (i_ (Z a0_field 0)), none, none]) dX0_takeKey_7 (Nat.le_of_ble_eq_true rfl) rfl (V_iload_n dX0_takeKey_8 rfl (V_iload_n dX0_takeKey_9 rfl (V_imul dX0_takeKey_10 (V_istore (lv' := [some (r_ a0), some (i_ v1), some (r_ a2), some (i_ (Z a0_field 0)), some (i_ ((Z a0_field 0) * (Z a0_field 0))), none]) dX0_takeKey_11 (Nat.le_of_ble_eq_true rfl) rfl (V_aload_n dX0_takeKey_13 rfl (Exists.elim h (fun g1 w1 => V_callV (k' := 0) (n' := 0) (t := 6) (q := (RX6, TX6, 2)) [] [] okX6_nothing o_a2.1 rfl rfl lm_0_86 liX6_nothing lqX6_nothing (Nat.le_of_ble_eq_true rfl) (Nat.le_of_ble_eq_true rfl) (Nat.le_of_ble_eq_true rfl) (cat_of rfl) (Nat.le_of_ble_eq_true rfl) (Nat.zero_le _) (Nat.zero_le _) rfl dX0_takeKey_14 (sp_X6_nothing o_a2 w1.1 (fun Z'1 p1 => V_iload_n dX0_takeKey_17 rfl (V_iconst dX0_takeKey_18 (V_icmp_lt (tgt := 27) dX0_takeKey_19 rfl (w1.2 Z'1 p1).1 (rg_c rfl) (fun c1 => V_ret dX0_takeKey_27 rfl ((w1.2 Z'1 p1).2.1 c1)) (fun c1 => V_iload_n dX0_takeKey_22 rfl (V_iconst dX0_takeKey_23 (V_icmp_ge (tgt := 28) dX0_takeKey_24 rfl ((w1.2 Z'1 p1).2.2 c1).1 (rg_c rfl) (fun c2 => V_iload_n dX0_takeKey_28 rfl (V_iconst dX0_takeKey_29 (V_isub dX0_takeKey_30 (V_istore (lv' := [some (r_ a0), some (i_ v1), some (r_ a2), some (i_ (Z a0_field 0)), some (i_ ((Z a0_field 0) * (Z a0_field 0))), some (i_ (v1 - 1))]) dX0_takeKey_31 (Nat.le_of_ble_eq_true rfl) rfl (V_iload dX0_takeKey_33 rfl (V_iload dX0_takeKey_35 rfl (V_icmp_ge (tgt := 58) dX0_takeKey_37 rfl (((w1.2 Z'1 p1).2.2 c1).2.1 c2).1 (((w1.2 Z'1 p1).2.2 c1).2.1 c2).2.1 (fun c3 => V_iload dX0_takeKey_58 rfl (V_iload dX0_takeKey_60 rfl (V_isub dX0_takeKey_62 (V_istore (lv' := [some (r_ a0), some (i_ v1), some (r_ a2), some (i_ (Z a0_field 0)), some (i_ ((Z a0_field 0) * (Z a0_field 0))), some (i_ ((v1 - 1) - ((Z a0_field 0) * (Z a0_field 0))))]) dX0_takeKey_63 (Nat.le_of_ble_eq_true rfl) rfl (V_aload_n dX0_takeKey_65 rfl (G_6_0 o_a2.1 o_a2.2.1 lf_0_130 dX0_takeKey_66 (V_iconst dX0_takeKey_69 (V_iconst dX0_takeKey_70 (Exists.elim ((((w1.2 Z'1 p1).2.2 c1).2.1 c2).2.2.1 c3) (fun g2 w2 => Exists.elim w2 (fun g3 w3 => V_callV (k' := 0) (n' := 0) (t := 7) (q := (RX7, TX7, 2)) [i_ 2, i_ 1] [] okX7_put o_a2.2.2.1.1 rfl rfl lm_0_205 liX7_put lqX7_put (Nat.le_of_ble_eq_true rfl) (Nat.le_of_ble_eq_true rfl) (Nat.le_of_ble_eq_true rfl) (cat_of rfl) (Nat.le_of_ble_eq_true rfl) (Nat.zero_le _) (Nat.zero_le _) rfl dX0_takeKey_71 (sp_X7_put o_a2.2.2.1 w3.1 w3.2.1 w3.2.2.1 w3.2.2.2.1 w3.2.2.2.2.1 (fun Z'2 p2 => V_aload_n dX0_takeKey_74 rfl (G_6_0 o_a2.1 o_a2.2.1 lf_0_130 dX0_takeKey_75 (V_iconst dX0_takeKey_78 (V_iload dX0_takeKey_79 rfl (V_iload dX0_takeKey_81 rfl (V_idiv dX0_takeKey_83 (w3.2.2.2.2.2 Z'2 p2).1 (((w1.2 Z'1 p1).2.2 c1).2.1 c2).2.1 (w3.2.2.2.2.2 Z'2 p2).2.1 (V_iload_n dX0_takeKey_84 rfl (V_irem dX0_takeKey_85 (w3.2.2.2.2.2 Z'2 p2).2.2.1 ((w1.2 Z'1 p1).2.2 c1).1 (w3.2.2.2.2.2 Z'2 p2).2.2.2.1 (Exists.elim (w3.2.2.2.2.2 Z'2 p2).2.2.2.2 (fun g4 w4 => Exists.elim w4 (fun g5 w5 => V_callV (k' := 0) (n' := 0) (t := 7) (q := (RX7, TX7, 2)) [i_ 1, i_ (Int.tmod (Int.tdiv ((v1 - 1) - ((Z a0_field 0) * (Z a0_field 0))) ((Z a0_field 0) * (Z a0_field 0))) (Z a0_field 0))] [] okX7_put o_a2.2.2.1.1 rfl rfl lm_0_205 liX7_put lqX7_put (Nat.le_of_ble_eq_true rfl) (Nat.le_of_ble_eq_true rfl) (Nat.le_of_ble_eq_true rfl) (cat_of rfl) (Nat.le_of_ble_eq_true rfl) (Nat.zero_le _) (Nat.zero_le _) rfl dX0_takeKey_86 (sp_X7_put o_a2.2.2.1 w5.1 w5.2.1 w5.2.2.1 w5.2.2.2.1 w5.2.2.2.2.1 (fun Z'3 p3 => V_aload_n dX0_takeKey_89 rfl (G_6_0 o_a2.1 o_a2.2.1 lf_0_130 dX0_takeKey_90 (V_iconst dX0_takeKey_93 (V_iload dX0_takeKey_94 rfl (V_iload dX0_takeKey_96 rfl (V_idiv dX0_takeKey_98 (w3.2.2.2.2.2 Z'2 p2).1 (((w1.2 Z'1 p1).2.2 c1).2.1 c2).2.1 (w3.2.2.2.2.2 Z'2 p2).2.1 (V_iload_n dX0_takeKey_99 rfl (V_idiv dX0_takeKey_100 (w3.2.2.2.2.2 Z'2 p2).2.2.1 ((w1.2 Z'1 p1).2.2 c1).1 (w3.2.2.2.2.2 Z'2 p2).2.2.2.1 (Exists.elim (w5.2.2.2.2.2 Z'3 p3) (fun g6 w6 => Exists.elim w6 (fun g7 w7 => V_callV (k' := 0) (n' := 0) (t := 7) (q := (RX7, TX7, 2)) [i_ 0, i_ (Int.tdiv (Int.tdiv ((v1 - 1) - ((Z a0_field 0) * (Z a0_field 0))) ((Z a0_field 0) * (Z a0_field 0))) (Z a0_field 0))] [] okX7_put o_a2.2.2.1.1 rfl rfl lm_0_205 liX7_put lqX7_put (Nat.le_of_ble_eq_true rfl) (Nat.le_of_ble_eq_true rfl) (Nat.le_of_ble_eq_true rfl) (cat_of rfl) (Nat.le_of_ble_eq_true rfl) (Nat.zero_le _) (Nat.zero_le _) rfl dX0_takeKey_101 (sp_X7_put o_a2.2.2.1 w7.1 w7.2.1 w7.2.2.1 w7.2.2.2.1 w7.2.2.2.2.1 (fun Z'4 p4 => V_aload_n dX0_takeKey_104 rfl (G_6_1 o_a2.1 o_a2.2.2.2.1 lf_0_111 dX0_takeKey_105 (V_iconst dX0_takeKey_108 (V_iload dX0_takeKey_109 rfl (V_iload dX0_takeKey_111 rfl (V_irem dX0_takeKey_113 (w3.2.2.2.2.2 Z'2 p2).1 (((w1.2 Z'1 p1).2.2 c1).2.1 c2).2.1 (w3.2.2.2.2.2 Z'2 p2).2.1 (V_iload_n dX0_takeKey_114 rfl (V_idiv dX0_takeKey_115 (w7.2.2.2.2.2 Z'4 p4).1 ((w1.2 Z'1 p1).2.2 c1).1 (w3.2.2.2.2.2 Z'2 p2).2.2.2.1 (Exists.elim (w7.2.2.2.2.2 Z'4 p4).2 (fun g8 w8 => Exists.elim w8 (fun g9 w9 => V_callV (k' := 0) (n' := 0) (t := 7) (q := (RX7, TX7, 2)) [i_ 1, i_ (Int.tdiv (Int.tmod ((v1 - 1) - ((Z a0_field 0) * (Z a0_field 0))) ((Z a0_field 0) * (Z a0_field 0))) (Z a0_field 0))] [] okX7_put o_a2.2.2.2.2.1 rfl rfl lm_0_205 liX7_put lqX7_put (Nat.le_of_ble_eq_true rfl) (Nat.le_of_ble_eq_true rfl) (Nat.le_of_ble_eq_true rfl) (cat_of rfl) (Nat.le_of_ble_eq_true rfl) (Nat.zero_le _) (Nat.zero_le _) rfl dX0_takeKey_116 (sp_X7_put o_a2.2.2.2.2 w9.1 w9.2.1 w9.2.2.1 w9.2.2.2.1 w9.2.2.2.2.1 (fun Z'5 p5 => V_aload_n dX0_takeKey_119 rfl (G_6_1 o_a2.1 o_a2.2.2.2.1 lf_0_111 dX0_takeKey_120 (V_iconst dX0_takeKey_123 (V_iload dX0_takeKey_124 rfl (V_iload_n dX0_takeKey_126 rfl (V_irem dX0_takeKey_127 (w3.2.2.2.2.2 Z'2 p2).1 ((w1.2 Z'1 p1).2.2 c1).1 (w3.2.2.2.2.2 Z'2 p2).2.2.2.1 (Exists.elim (w9.2.2.2.2.2 Z'5 p5) (fun g10 w10 => Exists.elim w10 (fun g11 w11 => V_callV (k' := 0) (n' := 0) (t := 7) (q := (RX7, TX7, 2)) [i_ 0, i_ (Int.tmod ((v1 - 1) - ((Z a0_field 0) * (Z a0_field 0))) (Z a0_field 0))] [] okX7_put o_a2.2.2.2.2.1 rfl rfl lm_0_205 liX7_put lqX7_put (Nat.le_of_ble_eq_true rfl) (Nat.le_of_ble_eq_true rfl) (Nat.le_of_ble_eq_true rfl) (cat_of rfl) (Nat.le_of_ble_eq_true rfl) (Nat.zero_le _) (Nat.zero_le _) rfl dX0_takeKey_128 (sp_X7_put o_a2.2.2.2.2 w11.1 w11.2.1 w11.2.2.1 w11.2.2.2.1 w11.2.2.2.2.1 (fun Z'6 p6 => V_ret dX0_takeKey_131 rfl (w11.2.2.2.2.2 Z'6 p6)))))))))))))))))))))))))))))))))))))))))))))))))))))))))))) (fun c3 => V_aload_n dX0_takeKey_40 rfl (V_aload_n dX0_takeKey_41 rfl (G_0_1 o_a0.1 r_a0_field lf_0_12 dX0_takeKey_42 (V_iload dX0_takeKey_45 rfl (V_iload_n dX0_takeKey_47 rfl (V_idiv dX0_takeKey_48 (((w1.2 Z'1 p1).2.2 c1).2.1 c2).1 ((w1.2 Z'1 p1).2.2 c1).1 ((((w1.2 Z'1 p1).2.2 c1).2.1 c2).2.2.2 c3).1 (V_ineg dX0_takeKey_49 (V_iload dX0_takeKey_50 rfl (V_iload_n dX0_takeKey_52 rfl (V_irem dX0_takeKey_53 (((w1.2 Z'1 p1).2.2 c1).2.1 c2).1 ((w1.2 Z'1 p1).2.2 c1).1 ((((w1.2 Z'1 p1).2.2 c1).2.1 c2).2.2.2 c3).1 (Exists.elim ((((w1.2 Z'1 p1).2.2 c1).2.1 c2).2.2.2 c3).2 (fun g12 w12 => V_callV (k' := 0) (n' := 0) (t := 6) (q := (RX6, TX6, 2)) [r_ a0_field, i_ (-(Int.tdiv (v1 - 1) (Z a0_field 0))), i_ (Int.tmod (v1 - 1) (Z a0_field 0))] [] okX6_place o_a2.1 rfl rfl lm_0_89 liX6_place lqX6_place (Nat.le_of_ble_eq_true rfl) (Nat.le_of_ble_eq_true rfl) (Nat.le_of_ble_eq_true rfl) (cat_of rfl) (Nat.le_of_ble_eq_true rfl) (Nat.zero_le _) (Nat.zero_le _) rfl dX0_takeKey_54 (sp_X6_place o_a2 o_a0_field w12.1 w12.2.1 w12.2.2.1 w12.2.2.2.1 w12.2.2.2.2.1 (fun Z'7 p7 => V_ret dX0_takeKey_57 rfl (w12.2.2.2.2.2 Z'7 p7)))))))))))))))))))))) (fun c2 => V_ret dX0_takeKey_27 rfl (((w1.2 Z'1 p1).2.2 c1).2.2 c2)))))))))))))))))))
/-! ===== Classes: all of them ===== -/
theorem PA.put2 {Z : Zt} {a : Nat} {p : Int} {f g : Nat → Int} (h : PA Z a p f) (e : f = g) : PA Z a p g := e ▸ h
theorem sp_X0_takeKey {k n : Nat} {x : Wx} {Z : Zt} {Q : Option Value → Wx → Zt → Prop} {a d fl : Nat} {v : Int} (r1 : x.2.1 a 1 = some fl) (o : Is0 x a) (od : Is6 x d) (ofl : Is4 x fl) {p g : Int} {A : UV} (hp : IsP p) (hg : g = 1 ∨ g = 2) (hf : FA Z fl p) (hA : RP p g A) (hv : v = kyF p A) (hfd : fl + 2 < d) (h : ∀ Z' : Zt, (PrA Z' d p A.1 A.2 ∧ Oth Z Z' (At5 d)) → Q none x Z') : V mX0_takeKey k n 0 [some (r_ a), some (i_ v), some (r_ d), none, none, none] [] x Z Q := by
  have hpr := hp.rg
  have e0 := hf.1
  have hkr := ky_rg hp hg hA
  have hpp : 9 ≤ p * p ∧ p * p ≤ 169 := by rcases hp with rfl | rfl | rfl | rfl | rfl <;> decide
  have hv9 : 0 ≤ v ∧ v ≤ 100000 := by rw [hv]; exact hkr
  refine b_X0_takeKey_0 r1 o ofl od ⟨p, ⟨by omega, by omega⟩, fun Z1 hz1 => ?_⟩
  rw [e0]
  obtain ⟨q1, q2⟩ := hz1
  refine ⟨⟨by omega, by omega⟩, fun c1 => ?_, fun c1 => ⟨⟨by omega, by omega⟩, fun _ => ⟨⟨by omega, by omega⟩, ⟨by omega, by omega⟩, fun c2 => ?_, fun c2 => ?_⟩, fun c2 => by omega⟩⟩
  · rcases hA.form hp hg with e | ⟨u, w, hu, hw, e⟩ | ⟨_, u0, u1, v0, v1, h0, h1, g0, g1, e⟩
    · refine h Z1 ⟨?_, q2⟩
      rw [e]; exact q1
    · rw [e, ky_uv1 hp (g := 1) (by decide) hu hw] at hv
      have : 0 ≤ u * p := Int.mul_nonneg hu.1 (by omega)
      omega
    · rw [e, ky_uv2 hp h0 h1 g0 g1] at hv
      have m1 : 0 ≤ (u0 * p + u1) * p * p := Int.mul_nonneg (Int.mul_nonneg (Int.add_nonneg (Int.mul_nonneg h0.1 (by omega)) h1.1) (by omega)) (by omega)
      have m2 : 0 ≤ v1 * p := Int.mul_nonneg g1.1 (by omega)
      omega
  · -- of degree 2
    rcases hA.form hp hg with e | ⟨u, w, hu, hw, e⟩ | ⟨_, u0, u1, v0, v1, h0, h1, g0, g1, e⟩
    · rw [e, ky_0] at hv; omega
    · rw [e, ky_uv1 hp (g := 1) (by decide) hu hw] at hv
      exfalso
      rcases hp with rfl | rfl | rfl | rfl | rfl <;> omega
    · rw [e, ky_uv2 hp h0 h1 g0 g1] at hv
      have hleft : v - 1 - p * p = (u0 * p + u1) * (p * p) + (v1 * p + v0) := by
        rw [hv]; rcases hp with rfl | rfl | rfl | rfl | rfl <;> omega
      have hin : 0 ≤ v1 * p + v0 ∧ v1 * p + v0 < p * p := by rcases hp with rfl | rfl | rfl | rfl | rfl <;> omega
      have hU : 0 ≤ u0 * p + u1 ∧ u0 * p + u1 < p * p := by rcases hp with rfl | rfl | rfl | rfl | rfl <;> omega
      have d1 : Int.tdiv (v - 1 - p * p) (p * p) = u0 * p + u1 := by
        rw [Int.tdiv_eq_ediv_of_nonneg (by omega), hleft, Int.add_comm, Int.add_mul_ediv_right _ _ (by omega), Int.ediv_eq_zero_of_lt hin.1 hin.2, Int.zero_add]
      have d2 : Int.tmod (v - 1 - p * p) (p * p) = v1 * p + v0 := by
        rw [Int.tmod_eq_emod_of_nonneg (by omega), hleft, Int.add_comm, Int.add_mul_emod_self_right, Int.emod_eq_of_lt hin.1 hin.2]
      have d3 : Int.tmod (u0 * p + u1) p = u1 := by
        rw [Int.tmod_eq_emod_of_nonneg hU.1, Int.add_comm, Int.add_mul_emod_self_right, Int.emod_eq_of_lt h1.1 h1.2]
      have d4 : Int.tdiv (u0 * p + u1) p = u0 := by
        rw [Int.tdiv_eq_ediv_of_nonneg hU.1, Int.add_comm, Int.add_mul_ediv_right _ _ (by omega), Int.ediv_eq_zero_of_lt h1.1 h1.2, Int.zero_add]
      have d5 : Int.tdiv (v1 * p + v0) p = v1 := by
        rw [Int.tdiv_eq_ediv_of_nonneg hin.1, Int.add_comm, Int.add_mul_ediv_right _ _ (by omega), Int.ediv_eq_zero_of_lt g0.1 g0.2, Int.zero_add]
      have d6 : Int.tmod (v - 1 - p * p) p = v0 := by
        rw [Int.tmod_eq_emod_of_nonneg (by omega), hleft, ← Int.mul_assoc, ← Int.add_assoc, ← Int.add_mul, Int.add_comm, Int.add_mul_emod_self_right, Int.emod_eq_of_lt g0.1 g0.2]
      rw [d1, d2, d3, d4, d5, d6]
      have nn : ∀ q : Nat, ¬ At2 (d + 1) (d + 3 + q) := fun q => by intro hh; rcases hh with hh | hh <;> omega
      refine ⟨p, pone, q1.1, by decide, by decide, ⟨by omega, by omega⟩, by omega, fun Z2 hz2 => ⟨⟨by omega, by omega⟩, by omega, ⟨by omega, by omega⟩, by omega, p, _, hz2.1, by decide, by decide, h1, by omega, fun Z3 hz3 => ⟨p, _, hz3.1, by decide, by decide, h0, by omega, fun Z4 hz4 => ⟨⟨by omega, by omega⟩, p, pzero, ?_, by decide, by decide, g1, by omega, fun Z5 hz5 => ⟨p, _, hz5.1, by decide, by decide, g0, by omega, fun Z6 hz6 => h Z6 ⟨⟨?_, ?_⟩, fun b hb => ?_⟩⟩⟩⟩⟩⟩
      · exact ((q1.2.kept hz2.2 (nn 0) (nn 1)).kept hz3.2 (nn 0) (nn 1)).kept hz4.2 (nn 0) (nn 1)
      · have h4 := (hz4.1.kept hz5.2 (by intro hh; rcases hh with hh | hh <;> omega) (by intro hh; rcases hh with hh | hh <;> omega)).kept hz6.2 (by intro hh; rcases hh with hh | hh <;> omega) (by intro hh; rcases hh with hh | hh <;> omega)
        refine h4.put2 (funext fun j => ?_)
        rw [e]
        show (if j = 0 then u0 else if j = 1 then u1 else if j = 2 then (1 : Int) else if j = 0 then 1 else 0) = if j = 0 then u0 else if j = 1 then u1 else if j = 2 then 1 else 0
        by_cases j0 : j = 0
        · rw [if_pos j0, if_pos j0]
        · rw [if_neg j0, if_neg j0, if_neg j0]
      · refine hz6.1.put2 (funext fun j => ?_)
        rw [e]; rfl
      · have hq := q2 b hb
        rw [hz6.2 b (fun hh => hb (by rcases hh with hh | hh <;> constructor <;> omega)), hz5.2 b (fun hh => hb (by rcases hh with hh | hh <;> constructor <;> omega)), hz4.2 b (fun hh => hb (by rcases hh with hh | hh <;> constructor <;> omega)), hz3.2 b (fun hh => hb (by rcases hh with hh | hh <;> constructor <;> omega)), hz2.2 b (fun hh => hb (by rcases hh with hh | hh <;> constructor <;> omega))]
        exact hq
  · rcases hA.form hp hg with e | ⟨u, w, hu, hw, e⟩ | ⟨_, u0, u1, v0, v1, h0, h1, g0, g1, e⟩
    · rw [e, ky_0] at hv; omega
    · rw [e, ky_uv1 hp (g := 1) (by decide) hu hw] at hv
      have hup : 0 ≤ u * p := Int.mul_nonneg hu.1 (by omega)
      have hleft : v - 1 = w + u * p := by omega
      have d1 : Int.tdiv (v - 1) p = u := by
        rw [Int.tdiv_eq_ediv_of_nonneg (by omega), hleft, Int.add_mul_ediv_right _ _ (by omega), Int.ediv_eq_zero_of_lt hw.1 hw.2, Int.zero_add]
      have d2 : Int.tmod (v - 1) p = w := by
        rw [Int.tmod_eq_emod_of_nonneg (by omega), hleft, Int.add_mul_emod_self_right, Int.emod_eq_of_lt hw.1 hw.2]
      rw [d1, d2]
      refine ⟨by omega, p, ?_, ⟨by omega, by omega⟩, Or.inl hfd, ⟨by omega, by omega⟩, ⟨by omega, by omega⟩, fun Z2 hz2 => h Z2 ⟨?_, fun b hb => ?_⟩⟩
      · rw [q2 fl (by intro hh; have := hh.1; omega)]; exact e0
      · have e1 : ulin p (-u) = (uv1 u w).1 := funext fun j => by
          show (if j = 0 then (-(-u)) % p else if j = 1 then 1 else 0) = if j = 0 then u else if j = 1 then 1 else 0
          rw [Int.neg_neg, Int.emod_eq_of_lt hu.1 hu.2]
        have e2 : pcon (w % p) = (uv1 u w).2 := by rw [Int.emod_eq_of_lt hw.1 hw.2]; rfl
        rw [e, ← e1, ← e2]; exact hz2.1
      · rw [hz2.2 b hb]; exact q2 b hb
    · rw [e, ky_uv2 hp h0 h1 g0 g1] at hv
      exfalso
      have m1 : 0 ≤ (u0 * p + u1) * p * p := Int.mul_nonneg (Int.mul_nonneg (Int.add_nonneg (Int.mul_nonneg h0.1 (by omega)) h1.1) (by omega)) (by omega)
      have m2 : 0 ≤ v1 * p := Int.mul_nonneg g1.1 (by omega)
      omega
theorem w_X0_keyOf {k n : Nat} {x : Wx} {Z : Zt} {Q : Option Value → Wx → Zt → Prop} {a b fl ff : Nat} (r1 : x.2.1 a 1 = some fl) (r2 : x.2.1 a 2 = some ff) (o : Is0 x a) (ob : Is6 x b) (ofl : Is4 x fl) (off : Is7 x ff) {p g : Int} {F : Nat → Int} {A : UV} (hl : fl + 2 < a ∧ ff + 1 < a) (hZ : CZ Z a fl ff p g F) (hA : RP p g A) (hb : PrA Z b p A.1 A.2) (h : Q (some (i_ (kyF p A))) x Z) : V mX0_keyOf k n 0 [some (r_ a), some (r_ b), none, none] [] x Z Q := sp_X0_keyOf ⟨r1, r2, o, ofl, off, hl.1, hl.2⟩ ob hZ hA hb h
theorem dX0_walkFrom_0 : decode cX0_walkFrom 0 = .ok (.aload_n 0, 1) := by decide +kernel
theorem dX0_walkFrom_1 : decode cX0_walkFrom 1 = .ok (.aload_n 0, 1) := by decide +kernel
theorem dX0_walkFrom_2 : decode cX0_walkFrom 2 = .ok (.getfield 67, 3) := by decide +kernel
theorem dX0_walkFrom_5 : decode cX0_walkFrom 5 = .ok (.iload_n 1, 1) := by decide +kernel
theorem dX0_walkFrom_6 : decode cX0_walkFrom 6 = .ok (.iaload, 1) := by decide +kernel
theorem dX0_walkFrom_7 : decode cX0_walkFrom 7 = .ok (.aload_n 0, 1) := by decide +kernel
theorem dX0_walkFrom_8 : decode cX0_walkFrom 8 = .ok (.getfield 61, 3) := by decide +kernel
theorem dX0_walkFrom_11 : decode cX0_walkFrom 11 = .ok (.invokevirtual 213, 3) := by decide +kernel
theorem dX0_walkFrom_14 : decode cX0_walkFrom 14 = .ok (.aload_n 0, 1) := by decide +kernel
theorem dX0_walkFrom_15 : decode cX0_walkFrom 15 = .ok (.getfield 64, 3) := by decide +kernel
theorem dX0_walkFrom_18 : decode cX0_walkFrom 18 = .ok (.invokevirtual 86, 3) := by decide +kernel
theorem dX0_walkFrom_21 : decode cX0_walkFrom 21 = .ok (.iconst 0, 1) := by decide +kernel
theorem dX0_walkFrom_22 : decode cX0_walkFrom 22 = .ok (.istore_n 2, 1) := by decide +kernel
theorem dX0_walkFrom_23 : decode cX0_walkFrom 23 = .ok (.aload_n 0, 1) := by decide +kernel
theorem dX0_walkFrom_24 : decode cX0_walkFrom 24 = .ok (.getfield 74, 3) := by decide +kernel
theorem dX0_walkFrom_27 : decode cX0_walkFrom 27 = .ok (.iload_n 2, 1) := by decide +kernel
theorem dX0_walkFrom_28 : decode cX0_walkFrom 28 = .ok (.aload_n 0, 1) := by decide +kernel
theorem dX0_walkFrom_29 : decode cX0_walkFrom 29 = .ok (.aload_n 0, 1) := by decide +kernel
theorem dX0_walkFrom_30 : decode cX0_walkFrom 30 = .ok (.aload_n 0, 1) := by decide +kernel
theorem dX0_walkFrom_31 : decode cX0_walkFrom 31 = .ok (.getfield 64, 3) := by decide +kernel
theorem dX0_walkFrom_34 : decode cX0_walkFrom 34 = .ok (.invokevirtual 217, 3) := by decide +kernel
theorem dX0_walkFrom_37 : decode cX0_walkFrom 37 = .ok (.invokevirtual 221, 3) := by decide +kernel
theorem dX0_walkFrom_40 : decode cX0_walkFrom 40 = .ok (.iastore, 1) := by decide +kernel
theorem dX0_walkFrom_41 : decode cX0_walkFrom 41 = .ok (.aload_n 0, 1) := by decide +kernel
theorem dX0_walkFrom_42 : decode cX0_walkFrom 42 = .ok (.aload_n 0, 1) := by decide +kernel
theorem dX0_walkFrom_43 : decode cX0_walkFrom 43 = .ok (.getfield 64, 3) := by decide +kernel
theorem dX0_walkFrom_46 : decode cX0_walkFrom 46 = .ok (.aload_n 0, 1) := by decide +kernel
theorem dX0_walkFrom_47 : decode cX0_walkFrom 47 = .ok (.getfield 61, 3) := by decide +kernel
theorem dX0_walkFrom_50 : decode cX0_walkFrom 50 = .ok (.aload_n 0, 1) := by decide +kernel
theorem dX0_walkFrom_51 : decode cX0_walkFrom 51 = .ok (.getfield 64, 3) := by decide +kernel
theorem dX0_walkFrom_54 : decode cX0_walkFrom 54 = .ok (.invokevirtual 103, 3) := by decide +kernel
theorem dX0_walkFrom_57 : decode cX0_walkFrom 57 = .ok (.iinc 2 1, 3) := by decide +kernel
theorem dX0_walkFrom_60 : decode cX0_walkFrom 60 = .ok (.iload_n 2, 1) := by decide +kernel
theorem dX0_walkFrom_61 : decode cX0_walkFrom 61 = .ok (.aload_n 0, 1) := by decide +kernel
theorem dX0_walkFrom_62 : decode cX0_walkFrom 62 = .ok (.getfield 171, 3) := by decide +kernel
theorem dX0_walkFrom_65 : decode cX0_walkFrom 65 = .ok (.if_icmp .ge 13, 3) := by decide +kernel
theorem dX0_walkFrom_68 : decode cX0_walkFrom 68 = .ok (.aload_n 0, 1) := by decide +kernel
theorem dX0_walkFrom_69 : decode cX0_walkFrom 69 = .ok (.getfield 64, 3) := by decide +kernel
theorem dX0_walkFrom_72 : decode cX0_walkFrom 72 = .ok (.invokevirtual 118, 3) := by decide +kernel
theorem dX0_walkFrom_75 : decode cX0_walkFrom 75 = .ok (.ifCond .eq (-52), 3) := by decide +kernel
theorem dX0_walkFrom_78 : decode cX0_walkFrom 78 = .ok (.iconst 0, 1) := by decide +kernel
theorem dX0_walkFrom_79 : decode cX0_walkFrom 79 = .ok (.istore_n 3, 1) := by decide +kernel
theorem dX0_walkFrom_80 : decode cX0_walkFrom 80 = .ok (.iload_n 3, 1) := by decide +kernel
theorem dX0_walkFrom_81 : decode cX0_walkFrom 81 = .ok (.iload_n 2, 1) := by decide +kernel
theorem dX0_walkFrom_82 : decode cX0_walkFrom 82 = .ok (.if_icmp .ge 36, 3) := by decide +kernel
theorem dX0_walkFrom_85 : decode cX0_walkFrom 85 = .ok (.aload_n 0, 1) := by decide +kernel
theorem dX0_walkFrom_86 : decode cX0_walkFrom 86 = .ok (.getfield 74, 3) := by decide +kernel
theorem dX0_walkFrom_89 : decode cX0_walkFrom 89 = .ok (.iload_n 3, 1) := by decide +kernel
theorem dX0_walkFrom_90 : decode cX0_walkFrom 90 = .ok (.iaload, 1) := by decide +kernel
theorem dX0_walkFrom_91 : decode cX0_walkFrom 91 = .ok (.ifCond .lt 21, 3) := by decide +kernel
theorem dX0_walkFrom_94 : decode cX0_walkFrom 94 = .ok (.aload_n 0, 1) := by decide +kernel
theorem dX0_walkFrom_95 : decode cX0_walkFrom 95 = .ok (.getfield 71, 3) := by decide +kernel
theorem dX0_walkFrom_98 : decode cX0_walkFrom 98 = .ok (.aload_n 0, 1) := by decide +kernel
theorem dX0_walkFrom_99 : decode cX0_walkFrom 99 = .ok (.getfield 74, 3) := by decide +kernel
theorem dX0_walkFrom_102 : decode cX0_walkFrom 102 = .ok (.iload_n 3, 1) := by decide +kernel
theorem dX0_walkFrom_103 : decode cX0_walkFrom 103 = .ok (.iaload, 1) := by decide +kernel
theorem dX0_walkFrom_104 : decode cX0_walkFrom 104 = .ok (.iload_n 2, 1) := by decide +kernel
theorem dX0_walkFrom_105 : decode cX0_walkFrom 105 = .ok (.iload_n 2, 1) := by decide +kernel
theorem dX0_walkFrom_106 : decode cX0_walkFrom 106 = .ok (.iload_n 3, 1) := by decide +kernel
theorem dX0_walkFrom_107 : decode cX0_walkFrom 107 = .ok (.invokestatic 224, 3) := by decide +kernel
theorem dX0_walkFrom_110 : decode cX0_walkFrom 110 = .ok (.idiv, 1) := by decide +kernel
theorem dX0_walkFrom_111 : decode cX0_walkFrom 111 = .ok (.iastore, 1) := by decide +kernel
theorem dX0_walkFrom_112 : decode cX0_walkFrom 112 = .ok (.iinc 3 1, 3) := by decide +kernel
theorem dX0_walkFrom_115 : decode cX0_walkFrom 115 = .ok (.goto (-35), 3) := by decide +kernel
theorem dX0_walkFrom_118 : decode cX0_walkFrom 118 = .ok (.return_, 1) := by decide +kernel
set_option maxRecDepth 20000 in
theorem b_X0_walkFrom_0 {k n : Nat} {x : Wx} {Z : Zt} {Q : Option Value → Wx → Zt → Prop} {a0 : Nat} {v1 : Int} {a0_field : Nat} (r_a0_field : x.2.1 a0 1 = some a0_field) (o_a0 : Is0 x a0) (o_a0_field : Is4 x a0_field)
    (h : 0 ≤ v1 ∧ v1 < 450 ∧ (∃ g1 : Int, (∃ g2 : Int, (∃ g3 : UV, (IsP g1 ∧ (g2 = 1 ∨ g2 = 2) ∧ FA Z a0_field g1 ∧ RP g1 g2 g3 ∧ (Z (a0 + 50) v1.toNat) = kyF g1 g3 ∧ a0_field + 2 < (a0 + 40) ∧ (∀ (Z'1 : Zt), (PrA Z'1 (a0 + 40) g1 g3.1 g3.2 ∧ Oth Z Z'1 (At5 (a0 + 40))) → (∃ g4 : Int, ((3 ≤ g4 ∧ g4 ≤ 13) ∧ (∀ (Z'2 : Zt), (PrA Z'2 (a0 + 45) g4 pone pzero ∧ Oth Z'1 Z'2 (At5 (a0 + 45))) → (V mX0_walkFrom k n 23 [some (r_ a0), none, some (i_ 0), none] [] x Z'2 Q)))))))))) :
    V mX0_walkFrom k n 0 [some (r_ a0), some (i_ v1), none, none] [] x Z Q :=
  V_aload_n dX0_walkFrom_0 rfl (V_aload_n dX0_walkFrom_1 rfl (G_0_15 o_a0.1 o_a0.2.2.2.2.2.2.2.2.2.2.2.2.2.2.2.2.2.2.2.2.2.1 lf_0_67 dX0_walkFrom_2 (V_iload_n dX0_walkFrom_5 rfl (V_iald (t := 100) o_a0.2.2.2.2.2.2.2.2.2.2.2.2.2.2.2.2.2.2.2.2.2.2.1 (by decide) rfl h.1 h.2.1 (Nat.le_of_ble_eq_true rfl) dX0_walkFrom_6 (V_aload_n dX0_walkFrom_7 rfl (G_0_12 o_a0.1 o_a0.2.2.2.2.2.2.2.2.2.2.2.2.2.2.2.2.2.1 lf_0_61 dX0_walkFrom_8 (Exists.elim h.2.2 (fun g1 w1 => Exists.elim w1 (fun g2 w2 => Exists.elim w2 (fun g3 w3 => V_callV (k' := 0) (n' := 0) (t := 0) (q := (RX0, TX0, 18)) [i_ (Z (a0 + 50) v1.toNat), r_ (a0 + 40)] [] okX0_takeKey o_a0.1 rfl rfl lm_0_213 liX0_takeKey lqX0_takeKey (Nat.le_of_ble_eq_true rfl) (Nat.le_of_ble_eq_true rfl) (Nat.le_of_ble_eq_true rfl) (cat_of rfl) (Nat.le_of_ble_eq_true rfl) (Nat.zero_le _) (Nat.zero_le _) rfl dX0_walkFrom_11 (sp_X0_takeKey r_a0_field o_a0 o_a0.2.2.2.2.2.2.2.2.2.2.2.2.2.2.2.2.2.2.1 o_a0_field w3.1 w3.2.1 w3.2.2.1 w3.2.2.2.1 w3.2.2.2.2.1 w3.2.2.2.2.2.1 (fun Z'1 p1 => V_aload_n dX0_walkFrom_14 rfl (G_0_13 o_a0.1 o_a0.2.2.2.2.2.2.2.2.2.2.2.2.2.2.2.2.2.2.2.1 lf_0_64 dX0_walkFrom_15 (Exists.elim (w3.2.2.2.2.2.2 Z'1 p1) (fun g4 w4 => V_callV (k' := 0) (n' := 0) (t := 6) (q := (RX6, TX6, 2)) [] [] okX6_nothing o_a0.2.2.2.2.2.2.2.2.2.2.2.2.2.2.2.2.2.2.2.2.1.1 rfl rfl lm_0_86 liX6_nothing lqX6_nothing (Nat.le_of_ble_eq_true rfl) (Nat.le_of_ble_eq_true rfl) (Nat.le_of_ble_eq_true rfl) (cat_of rfl) (Nat.le_of_ble_eq_true rfl) (Nat.zero_le _) (Nat.zero_le _) rfl dX0_walkFrom_18 (sp_X6_nothing o_a0.2.2.2.2.2.2.2.2.2.2.2.2.2.2.2.2.2.2.2.2.1 w4.1 (fun Z'2 p2 => V_iconst dX0_walkFrom_21 (V_istore_n (lv' := [some (r_ a0), some (i_ v1), some (i_ 0), none]) dX0_walkFrom_22 (Nat.le_of_ble_eq_true rfl) rfl (V_msk [true, false, true, false] rfl (w4.2 Z'2 p2))))))))))))))))))))
set_option maxRecDepth 20000 in
theorem b_X0_walkFrom_23 {k n : Nat} {x : Wx} {Z : Zt} {Q : Option Value → Wx → Zt → Prop} {a0 : Nat} {v2 : Int} {a0_field : Nat} {a0_f : Nat} (r_a0_field : x.2.1 a0 1 = some a0_field) (r_a0_f : x.2.1 a0 2 = some a0_f) (o_a0 : Is0 x a0) (o_a0_field : Is4 x a0_field) (o_a0_f : Is7 x a0_f)
    (h : ∃ g1 : Int, (∃ g2 : Int, (∃ g3 : Nat → Int, (∃ g4 : UV, ((a0_field + 2 < a0 ∧ a0_f + 1 < a0) ∧ CZ Z a0 a0_field a0_f g1 g2 g3 ∧ RP g1 g2 g4 ∧ PrA Z (a0 + 45) g1 g4.1 g4.2 ∧ (∃ g5 : Nat, ((Z a0 14 = (g5 : Int) ∧ g5 ≤ 450) ∧ (∀ i : Nat, i < g5 → Rg (Z (a0 + 50) i)) ∧ Rg (kyF g1 g4) ∧ (0 ≤ v2 ∧ v2 < 450 ∧ (∀ Z1 : Zt, Z1 = up Z (a0 + 52) v2.toNat (bsr (Z (a0 + 50)) (kyF g1 g4) g5 0 ((g5 : Int) - 1)) → (∃ g6 : Int, (∃ g7 : Int, (∃ g8 : Nat → Int, (∃ g9 : UV, (∃ g10 : UV, (CF g6 g7 g8 ∧ RP g6 g7 g9 ∧ RP g6 g7 g10 ∧ PrA Z1 (a0 + 45) g6 g9.1 g9.2 ∧ PrA Z1 (a0 + 40) g6 g10.1 g10.2 ∧ PA Z1 a0_f g6 g8 ∧ FA Z1 a0_field g6 ∧ Z1 a0 3 = g7 ∧ a0_field + 2 < a0 ∧ a0_f + 1 < a0 ∧ a0 + 40 ≤ (a0 + 45) ∧ a0 + 40 ≤ (a0 + 40) ∧ (∀ (Z'1 : Zt), (PrA Z'1 (a0 + 45) g6 (cplus g6 g8 g7 g9 g10).1 (cplus g6 g8 g7 g9 g10).2 ∧ Oth Z1 Z'1 (fun q => (a0 + 6 < q ∧ q ≤ a0 + 39) ∨ At5 (a0 + 45) q)) → (Rg (v2 + 1) ∧ Rg (Z'1 a0 14) ∧ (((Z'1 a0 14 ≤ v2 + 1) → (V mX0_walkFrom k n 78 [some (r_ a0), none, some (i_ (v2 + 1)), none] [] x Z'1 Q)) ∧ ((v2 + 1 < Z'1 a0 14) → (∃ g11 : Int, (∃ g12 : Nat → Int, (∃ g13 : Nat → Int, (PrA Z'1 (a0 + 45) g11 g12 g13 ∧ (∀ (r1 : Int), ((r1 = 0 ∨ r1 = 1) ∧ (r1 = 1 ↔ pd g12 ≤ 0)) → (Rg r1 ∧ (((r1 = 0) → (V mX0_walkFrom k n 23 [some (r_ a0), none, some (i_ (v2 + 1)), none] [] x Z'1 Q)) ∧ ((r1 ≠ 0) → (V mX0_walkFrom k n 78 [some (r_ a0), none, some (i_ (v2 + 1)), none] [] x Z'1 Q)))))))))))))))))))))))))))) :
    V mX0_walkFrom k n 23 [some (r_ a0), none, some (i_ v2), none] [] x Z Q :=
  V_aload_n dX0_walkFrom_23 rfl (G_0_17 o_a0.1 o_a0.2.2.2.2.2.2.2.2.2.2.2.2.2.2.2.2.2.2.2.2.2.2.2.2.2.1 lf_0_74 dX0_walkFrom_24 (V_iload_n dX0_walkFrom_27 rfl (V_aload_n dX0_walkFrom_28 rfl (V_aload_n dX0_walkFrom_29 rfl (V_aload_n dX0_walkFrom_30 rfl (G_0_13 o_a0.1 o_a0.2.2.2.2.2.2.2.2.2.2.2.2.2.2.2.2.2.2.2.1 lf_0_64 dX0_walkFrom_31 (Exists.elim h (fun g1 w1 => Exists.elim w1 (fun g2 w2 => Exists.elim w2 (fun g3 w3 => Exists.elim w3 (fun g4 w4 => V_callV (k' := 0) (n' := 0) (t := 0) (q := (RX0, TX0, 18)) [r_ (a0 + 45)] [r_ a0, i_ v2, r_ (a0 + 52)] okX0_keyOf o_a0.1 rfl rfl lm_0_217 liX0_keyOf lqX0_keyOf (Nat.le_of_ble_eq_true rfl) (Nat.le_of_ble_eq_true rfl) (Nat.le_of_ble_eq_true rfl) (cat_of rfl) (Nat.le_of_ble_eq_true rfl) (Nat.zero_le _) (Nat.zero_le _) rfl dX0_walkFrom_34 (w_X0_keyOf r_a0_field r_a0_f o_a0 o_a0.2.2.2.2.2.2.2.2.2.2.2.2.2.2.2.2.2.2.2.2.1 o_a0_field o_a0_f w4.1 w4.2.1 w4.2.2.1 w4.2.2.2.1 (Exists.elim w4.2.2.2.2 (fun g5 w5 => V_callV (k' := 0) (n' := 0) (t := 0) (q := (RX0, TX0, 18)) [i_ (kyF g1 g4)] [i_ v2, r_ (a0 + 52)] okX0_indexOfKey o_a0.1 rfl rfl lm_0_221 liX0_indexOfKey lqX0_indexOfKey (Nat.le_of_ble_eq_true rfl) (Nat.le_of_ble_eq_true rfl) (Nat.le_of_ble_eq_true rfl) (cat_of rfl) (Nat.le_of_ble_eq_true rfl) (Nat.zero_le _) (Nat.zero_le _) rfl dX0_walkFrom_37 (sp_X0_indexOfKey o_a0 w5.1 w5.2.1 w5.2.2.1 (V_iast (t := 100) o_a0.2.2.2.2.2.2.2.2.2.2.2.2.2.2.2.2.2.2.2.2.2.2.2.2.2.2 (by decide) (by decide) rfl w5.2.2.2.1 w5.2.2.2.2.1 (Nat.le_of_ble_eq_true rfl) dX0_walkFrom_40 (V_nmZ (fun Z1 eZ1 => V_aload_n dX0_walkFrom_41 rfl (V_aload_n dX0_walkFrom_42 rfl (G_0_13 o_a0.1 o_a0.2.2.2.2.2.2.2.2.2.2.2.2.2.2.2.2.2.2.2.1 lf_0_64 dX0_walkFrom_43 (V_aload_n dX0_walkFrom_46 rfl (G_0_12 o_a0.1 o_a0.2.2.2.2.2.2.2.2.2.2.2.2.2.2.2.2.2.1 lf_0_61 dX0_walkFrom_47 (V_aload_n dX0_walkFrom_50 rfl (G_0_13 o_a0.1 o_a0.2.2.2.2.2.2.2.2.2.2.2.2.2.2.2.2.2.2.2.1 lf_0_64 dX0_walkFrom_51 (Exists.elim (w5.2.2.2.2.2 Z1 eZ1) (fun g6 w6 => Exists.elim w6 (fun g7 w7 => Exists.elim w7 (fun g8 w8 => Exists.elim w8 (fun g9 w9 => Exists.elim w9 (fun g10 w10 => V_callV (k' := 0) (n' := 0) (t := 0) (q := (RX0, TX0, 18)) [r_ (a0 + 45), r_ (a0 + 40), r_ (a0 + 45)] [] okX0_plus o_a0.1 rfl rfl lm_0_103 liX0_plus lqX0_plus (Nat.le_of_ble_eq_true rfl) (Nat.le_of_ble_eq_true rfl) (Nat.le_of_ble_eq_true rfl) (cat_of rfl) (Nat.le_of_ble_eq_true rfl) (Nat.zero_le _) (Nat.zero_le _) rfl dX0_walkFrom_54 (sp_X0_plus r_a0_field r_a0_f o_a0 o_a0.2.2.2.2.2.2.2.2.2.2.2.2.2.2.2.2.2.2.2.2.1 o_a0.2.2.2.2.2.2.2.2.2.2.2.2.2.2.2.2.2.2.1 o_a0.2.2.2.2.2.2.2.2.2.2.2.2.2.2.2.2.2.2.2.2.1 o_a0_field o_a0_f w10.1 w10.2.1 w10.2.2.1 w10.2.2.2.1 w10.2.2.2.2.1 w10.2.2.2.2.2.1 w10.2.2.2.2.2.2.1 w10.2.2.2.2.2.2.2.1 w10.2.2.2.2.2.2.2.2.1 w10.2.2.2.2.2.2.2.2.2.1 w10.2.2.2.2.2.2.2.2.2.2.1 w10.2.2.2.2.2.2.2.2.2.2.2.1 w10.2.2.2.2.2.2.2.2.2.2.1 (fun Z'1 p1 => V_iinc (lv' := [some (r_ a0), none, some (i_ (v2 + 1)), none]) dX0_walkFrom_57 rfl (Nat.le_of_ble_eq_true rfl) rfl (V_iload_n dX0_walkFrom_60 rfl (V_aload_n dX0_walkFrom_61 rfl (G_0_14 o_a0.1 lf_0_171 dX0_walkFrom_62 (V_icmp_ge (tgt := 78) dX0_walkFrom_65 rfl (w10.2.2.2.2.2.2.2.2.2.2.2.2 Z'1 p1).1 (w10.2.2.2.2.2.2.2.2.2.2.2.2 Z'1 p1).2.1 (fun c1 => V_msk [true, false, true, false] rfl ((w10.2.2.2.2.2.2.2.2.2.2.2.2 Z'1 p1).2.2.1 c1)) (fun c1 => V_aload_n dX0_walkFrom_68 rfl (G_0_13 o_a0.1 o_a0.2.2.2.2.2.2.2.2.2.2.2.2.2.2.2.2.2.2.2.1 lf_0_64 dX0_walkFrom_69 (Exists.elim ((w10.2.2.2.2.2.2.2.2.2.2.2.2 Z'1 p1).2.2.2 c1) (fun g11 w11 => Exists.elim w11 (fun g12 w12 => Exists.elim w12 (fun g13 w13 => V_callV (k' := 0) (n' := 0) (t := 6) (q := (RX6, TX6, 2)) [] [] okX6_isNothing o_a0.2.2.2.2.2.2.2.2.2.2.2.2.2.2.2.2.2.2.2.2.1.1 rfl rfl lm_0_118 liX6_isNothing lqX6_isNothing (Nat.le_of_ble_eq_true rfl) (Nat.le_of_ble_eq_true rfl) (Nat.le_of_ble_eq_true rfl) (cat_of rfl) (Nat.le_of_ble_eq_true rfl) (Nat.zero_le _) (Nat.zero_le _) rfl dX0_walkFrom_72 (sp_X6_isNothing o_a0.2.2.2.2.2.2.2.2.2.2.2.2.2.2.2.2.2.2.2.2.1 w13.1 (fun r1 p2 => V_if_eq (tgt := 23) dX0_walkFrom_75 rfl (w13.2 r1 p2).1 (fun c2 => V_msk [true, false, true, false] rfl ((w13.2 r1 p2).2.1 c2)) (fun c2 => V_msk [true, false, true, false] rfl ((w13.2 r1 p2).2.2 c2))))))))))))))))))))))))))))))))))))))))))))))
set_option maxRecDepth 20000 in
theorem b_X0_walkFrom_78 {k n : Nat} {x : Wx} {Z : Zt} {Q : Option Value → Wx → Zt → Prop} {a0 : Nat} {v2 : Int} 
    (h : V mX0_walkFrom k n 80 [some (r_ a0), none, some (i_ v2), some (i_ 0)] [] x Z Q) :
    V mX0_walkFrom k n 78 [some (r_ a0), none, some (i_ v2), none] [] x Z Q :=
  V_iconst dX0_walkFrom_78 (V_istore_n (lv' := [some (r_ a0), none, some (i_ v2), some (i_ 0)]) dX0_walkFrom_79 (Nat.le_of_ble_eq_true rfl) rfl (V_msk [true, false, true, true] rfl h))
set_option maxRecDepth 20000 in
theorem b_X0_walkFrom_80 {k n : Nat} {x : Wx} {Z : Zt} {Q : Option Value → Wx → Zt → Prop} {a0 : Nat} {v2 : Int} {v3 : Int} (o_a0 : Is0 x a0)
    (h : Rg v3 ∧ Rg v2 ∧ (((v2 ≤ v3) → (Q none x Z)) ∧ ((v3 < v2) → (0 ≤ v3 ∧ v3 < 450 ∧ (Rg (Z (a0 + 52) v3.toNat) ∧ (((Z (a0 + 52) v3.toNat < 0) → (V mX0_walkFrom k n 112 [some (r_ a0), none, some (i_ v2), some (i_ v3)] [] x Z Q)) ∧ ((0 ≤ Z (a0 + 52) v3.toNat) → ((0 ≤ v2 ∧ v2 ≤ 1000) ∧ (0 ≤ v3 ∧ v3 ≤ 1000) ∧ (Rg (gcdF 450 v2 v3) ∧ 0 < gcdF 450 v2 v3 ∧ (Z (a0 + 52) v3.toNat < 450 ∧ (∀ Z1 : Zt, Z1 = up Z (a0 + 51) (Z (a0 + 52) v3.toNat).toNat (Int.tdiv v2 (gcdF 450 v2 v3)) → (V mX0_walkFrom k n 112 [some (r_ a0), none, some (i_ v2), some (i_ v3)] [] x Z1 Q)))))))))))) :
    V mX0_walkFrom k n 80 [some (r_ a0), none, some (i_ v2), some (i_ v3)] [] x Z Q :=
  V_iload_n dX0_walkFrom_80 rfl (V_iload_n dX0_walkFrom_81 rfl (V_icmp_ge (tgt := 118) dX0_walkFrom_82 rfl h.1 h.2.1 (fun c1 => V_ret dX0_walkFrom_118 rfl (h.2.2.1 c1)) (fun c1 => V_aload_n dX0_walkFrom_85 rfl (G_0_17 o_a0.1 o_a0.2.2.2.2.2.2.2.2.2.2.2.2.2.2.2.2.2.2.2.2.2.2.2.2.2.1 lf_0_74 dX0_walkFrom_86 (V_iload_n dX0_walkFrom_89 rfl (V_iald (t := 100) o_a0.2.2.2.2.2.2.2.2.2.2.2.2.2.2.2.2.2.2.2.2.2.2.2.2.2.2 (by decide) rfl (h.2.2.2 c1).1 (h.2.2.2 c1).2.1 (Nat.le_of_ble_eq_true rfl) dX0_walkFrom_90 (V_if_lt (tgt := 112) dX0_walkFrom_91 rfl (h.2.2.2 c1).2.2.1 (fun c2 => V_msk [true, false, true, true] rfl ((h.2.2.2 c1).2.2.2.1 c2)) (fun c2 => V_aload_n dX0_walkFrom_94 rfl (G_0_16 o_a0.1 o_a0.2.2.2.2.2.2.2.2.2.2.2.2.2.2.2.2.2.2.2.2.2.2.2.1 lf_0_71 dX0_walkFrom_95 (V_aload_n dX0_walkFrom_98 rfl (G_0_17 o_a0.1 o_a0.2.2.2.2.2.2.2.2.2.2.2.2.2.2.2.2.2.2.2.2.2.2.2.2.2.1 lf_0_74 dX0_walkFrom_99 (V_iload_n dX0_walkFrom_102 rfl (V_iald (t := 100) o_a0.2.2.2.2.2.2.2.2.2.2.2.2.2.2.2.2.2.2.2.2.2.2.2.2.2.2 (by decide) rfl (h.2.2.2 c1).1 (h.2.2.2 c1).2.1 (Nat.le_of_ble_eq_true rfl) dX0_walkFrom_103 (V_iload_n dX0_walkFrom_104 rfl (V_iload_n dX0_walkFrom_105 rfl (V_iload_n dX0_walkFrom_106 rfl (V_callS (k' := 0) (n' := 0) [i_ v2, i_ v3] [i_ v2, i_ (Z (a0 + 52) v3.toNat), r_ (a0 + 51)] okX0_commonDivisor lm_0_224 lsX0_commonDivisor (Nat.le_of_ble_eq_true rfl) (Nat.le_of_ble_eq_true rfl) (Nat.le_of_ble_eq_true rfl) (cat_of rfl) (Nat.le_of_ble_eq_true rfl) (Nat.zero_le _) (Nat.zero_le _) rfl dX0_walkFrom_107 (sp_X0_commonDivisor  ((h.2.2.2 c1).2.2.2.2 c2).1 ((h.2.2.2 c1).2.2.2.2 c2).2.1 (V_idiv dX0_walkFrom_110 h.2.1 ((h.2.2.2 c1).2.2.2.2 c2).2.2.1 ((h.2.2.2 c1).2.2.2.2 c2).2.2.2.1 (V_iast (t := 100) o_a0.2.2.2.2.2.2.2.2.2.2.2.2.2.2.2.2.2.2.2.2.2.2.2.2.1 (by decide) (by decide) rfl c2 ((h.2.2.2 c1).2.2.2.2 c2).2.2.2.2.1 (Nat.le_of_ble_eq_true rfl) dX0_walkFrom_111 (V_nmZ (fun Z1 eZ1 => V_msk [true, false, true, true] rfl (((h.2.2.2 c1).2.2.2.2 c2).2.2.2.2.2 Z1 eZ1)))))))))))))))))))))))
set_option maxRecDepth 20000 in
theorem b_X0_walkFrom_112 {k n : Nat} {x : Wx} {Z : Zt} {Q : Option Value → Wx → Zt → Prop} {a0 : Nat} {v2 : Int} {v3 : Int} 
    (h : V mX0_walkFrom k n 80 [some (r_ a0), none, some (i_ v2), some (i_ (v3 + 1))] [] x Z Q) :
    V mX0_walkFrom k n 112 [some (r_ a0), none, some (i_ v2), some (i_ v3)] [] x Z Q :=
  V_iinc (lv' := [some (r_ a0), none, some (i_ v2), some (i_ (v3 + 1))]) dX0_walkFrom_112 rfl (Nat.le_of_ble_eq_true rfl) rfl (V_goto (tgt := 80) dX0_walkFrom_115 rfl (V_msk [true, false, true, true] rfl h))
/-- a class taken k times -/
def mulN (p : Int) (F : Nat → Int) (g : Int) (P : UV) : Nat → UV
  | 0 => czero
  | k + 1 => cplus p F g (mulN p F g P k) P
theorem mulN_ok {p g : Int} {F : Nat → Int} {P : UV} (hC : CF p g F) (hP : RP p g P) : ∀ k : Nat, RP p g (mulN p F g P k)
  | 0 => by
    have hp := hC.1.rg
    have ho := pone_ok (p := p) (by omega)
    have hz : pd pzero = -1 := by decide
    have h1 : pd pone = 0 := ho.2.2
    have hg := hC.2.2.2.2
    exact ⟨⟨ho.1, ho.2.1⟩, ⟨fun i => ⟨by show (0 : Int) ≤ 0; decide, by show (0 : Int) < p; omega⟩, fun i _ => rfl⟩, by show 0 ≤ pd pone; omega, by show pd pone ≤ g; omega, by show pd pzero < pd pone; omega, by show pone (pd pone).toNat = 1; rw [h1]; rfl⟩
  | k + 1 => cplus_ok hC (mulN_ok hC hP k) hP
def wkN (p : Int) (F : Nat → Int) (g : Int) (P : UV) (N : Nat) : Nat → Nat → Nat
  | 0, n => n
  | m + 1, n => if N ≤ n + 1 ∨ pd (mulN p F g P (n + 1)).1 ≤ 0 then n + 1 else wkN p F g P N m (n + 1)
def wkT (p : Int) (F : Nat → Int) (g : Int) (P : UV) (K : Nat → Int) (N k : Nat) : Int := bsr K (kyF p (mulN p F g P k)) N 0 ((N : Int) - 1)
def wkO (p : Int) (F : Nat → Int) (g : Int) (P : UV) (K : Nat → Int) (N n : Nat) : Nat → (Nat → Int) → Nat → Int
  | 0, O => O
  | k + 1, O => if 0 ≤ wkT p F g P K N k then upf (wkO p F g P K N n k O) (wkT p F g P K N k).toNat ((n : Int) / gcdF 450 n k) else wkO p F g P K N n k O
theorem bsr_rg (K : Nat → Int) (key : Int) : ∀ (m : Nat) (lo hi : Int), 0 ≤ lo → -1 ≤ hi → -1 ≤ bsr K key m lo hi ∧ bsr K key m lo hi ≤ hi
  | 0, lo, hi, h1, h2 => ⟨Int.le_refl _, h2⟩
  | m + 1, lo, hi, h1, h2 => by
    unfold bsr
    by_cases c : hi < lo
    · rw [if_pos c]; omega
    · rw [if_neg c]
      by_cases c2 : K ((lo + hi) / 2).toNat = key
      · rw [if_pos c2]; omega
      · rw [if_neg c2]
        by_cases c3 : K ((lo + hi) / 2).toNat < key
        · rw [if_pos c3]; exact bsr_rg K key m _ hi (by omega) h2
        · rw [if_neg c3]
          have := bsr_rg K key m lo ((lo + hi) / 2 - 1) h1 (by omega)
          omega
theorem bsr_ext {K K' : Nat → Int} {key : Int} {N : Nat} (h : ∀ i : Nat, i < N → K i = K' i) : ∀ (m : Nat) (lo hi : Int), 0 ≤ lo → hi < N → bsr K key m lo hi = bsr K' key m lo hi
  | 0, _, _, _, _ => rfl
  | m + 1, lo, hi, h1, h2 => by
    unfold bsr
    by_cases c : hi < lo
    · rw [if_pos c, if_pos c]
    · rw [if_neg c, if_neg c, h _ (by omega), bsr_ext h m _ hi (by omega) h2, bsr_ext h m lo _ h1 (by omega)]
theorem wkN_rg (p : Int) (F : Nat → Int) (g : Int) (P : UV) (N : Nat) : ∀ m n : Nat, n ≤ wkN p F g P N m n ∧ wkN p F g P N m n ≤ n + m
  | 0, n => ⟨Nat.le_refl _, Nat.le_refl _⟩
  | m + 1, n => by
    have := wkN_rg p F g P N m (n + 1)
    unfold wkN
    split <;> omega
def kyL (p : Int) (L : List UV) : Nat → Int := fun i => kyF p (L.getD i czero)
/-- the orders behind a walk from the class P -/
def wkA (p : Int) (F : Nat → Int) (g : Int) (P : UV) (L : List UV) (O : Nat → Int) : Nat → Int := wkO p F g P (kyL p L) (min L.length 450) (wkN p F g P (min L.length 450) (min L.length 450) 0) (wkN p F g P (min L.length 450) (min L.length 450) 0) O
theorem sp_X0_walkFrom {k n : Nat} {x : Wx} {Z : Zt} {Q : Option Value → Wx → Zt → Prop} {a fl ff : Nat} {v : Int} (r1 : x.2.1 a 1 = some fl) (r2 : x.2.1 a 2 = some ff) (o : Is0 x a) (ofl : Is4 x fl) (off : Is7 x ff) {p g : Int} {F : Nat → Int} {L : List UV} (hl : fl + 2 < a ∧ ff + 1 < a) (hZ : CZ Z a fl ff p g F) (hK : KyA Z a p L) (hL : ∀ i : Nat, i < min L.length 450 → RP p g (L.getD i czero)) (hv : 0 ≤ v ∧ v < ((min L.length 450 : Nat) : Int)) (h : ∀ Z' : Zt, ((∀ i : Nat, i < 450 → Z' (a + 51) i = wkA p F g (L.getD (Int.toNat v) czero) L (Z (a + 51)) i) ∧ Oth Z Z' (fun q => a + 6 < q ∧ q < a + 53 ∧ q ≠ a + 50)) → Q none x Z') : V mX0_walkFrom k n 0 [some (r_ a), some (i_ v), none, none] [] x Z Q := by
  have hC := hZ.1
  have hp := hC.1
  have hpr := hp.rg
  have hg := hC.2.2.2.2
  obtain ⟨N, hN⟩ : ∃ N : Nat, min L.length 450 = N := ⟨_, rfl⟩
  have hN450 : N ≤ 450 := by omega
  unfold wkA at h
  rw [hN] at hL hv h
  obtain ⟨t, ht⟩ : ∃ t : Nat, v = (t : Int) := ⟨v.toNat, by omega⟩
  rw [ht, Int.toNat_natCast] at h
  rw [ht] at hv ⊢
  have hPok := hL t (by omega)
  have hK1 := hK.1
  have hK2 := hK.2
  rw [hN] at hK1 hK2
  have hPk := hK2 t (by omega)
  generalize L.getD t czero = P at h hPok hPk
  have hM := mulN_ok (F := F) hC hPok
  have hKr : ∀ i : Nat, i < N → Rg (Z (a + 50) i) := fun i hi => by
    rw [hK2 i hi]; have := ky_rg hp hg (hL i hi); exact ⟨by omega, by omega⟩
  have hTe : ∀ j : Nat, bsr (Z (a + 50)) (kyF p (mulN p F g P j)) N 0 ((N : Int) - 1) = wkT p F g P (kyL p L) N j := fun j => bsr_ext (N := N) (fun i hi => hK2 i hi) N 0 _ (by omega) (by omega)
  have hTr : ∀ j : Nat, -1 ≤ wkT p F g P (kyL p L) N j ∧ wkT p F g P (kyL p L) N j < 450 := fun j => by
    have := bsr_rg (kyL p L) (kyF p (mulN p F g P j)) N 0 ((N : Int) - 1) (by omega) (by omega)
    unfold wkT; omega
  -- the orders are written
  have lp2 : ∀ (c : Nat), c ≤ N → c ≤ 450 → wkN p F g P N N 0 = c → ∀ (m i : Nat) (w : Int) (Z1 : Zt), w = i → i + m = c → (∀ j : Nat, j < c → Z1 (a + 52) j = wkT p F g P (kyL p L) N j) → (∀ q : Nat, q < 450 → Z1 (a + 51) q = wkO p F g P (kyL p L) N c i (Z (a + 51)) q) → Oth Z Z1 (fun q => a + 6 < q ∧ q < a + 53 ∧ q ≠ a + 50) → V mX0_walkFrom k n 80 [some (r_ a), none, some (i_ (c : Int)), some (i_ w)] [] x Z1 Q := by
    intro c hcN hc hce m
    induction m with
    | zero =>
      intro i w Z1 hw hi hT hO ho
      refine b_X0_walkFrom_80 o ⟨⟨by omega, by omega⟩, ⟨by omega, by omega⟩, fun _ => h Z1 ⟨fun q hq => ?_, ho⟩, fun c2 => by omega⟩
      rw [hO q hq, show i = c by omega, hce]
    | succ m ih =>
      intro i w Z1 hw hi hT hO ho
      have hti := hTr i
      have hgc := gcdF_rg 450 (c : Int) (i : Int) (by omega) (by omega) (by omega) (by omega)
      have hs : wkO p F g P (kyL p L) N c (i + 1) (Z (a + 51)) = if 0 ≤ wkT p F g P (kyL p L) N i then upf (wkO p F g P (kyL p L) N c i (Z (a + 51))) (wkT p F g P (kyL p L) N i).toNat ((c : Int) / gcdF 450 c i) else wkO p F g P (kyL p L) N c i (Z (a + 51)) := rfl
      refine b_X0_walkFrom_80 o ?_
      rw [show w.toNat = i by omega, hT i (by omega), hw]
      refine ⟨⟨by omega, by omega⟩, ⟨by omega, by omega⟩, fun c2 => by omega, fun _ => ⟨by omega, by omega, ⟨by omega, by omega⟩, fun c3 => b_X0_walkFrom_112 (ih (i + 1) _ Z1 (by omega) (by omega) hT ?_ ho), fun c3 => ⟨⟨by omega, by omega⟩, ⟨by omega, by omega⟩, ⟨by omega, by omega⟩, by omega, by omega, fun Z2 e2 => b_X0_walkFrom_112 (ih (i + 1) _ Z2 (by omega) (by omega) (fun j hj => ?_) (fun q hq => ?_) (fun b hb => ?_))⟩⟩⟩
      · rw [hs, if_neg (by omega)]; exact hO
      · rw [e2, up_row _ _ _ _ _ (by omega)]; exact hT j hj
      · rw [hs, if_pos c3, e2, up_at, Int.tdiv_eq_ediv_of_nonneg (by omega)]
        unfold upf
        by_cases cq : q = (wkT p F g P (kyL p L) N i).toNat
        · rw [if_pos cq, if_pos cq]
        · rw [if_neg cq, if_neg cq]; exact hO q hq
      · rw [e2, up_row _ _ _ _ _ (by omega)]; exact ho b hb
  -- the walk
  have lp1 : ∀ (m i : Nat) (w : Int) (Z1 : Zt), w = i → i + m = N → 0 < m → wkN p F g P N N 0 = wkN p F g P N m i → PrA Z1 (a + 40) p P.1 P.2 → PrA Z1 (a + 45) p (mulN p F g P i).1 (mulN p F g P i).2 → (∀ j : Nat, j < i → Z1 (a + 52) j = wkT p F g P (kyL p L) N j) → Oth Z Z1 (fun q => a + 6 < q ∧ q < a + 53 ∧ q ≠ a + 50 ∧ q ≠ a + 51) → V mX0_walkFrom k n 23 [some (r_ a), none, some (i_ w), none] [] x Z1 Q := by
    intro m
    induction m with
    | zero => intro i w Z1 _ _ h0; exact absurd h0 (by decide)
    | succ m ih =>
      intro i w Z1 hw hi _ he h40 h45 hT ho
      have hX : CX x a fl ff := ⟨r1, r2, o, ofl, off, hl.1, hl.2⟩
      have hZ1 : CZ Z1 a fl ff p g F := hZ.kept hX ho (fun q hq => by omega)
      have he' : wkN p F g P N N 0 = if N ≤ i + 1 ∨ pd (mulN p F g P (i + 1)).1 ≤ 0 then i + 1 else wkN p F g P N m (i + 1) := he
      refine b_X0_walkFrom_23 r1 r2 o ofl off ⟨p, g, F, mulN p F g P i, hl, hZ1, hM i, h45, N, ?_⟩
      rw [ho a (by omega), ho (a + 50) (by omega), hTe]
      have hkr := ky_rg hp hg (hM i)
      refine ⟨⟨hK1, hN450⟩, hKr, ⟨by omega, by omega⟩, by omega, by omega, fun Z2 e2 => ?_⟩
      have n52 : ∀ q, q ≠ a + 52 → Z2 q = Z1 q := fun q hq => by rw [e2, up_row _ _ _ _ _ hq]
      have o2 : Oth Z1 Z2 (fun q => q = a + 52) := fun q hq => n52 q hq
      have hZ2 : CZ Z2 a fl ff p g F := hZ1.kept hX o2 (fun q hq => by omega)
      refine ⟨p, g, F, mulN p F g P i, P, hC, hM i, hPok, ⟨h45.1.kept o2 (by omega) (by omega), h45.2.kept o2 (by omega) (by omega)⟩, ⟨h40.1.kept o2 (by omega) (by omega), h40.2.kept o2 (by omega) (by omega)⟩, hZ2.2.1, hZ2.2.2.1, hZ2.2.2.2, hl.1, hl.2, by omega, by omega, fun Z3 hz3 => ?_⟩
      obtain ⟨q1, q2⟩ := hz3
      have e14 : Z3 a 14 = (N : Int) := by rw [q2 a (by intro hh; rcases hh with hh | hh <;> omega), n52 a (by omega), ho a (by omega)]; exact hK1
      have hT3 : ∀ j : Nat, j < i + 1 → Z3 (a + 52) j = wkT p F g P (kyL p L) N j := fun j hj => by
        rw [q2 (a + 52) (by intro hh; rcases hh with hh | hh <;> omega), e2, show w.toNat = i by omega, up_at]
        by_cases cj : j = i
        · rw [if_pos cj, cj]
        · rw [if_neg cj]; exact hT j (by omega)
      have ho3 : Oth Z Z3 (fun q => a + 6 < q ∧ q < a + 53 ∧ q ≠ a + 50 ∧ q ≠ a + 51) := fun b hb => by
        rw [q2 b (by intro hh; apply hb; rcases hh with hh | hh <;> refine ⟨?_, ?_, ?_, ?_⟩ <;> omega), n52 b (by omega)]; exact ho b hb
      have fin : wkN p F g P N N 0 = i + 1 → V mX0_walkFrom k n 78 [some (r_ a), none, some (i_ (w + 1)), none] [] x Z3 Q := fun hf => by
        rw [show w + 1 = ((i + 1 : Nat) : Int) by omega]
        refine b_X0_walkFrom_78 (lp2 (i + 1) (by omega) (by omega) hf (i + 1) 0 0 Z3 rfl (by omega) hT3 (fun q hq => ?_) (fun b hb => ho3 b (fun e => hb ⟨e.1, e.2.1, e.2.2.1⟩)))
        rw [ho3 (a + 51) (by omega)]; rfl
      rw [e14]
      refine ⟨⟨by omega, by omega⟩, ⟨by omega, by omega⟩, fun c2 => fin ?_, fun c2 => ⟨p, _, _, q1, fun rr hr => ⟨?_, fun c3 => ?_, fun c3 => fin ?_⟩⟩⟩
      · rw [if_pos (Or.inl (by omega))] at he'; exact he'
      · rcases hr.1 with e | e <;> rw [e] <;> exact ⟨by decide, by decide⟩
      · have hnp : ¬ pd (mulN p F g P (i + 1)).1 ≤ 0 := fun hh => by
          have := hr.2.2 hh; omega
        rw [if_neg (by omega)] at he'
        refine ih (i + 1) (w + 1) Z3 (by omega) (by omega) (by omega) he' ?_ q1 hT3 ho3
        have nn : ∀ r : Nat, r < 5 → ¬ ((a + 6 < a + 40 + r ∧ a + 40 + r ≤ a + 39) ∨ At5 (a + 45) (a + 40 + r)) := fun r hr hh => by rcases hh with hh | hh <;> omega
        exact ⟨(h40.1.kept o2 (by omega) (by omega)).kept q2 (nn 1 (by omega)) (nn 2 (by omega)), (h40.2.kept o2 (by omega) (by omega)).kept q2 (nn 3 (by omega)) (nn 4 (by omega))⟩
      · have : pd (mulN p F g P (i + 1)).1 ≤ 0 := hr.2.1 (hr.1.resolve_left c3)
        rw [if_pos (Or.inr this)] at he'; exact he'
  refine b_X0_walkFrom_0 r1 o ofl ?_
  rw [Int.toNat_natCast]
  refine ⟨by omega, by omega, p, g, P, hp, hg, hZ.2.2.1, hPok, hPk, by omega, fun Z1 hz1 => ⟨p, ⟨by omega, by omega⟩, fun Z2 hz2 => lp1 N 0 0 Z2 rfl (by omega) (by omega) rfl ?_ hz2.1 (fun j hj => absurd hj (Nat.not_lt_zero j)) (fun b hb => ?_)⟩⟩
  · exact ⟨hz1.1.1.kept hz2.2 (by intro hh; have := hh.1; omega) (by intro hh; have := hh.1; omega), hz1.1.2.kept hz2.2 (by intro hh; have := hh.1; omega) (by intro hh; have := hh.1; omega)⟩
  · rw [hz2.2 b (by intro hh; apply hb; have h1 := hh.1; have h2 := hh.2; refine ⟨?_, ?_, ?_, ?_⟩ <;> omega), hz1.2 b (by intro hh; apply hb; have h1 := hh.1; have h2 := hh.2; refine ⟨?_, ?_, ?_, ?_⟩ <;> omega)]
