theorem dX9_load_0 : decode cX9_load 0 = .ok (.aload_n 0, 1) := by decide +kernel
theorem dX9_load_1 : decode cX9_load 1 = .ok (.aload_n 2, 1) := by decide +kernel
theorem dX9_load_2 : decode cX9_load 2 = .ok (.invokestatic 36, 3) := by decide +kernel
theorem dX9_load_5 : decode cX9_load 5 = .ok (.putfield 42, 3) := by decide +kernel
theorem dX9_load_8 : decode cX9_load 8 = .ok (.aload_n 0, 1) := by decide +kernel
theorem dX9_load_9 : decode cX9_load 9 = .ok (.aload_n 1, 1) := by decide +kernel
theorem dX9_load_10 : decode cX9_load 10 = .ok (.aload_n 2, 1) := by decide +kernel
theorem dX9_load_11 : decode cX9_load 11 = .ok (.invokevirtual 46, 3) := by decide +kernel
theorem dX9_load_14 : decode cX9_load 14 = .ok (.aload_n 0, 1) := by decide +kernel
theorem dX9_load_15 : decode cX9_load 15 = .ok (.aload_n 1, 1) := by decide +kernel
theorem dX9_load_16 : decode cX9_load 16 = .ok (.invokevirtual 50, 3) := by decide +kernel
theorem dX9_load_19 : decode cX9_load 19 = .ok (.aload_n 0, 1) := by decide +kernel
theorem dX9_load_20 : decode cX9_load 20 = .ok (.aload_n 1, 1) := by decide +kernel
theorem dX9_load_21 : decode cX9_load 21 = .ok (.getfield 54, 3) := by decide +kernel
theorem dX9_load_24 : decode cX9_load 24 = .ok (.invokevirtual 60, 3) := by decide +kernel
theorem dX9_load_27 : decode cX9_load 27 = .ok (.aload_n 0, 1) := by decide +kernel
theorem dX9_load_28 : decode cX9_load 28 = .ok (.iconst 2, 1) := by decide +kernel
theorem dX9_load_29 : decode cX9_load 29 = .ok (.aload_n 0, 1) := by decide +kernel
theorem dX9_load_30 : decode cX9_load 30 = .ok (.getfield 64, 3) := by decide +kernel
theorem dX9_load_33 : decode cX9_load 33 = .ok (.imul, 1) := by decide +kernel
theorem dX9_load_34 : decode cX9_load 34 = .ok (.aload_n 2, 1) := by decide +kernel
theorem dX9_load_35 : decode cX9_load 35 = .ok (.iconst 1, 1) := by decide +kernel
theorem dX9_load_36 : decode cX9_load 36 = .ok (.iaload, 1) := by decide +kernel
theorem dX9_load_37 : decode cX9_load 37 = .ok (.iadd, 1) := by decide +kernel
theorem dX9_load_38 : decode cX9_load 38 = .ok (.bipush 89, 2) := by decide +kernel
theorem dX9_load_40 : decode cX9_load 40 = .ok (.invokestatic 67, 3) := by decide +kernel
theorem dX9_load_43 : decode cX9_load 43 = .ok (.putfield 73, 3) := by decide +kernel
theorem dX9_load_46 : decode cX9_load 46 = .ok (.aload_n 0, 1) := by decide +kernel
theorem dX9_load_47 : decode cX9_load 47 = .ok (.iconst 0, 1) := by decide +kernel
theorem dX9_load_48 : decode cX9_load 48 = .ok (.putfield 76, 3) := by decide +kernel
theorem dX9_load_51 : decode cX9_load 51 = .ok (.iconst 0, 1) := by decide +kernel
theorem dX9_load_52 : decode cX9_load 52 = .ok (.istore_n 3, 1) := by decide +kernel
theorem dX9_load_53 : decode cX9_load 53 = .ok (.iload_n 3, 1) := by decide +kernel
theorem dX9_load_54 : decode cX9_load 54 = .ok (.aload_n 1, 1) := by decide +kernel
theorem dX9_load_55 : decode cX9_load 55 = .ok (.getfield 79, 3) := by decide +kernel
theorem dX9_load_58 : decode cX9_load 58 = .ok (.iconst 1, 1) := by decide +kernel
theorem dX9_load_59 : decode cX9_load 59 = .ok (.isub, 1) := by decide +kernel
theorem dX9_load_60 : decode cX9_load 60 = .ok (.if_icmp .ge 52, 3) := by decide +kernel
theorem dX9_load_63 : decode cX9_load 63 = .ok (.aload_n 0, 1) := by decide +kernel
theorem dX9_load_64 : decode cX9_load 64 = .ok (.getfield 22, 3) := by decide +kernel
theorem dX9_load_67 : decode cX9_load 67 = .ok (.aload_n 1, 1) := by decide +kernel
theorem dX9_load_68 : decode cX9_load 68 = .ok (.getfield 82, 3) := by decide +kernel
theorem dX9_load_71 : decode cX9_load 71 = .ok (.iload_n 3, 1) := by decide +kernel
theorem dX9_load_72 : decode cX9_load 72 = .ok (.iaload, 1) := by decide +kernel
theorem dX9_load_73 : decode cX9_load 73 = .ok (.iaload, 1) := by decide +kernel
theorem dX9_load_74 : decode cX9_load 74 = .ok (.istore 4, 2) := by decide +kernel
theorem dX9_load_76 : decode cX9_load 76 = .ok (.aload_n 0, 1) := by decide +kernel
theorem dX9_load_77 : decode cX9_load 77 = .ok (.aload_n 1, 1) := by decide +kernel
theorem dX9_load_78 : decode cX9_load 78 = .ok (.iload_n 3, 1) := by decide +kernel
theorem dX9_load_79 : decode cX9_load 79 = .ok (.aload_n 1, 1) := by decide +kernel
theorem dX9_load_80 : decode cX9_load 80 = .ok (.iload_n 3, 1) := by decide +kernel
theorem dX9_load_81 : decode cX9_load 81 = .ok (.invokevirtual 85, 3) := by decide +kernel
theorem dX9_load_84 : decode cX9_load 84 = .ok (.ifCond .eq 10, 3) := by decide +kernel
theorem dX9_load_87 : decode cX9_load 87 = .ok (.iconst 2, 1) := by decide +kernel
theorem dX9_load_88 : decode cX9_load 88 = .ok (.iload 4, 2) := by decide +kernel
theorem dX9_load_90 : decode cX9_load 90 = .ok (.imul, 1) := by decide +kernel
theorem dX9_load_91 : decode cX9_load 91 = .ok (.goto 5, 3) := by decide +kernel
theorem dX9_load_94 : decode cX9_load 94 = .ok (.iload 4, 2) := by decide +kernel
theorem dX9_load_96 : decode cX9_load 96 = .ok (.aload_n 0, 1) := by decide +kernel
theorem dX9_load_97 : decode cX9_load 97 = .ok (.getfield 19, 3) := by decide +kernel
theorem dX9_load_100 : decode cX9_load 100 = .ok (.iload_n 3, 1) := by decide +kernel
theorem dX9_load_101 : decode cX9_load 101 = .ok (.iaload, 1) := by decide +kernel
theorem dX9_load_102 : decode cX9_load 102 = .ok (.isub, 1) := by decide +kernel
theorem dX9_load_103 : decode cX9_load 103 = .ok (.invokevirtual 89, 3) := by decide +kernel
theorem dX9_load_106 : decode cX9_load 106 = .ok (.iinc 3 1, 3) := by decide +kernel
theorem dX9_load_109 : decode cX9_load 109 = .ok (.goto (-56), 3) := by decide +kernel
theorem dX9_load_112 : decode cX9_load 112 = .ok (.aload_n 0, 1) := by decide +kernel
theorem dX9_load_113 : decode cX9_load 113 = .ok (.aload_n 1, 1) := by decide +kernel
theorem dX9_load_114 : decode cX9_load 114 = .ok (.invokevirtual 93, 3) := by decide +kernel
theorem dX9_load_117 : decode cX9_load 117 = .ok (.return_, 1) := by decide +kernel
set_option maxRecDepth 20000 in
theorem b_X9_load_0 {k n : Nat} {x : Wx} {Z : Zt} {Q : Option Value → Wx → Zt → Prop} {a0 : Nat} {a1 : Nat} {a2 : Nat} (o_a0 : Is9 x a0) (o_a1 : Is2 x a1) (s_a2 : x.1 a2 = some (100, 26))
    (h : SumR (Z a2) ∧ (∀ Z1 : Zt, Z1 = up Z a0 0 (sdeg (Z a2) (Z a2 0).toNat) → (∃ g1 : List (Int × Int), (PtA Z1 a1 g1 ∧ PtR g1 ∧ (0 ≤ Z1 a2 0 ∧ Z1 a2 0 ≤ 8) ∧ (∀ i : Nat, i < 26 → Rg (Z1 a2 i)) ∧ (∀ i : Nat, i < 8 → 0 ≤ Z1 a2 (2 + 3 * i) ∧ Z1 a2 (2 + 3 * i) ≤ 12) ∧ (a2 < a0 ∨ a0 + 48 ≤ a2) ∧ (a1 + 16 ≤ a0 ∨ a0 + 48 ≤ a1) ∧ (∀ (Z'1 : Zt), ((∀ q : Nat, q < 27 → Z'1 (a0 + 3) q = oft g1 (Z1 a2) (Z1 a2 0).toNat q) ∧ (∀ q : Nat, q < 13 → Z'1 (a0 + 2) q = nmd g1 (Z1 a2) (Z1 a2 0).toNat q) ∧ Oth Z1 Z'1 (fun b => b = a0 + 2 ∨ b = a0 + 3)) → (∃ g2 : Int, (∃ g3 : Nat → Int, (IsP g2 ∧ PtA Z'1 a1 (pall g2 g3) ∧ (∀ i : Nat, i < 27 → -1000 ≤ Z'1 (a0 + 3) i ∧ Z'1 (a0 + 3) i ≤ 1000) ∧ (a1 + 16 ≤ a0 ∨ a0 + 48 ≤ a1) ∧ (∀ (Z'2 : Zt), ((∀ q : Nat, q < 13 → Z'2 (a0 + 4) q = dpt (pall g2 g3) (Z'1 (a0 + 3)) ((pall g2 g3).length - 1) q) ∧ Oth Z'1 Z'2 (fun b => b = a0 + 4)) → (∃ g4 : Int, (IsP g4 ∧ Z'2 (a1 + 1) 0 = g4 ∧ ((a1 + 1) < a0 ∨ a0 + 48 ≤ (a1 + 1)) ∧ (∀ i : Nat, i < 13 → 0 ≤ Z'2 (a0 + 4) i ∧ Z'2 (a0 + 4) i ≤ 1001) ∧ (und g4 (Z'2 (a0 + 4))).1 ≤ 40 ∧ (∀ (Z'3 : Zt), ((Z'3 a0 3 = (und g4 (Z'2 (a0 + 4))).1 ∧ (∀ i : Nat, i ≠ 3 → Z'3 a0 i = Z'2 a0 i) ∧ (∀ i : Nat, i < 41 → Z'3 (a0 + 1) i = (und g4 (Z'2 (a0 + 4))).2 i)) ∧ Oth Z'2 Z'3 (fun b => b = a0 ∨ b = a0 + 1)) → (Rg ((2 * (Z'3 a0 3)) + (Z'3 a2 1)) ∧ (∀ Z2 : Zt, Z2 = up Z'3 a0 2 (min ((2 * (Z'3 a0 3)) + (Z'3 a2 1)) 89) → (∀ Z3 : Zt, Z3 = up Z2 a0 9 0 → (V mX9_load k n 53 [some (r_ a0), some (r_ a1), none, some (i_ 0), none] [] x Z3 Q)))))))))))))))) :
    V mX9_load k n 0 [some (r_ a0), some (r_ a1), some (r_ a2), none, none] [] x Z Q :=
  V_aload_n dX9_load_0 rfl (V_aload_n dX9_load_1 rfl (V_callS (k' := 0) (n' := 0) [r_ a2] [r_ a0] okX10_degreeOf lm_9_36 lsX10_degreeOf (Nat.le_of_ble_eq_true rfl) (Nat.le_of_ble_eq_true rfl) (Nat.le_of_ble_eq_true rfl) (cat_of rfl) (Nat.le_of_ble_eq_true rfl) (Nat.zero_le _) (Nat.zero_le _) rfl dX9_load_2 (sp_X10_degreeOf s_a2 h.1 (P_9_0 o_a0.1 lf_9_42 dX9_load_5 (V_nmZ (fun Z1 eZ1 => V_aload_n dX9_load_8 rfl (V_aload_n dX9_load_9 rfl (V_aload_n dX9_load_10 rfl (Exists.elim (h.2 Z1 eZ1) (fun g1 w1 => V_callV (k' := 0) (n' := 0) (t := 9) (q := (RX9, TX9, 12)) [r_ a1, r_ a2] [] okX9_gather o_a0.1 rfl rfl lm_9_46 liX9_gather lqX9_gather (Nat.le_of_ble_eq_true rfl) (Nat.le_of_ble_eq_true rfl) (Nat.le_of_ble_eq_true rfl) (cat_of rfl) (Nat.le_of_ble_eq_true rfl) (Nat.zero_le _) (Nat.zero_le _) rfl dX9_load_11 (sp_X9_gather o_a0 o_a1 s_a2 w1.1 w1.2.1 w1.2.2.1 w1.2.2.2.1 w1.2.2.2.2.1 w1.2.2.2.2.2.1 w1.2.2.2.2.2.2.1 (fun Z'1 p1 => V_aload_n dX9_load_14 rfl (V_aload_n dX9_load_15 rfl (Exists.elim (w1.2.2.2.2.2.2.2 Z'1 p1) (fun g2 w2 => Exists.elim w2 (fun g3 w3 => V_callV (k' := 0) (n' := 0) (t := 9) (q := (RX9, TX9, 12)) [r_ a1] [] okX9_findDepths o_a0.1 rfl rfl lm_9_50 liX9_findDepths lqX9_findDepths (Nat.le_of_ble_eq_true rfl) (Nat.le_of_ble_eq_true rfl) (Nat.le_of_ble_eq_true rfl) (cat_of rfl) (Nat.le_of_ble_eq_true rfl) (Nat.zero_le _) (Nat.zero_le _) rfl dX9_load_16 (sp_X9_findDepths o_a0 o_a1 w3.1 w3.2.1 w3.2.2.1 w3.2.2.2.1 (fun Z'2 p2 => V_aload_n dX9_load_19 rfl (V_aload_n dX9_load_20 rfl (G_2_0 o_a1.1 o_a1.2.1 lf_9_54 dX9_load_21 (Exists.elim (w3.2.2.2.2 Z'2 p2) (fun g4 w4 => V_callV (k' := 0) (n' := 0) (t := 9) (q := (RX9, TX9, 12)) [r_ (a1 + 1)] [] okX9_findUnder o_a0.1 rfl rfl lm_9_60 liX9_findUnder lqX9_findUnder (Nat.le_of_ble_eq_true rfl) (Nat.le_of_ble_eq_true rfl) (Nat.le_of_ble_eq_true rfl) (cat_of rfl) (Nat.le_of_ble_eq_true rfl) (Nat.zero_le _) (Nat.zero_le _) rfl dX9_load_24 (sp_X9_findUnder o_a0 o_a1.2.2.1 w4.1 w4.2.1 w4.2.2.1 w4.2.2.2.1 w4.2.2.2.2.1 (fun Z'3 p3 => V_aload_n dX9_load_27 rfl (V_iconst dX9_load_28 (V_aload_n dX9_load_29 rfl (G_9_3 o_a0.1 lf_9_64 dX9_load_30 (V_imul dX9_load_33 (V_aload_n dX9_load_34 rfl (V_iconst dX9_load_35 (V_iald (t := 100) s_a2 (by decide) rfl (by decide) (by decide) (Nat.le_of_ble_eq_true rfl) dX9_load_36 (V_iadd dX9_load_37 (V_bipush dX9_load_38 rfl (V_mmin lm_9_67 (Nat.le_of_ble_eq_true rfl) (Nat.le_of_ble_eq_true rfl) (w4.2.2.2.2.2 Z'3 p3).1 (rg_c rfl) dX9_load_40 (P_9_2 o_a0.1 lf_9_73 dX9_load_43 (V_nmZ (fun Z2 eZ2 => V_aload_n dX9_load_46 rfl (V_iconst dX9_load_47 (P_9_9 o_a0.1 lf_9_76 dX9_load_48 (V_nmZ (fun Z3 eZ3 => V_iconst dX9_load_51 (V_istore_n (lv' := [some (r_ a0), some (r_ a1), some (r_ a2), some (i_ 0), none]) dX9_load_52 (Nat.le_of_ble_eq_true rfl) rfl (V_msk [true, true, false, true, false] rfl (((w4.2.2.2.2.2 Z'3 p3).2 Z2 eZ2) Z3 eZ3))))))))))))))))))))))))))))))))))))))))))))
set_option maxRecDepth 20000 in
theorem b_X9_load_53 {k n : Nat} {x : Wx} {Z : Zt} {Q : Option Value → Wx → Zt → Prop} {a0 : Nat} {a1 : Nat} {v3 : Int} (o_a1 : Is2 x a1) (o_a0 : Is9 x a0)
    (h : Rg v3 ∧ Rg ((Z a1 3) - 1) ∧ ((((Z a1 3) - 1 ≤ v3) → (∃ g1 : Int, (∃ g2 : Nat → Nat, (∃ g3 : Nat, (∃ g4 : Nat, (∃ g5 : Nat → Nat → Int, (IsP g1 ∧ FA Z (a1 + 1) g1 ∧ (Z a1 2 = (g4 : Int) ∧ g4 ≤ 2) ∧ LnA x a0 g2 ∧ (Z a0 9 = (g3 : Int) ∧ g3 ≤ 40) ∧ (-100 ≤ Z a0 2 ∧ Z a0 2 < 90) ∧ (∀ i : Nat, i < g3 → ∀ j : Nat, j < 90 → 0 ≤ Z (a0 + 6 + g2 i) j ∧ Z (a0 + 6 + g2 i) j < g1) ∧ (∀ i : Nat, i < g3 → ∀ j : Nat, j < 90 → Z (a0 + 6 + g2 i) j = g5 i j) ∧ (a1 + 16 ≤ a0 ∨ a0 + 48 ≤ a1) ∧ (∀ (x'1 : Wx) (Z'1 : Zt) (sg'1 : Nat → Nat), (Xs x x'1 (a0 + 5) ∧ LnA x'1 a0 sg'1 ∧ (∀ i : Nat, i < g3 → ∀ j : Nat, j < 90 → Z'1 (a0 + 6 + sg'1 i) j = (slvN g1 g4 (Z a0 2).toNat g3 g5 (Z a0 2 + 1).toNat).1 i j) ∧ Z'1 a0 = (fun i => if i = 1 then ((slvN g1 g4 (Z a0 2).toNat g3 g5 (Z a0 2 + 1).toNat).2.2.2.2 : Int) else Z a0 i) ∧ (∀ j : Nat, (j : Int) ≤ Z a0 2 → Z'1 (a0 + 46) j = (slvN g1 g4 (Z a0 2).toNat g3 g5 (Z a0 2 + 1).toNat).2.2.1 j) ∧ (∀ i : Nat, i < (slvN g1 g4 (Z a0 2).toNat g3 g5 (Z a0 2 + 1).toNat).2.2.2.2 → Z'1 (a0 + 47) i = (slvN g1 g4 (Z a0 2).toNat g3 g5 (Z a0 2 + 1).toNat).2.2.2.1 i) ∧ Oth Z Z'1 (fun b => b = a0 ∨ (a0 + 6 ≤ b ∧ b < a0 + 48))) → (Q none x'1 Z'1))))))))) ∧ ((v3 < (Z a1 3) - 1) → (0 ≤ v3 ∧ v3 < 27 ∧ (0 ≤ Z (a1 + 6) v3.toNat ∧ Z (a1 + 6) v3.toNat < 13 ∧ (∃ g6 : List (Int × Int), (PtA Z a1 g6 ∧ PtR g6 ∧ (0 ≤ v3 ∧ v3 < g6.length) ∧ (Rg (bI (fxd g6 v3)) ∧ (((bI (fxd g6 v3) = 0) → (V mX9_load k n 96 [some (r_ a0), some (r_ a1), none, some (i_ v3), none] [i_ (Z (a0 + 4) (Z (a1 + 6) v3.toNat).toNat), i_ v3, r_ a1, r_ a0] x Z Q)) ∧ ((bI (fxd g6 v3) ≠ 0) → (V mX9_load k n 96 [some (r_ a0), some (r_ a1), none, some (i_ v3), none] [i_ (2 * (Z (a0 + 4) (Z (a1 + 6) v3.toNat).toNat)), i_ v3, r_ a1, r_ a0] x Z Q))))))))))) :
    V mX9_load k n 53 [some (r_ a0), some (r_ a1), none, some (i_ v3), none] [] x Z Q :=
  V_iload_n dX9_load_53 rfl (V_aload_n dX9_load_54 rfl (G_2_3 o_a1.1 lf_9_79 dX9_load_55 (V_iconst dX9_load_58 (V_isub dX9_load_59 (V_icmp_ge (tgt := 112) dX9_load_60 rfl h.1 h.2.1 (fun c1 => V_aload_n dX9_load_112 rfl (V_aload_n dX9_load_113 rfl (Exists.elim (h.2.2.1 c1) (fun g1 w1 => Exists.elim w1 (fun g2 w2 => Exists.elim w2 (fun g3 w3 => Exists.elim w3 (fun g4 w4 => Exists.elim w4 (fun g5 w5 => V_callV (k' := 0) (n' := 0) (t := 9) (q := (RX9, TX9, 12)) [r_ a1] [] okX9_solve o_a0.1 rfl rfl lm_9_93 liX9_solve lqX9_solve (Nat.le_of_ble_eq_true rfl) (Nat.le_of_ble_eq_true rfl) (Nat.le_of_ble_eq_true rfl) (cat_of rfl) (Nat.le_of_ble_eq_true rfl) (Nat.zero_le _) (Nat.zero_le _) rfl dX9_load_114 (sp_X9_solve o_a0 o_a1 w5.1 w5.2.1 w5.2.2.1 w5.2.2.2.1 w5.2.2.2.2.1 w5.2.2.2.2.2.1 w5.2.2.2.2.2.2.1 w5.2.2.2.2.2.2.2.1 w5.2.2.2.2.2.2.2.2.1 (fun x'1 Z'1 sg'1 p1 => V_ret dX9_load_117 rfl (w5.2.2.2.2.2.2.2.2.2 x'1 Z'1 sg'1 p1))))))))))) (fun c1 => V_aload_n dX9_load_63 rfl (G_9_7 o_a0.1 o_a0.2.2.2.2.2.2.2.1 lf_9_22 dX9_load_64 (V_aload_n dX9_load_67 rfl (G_2_4 o_a1.1 o_a1.2.2.2.2.2.1 lf_9_82 dX9_load_68 (V_iload_n dX9_load_71 rfl (V_iald (t := 100) o_a1.2.2.2.2.2.2.1 (by decide) rfl (h.2.2.2 c1).1 (h.2.2.2 c1).2.1 (Nat.le_of_ble_eq_true rfl) dX9_load_72 (V_iald (t := 100) o_a0.2.2.2.2.2.2.2.2.1 (by decide) rfl (h.2.2.2 c1).2.2.1 (h.2.2.2 c1).2.2.2.1 (Nat.le_of_ble_eq_true rfl) dX9_load_73 (V_istore (lv' := [some (r_ a0), some (r_ a1), none, some (i_ v3), some (i_ (Z (a0 + 4) (Z (a1 + 6) v3.toNat).toNat))]) dX9_load_74 (Nat.le_of_ble_eq_true rfl) rfl (V_aload_n dX9_load_76 rfl (V_aload_n dX9_load_77 rfl (V_iload_n dX9_load_78 rfl (V_aload_n dX9_load_79 rfl (V_iload_n dX9_load_80 rfl (Exists.elim (h.2.2.2 c1).2.2.2.2 (fun g6 w6 => V_callV (k' := 0) (n' := 0) (t := 2) (q := (RX2, TX2, 17)) [i_ v3] [i_ v3, r_ a1, r_ a0] okX2_isFixed o_a1.1 rfl rfl lm_9_85 liX2_isFixed lqX2_isFixed (Nat.le_of_ble_eq_true rfl) (Nat.le_of_ble_eq_true rfl) (Nat.le_of_ble_eq_true rfl) (cat_of rfl) (Nat.le_of_ble_eq_true rfl) (Nat.zero_le _) (Nat.zero_le _) rfl dX9_load_81 (sp_X2_isFixed o_a1 w6.1 w6.2.1 w6.2.2.1 (V_if_eq (tgt := 94) dX9_load_84 rfl w6.2.2.2.1 (fun c2 => V_iload dX9_load_94 rfl (V_msk [true, true, false, true, false] rfl (w6.2.2.2.2.1 c2))) (fun c2 => V_iconst dX9_load_87 (V_iload dX9_load_88 rfl (V_imul dX9_load_90 (V_goto (tgt := 96) dX9_load_91 rfl (V_msk [true, true, false, true, false] rfl (w6.2.2.2.2.2 c2))))))))))))))))))))))))))))
set_option maxRecDepth 20000 in
theorem b_X9_load_96 {k n : Nat} {x : Wx} {Z : Zt} {Q : Option Value → Wx → Zt → Prop} {a0 : Nat} {a1 : Nat} {v3 : Int} {b0_ : Nat} {b1_ : Nat} {t2 : Int} {t3 : Int} (o_a0 : Is9 x a0) (o_b0 : Is9 x b0_) (o_b1 : Is2 x b1_)
    (h : 0 ≤ v3 ∧ v3 < 27 ∧ (∃ g1 : Int, (∃ g2 : Nat → Int, (∃ g3 : Nat → Nat, (∃ g4 : Nat, (IsP g1 ∧ CvA Z b1_ g1 g2 ∧ LnA x b0_ g3 ∧ (0 ≤ t2 ∧ t2 + 1 < (pall g1 g2).length) ∧ (-5000 ≤ (t3 - (Z (a0 + 3) v3.toNat)) ∧ (t3 - (Z (a0 + 3) v3.toNat)) ≤ 5000) ∧ (Z b0_ 9 = (g4 : Int) ∧ g4 ≤ 40) ∧ (-100 ≤ Z b0_ 2 ∧ Z b0_ 2 < 90) ∧ (b1_ + 16 ≤ b0_ ∨ b0_ + 48 ≤ b1_) ∧ (∀ (Z'1 : Zt), ((∀ q : Nat, q < 40 → ∀ j : Nat, j < 90 → Z'1 (b0_ + 6 + g3 q) j = if g4 ≤ q ∧ (q : Int) < min (g4 + (t3 - (Z (a0 + 3) v3.toNat))) 40 then askF g1 g2 (Z b0_ 2) ((pall g1 g2).getD (Int.toNat t2) (0, 0)).1 ((pall g1 g2).getD (Int.toNat t2) (0, 0)).2 (fxd (pall g1 g2) t2) (min (g4 + (t3 - (Z (a0 + 3) v3.toNat))) 40 - g4) (q - g4) j else Z (b0_ + 6 + g3 q) j) ∧ Z'1 b0_ = (fun i => if i = 9 then max (g4 : Int) (min (g4 + (t3 - (Z (a0 + 3) v3.toNat))) 40) else Z b0_ i) ∧ (∀ i : Nat, i < 14 → Z'1 b1_ i = Z b1_ i) ∧ Oth Z Z'1 (fun b => b = b1_ ∨ b = b1_ + 13 ∨ b = b1_ + 14 ∨ b = b1_ + 15 ∨ b = b0_ ∨ (b0_ + 6 ≤ b ∧ b < b0_ + 46))) → (V mX9_load k n 53 [some (r_ a0), some (r_ a1), none, some (i_ (v3 + 1)), none] [] x Z'1 Q)))))))) :
    V mX9_load k n 96 [some (r_ a0), some (r_ a1), none, some (i_ v3), none] [i_ t3, i_ t2, r_ b1_, r_ b0_] x Z Q :=
  V_aload_n dX9_load_96 rfl (G_9_6 o_a0.1 o_a0.2.2.2.2.2.1 lf_9_19 dX9_load_97 (V_iload_n dX9_load_100 rfl (V_iald (t := 100) o_a0.2.2.2.2.2.2.1 (by decide) rfl h.1 h.2.1 (Nat.le_of_ble_eq_true rfl) dX9_load_101 (V_isub dX9_load_102 (Exists.elim h.2.2 (fun g1 w1 => Exists.elim w1 (fun g2 w2 => Exists.elim w2 (fun g3 w3 => Exists.elim w3 (fun g4 w4 => V_callV (k' := 0) (n' := 0) (t := 9) (q := (RX9, TX9, 12)) [r_ b1_, i_ t2, i_ (t3 - (Z (a0 + 3) v3.toNat))] [] okX9_ask o_b0.1 rfl rfl lm_9_89 liX9_ask lqX9_ask (Nat.le_of_ble_eq_true rfl) (Nat.le_of_ble_eq_true rfl) (Nat.le_of_ble_eq_true rfl) (cat_of rfl) (Nat.le_of_ble_eq_true rfl) (Nat.zero_le _) (Nat.zero_le _) rfl dX9_load_103 (sp_X9_ask o_b0 o_b1 w4.1 w4.2.1 w4.2.2.1 w4.2.2.2.1 w4.2.2.2.2.1 w4.2.2.2.2.2.1 w4.2.2.2.2.2.2.1 w4.2.2.2.2.2.2.2.1 (fun Z'1 p1 => V_iinc (lv' := [some (r_ a0), some (r_ a1), none, some (i_ (v3 + 1)), none]) dX9_load_106 rfl (Nat.le_of_ble_eq_true rfl) rfl (V_goto (tgt := 53) dX9_load_109 rfl (V_msk [true, true, false, true, false] rfl (w4.2.2.2.2.2.2.2.2 Z'1 p1))))))))))))))
/-! ===== Room: loaded ===== -/
theorem dp1_ext {L : List (Int × Int)} {o o' : Nat → Int} {k : Nat} (h : o k = o' k) : dp1 L o k = dp1 L o' k := by unfold dp1; rw [h]
theorem dpt_ext {L : List (Int × Int)} {o o' : Nat → Int} : ∀ {k : Nat}, (∀ i : Nat, i < k → o i = o' i) → dpt L o k = dpt L o' k
  | 0, _ => rfl
  | k + 1, h => by
    unfold dpt
    rw [dpt_ext (k := k) (fun i hi => h i (by omega)), dp1_ext (h k (by omega))]
theorem undA_ext {p : Int} {D D' : Nat → Int} : ∀ {m X : Nat} {w : Un}, (∀ i : Nat, X ≤ i → i < X + m → D i = D' i) → undA p D m X w = undA p D' m X w
  | 0, _, _, _ => rfl
  | m + 1, X, w, h => by
    unfold undA
    rw [h X (by omega) (by omega)]
    exact undA_ext (fun i h1 h2 => h i (by omega) (by omega))
def smT : Nat → (Nat → Int) → Int
  | 0, _ => 0
  | n + 1, f => smT n f + f n
theorem smT_ext {f g : Nat → Int} : ∀ {n : Nat}, (∀ i : Nat, i < n → f i = g i) → smT n f = smT n g
  | 0, _ => rfl
  | n + 1, h => by
    unfold smT
    rw [smT_ext (n := n) (fun i hi => h i (by omega)), h n (by omega)]
theorem smT_upf {f : Nat → Int} {i : Nat} {v : Int} : ∀ {n : Nat}, i < n → smT n (upf f i v) = smT n f + (v - f i)
  | 0, h => absurd h (Nat.not_lt_zero i)
  | n + 1, h => by
    unfold smT
    by_cases c : i = n
    · subst c
      rw [smT_ext (n := i) (f := upf f i v) (g := f) (fun j hj => by unfold upf; rw [if_neg (by omega)])]
      unfold upf
      rw [if_pos rfl]; omega
    · rw [smT_upf (n := n) (by omega)]
      have : upf f i v n = f n := by unfold upf; rw [if_neg (by omega)]
      rw [this]; omega
theorem smT_nn {f : Nat → Int} : ∀ {n : Nat}, (∀ i : Nat, i < n → 0 ≤ f i) → 0 ≤ smT n f
  | 0, _ => Int.le_refl 0
  | n + 1, h => by
    have h1 := smT_nn (n := n) (fun i hi => h i (by omega))
    have h2 := h n (by omega)
    unfold smT; omega
theorem smT_le {f : Nat → Int} {m : Nat} : ∀ {n : Nat}, m ≤ n → (∀ i : Nat, i < n → 0 ≤ f i) → smT m f ≤ smT n f
  | 0, h, _ => by rw [show m = 0 by omega]; exact Int.le_refl _
  | n + 1, h, hf => by
    by_cases c : m = n + 1
    · rw [c]; exact Int.le_refl _
    · have h1 := smT_le (m := m) (n := n) (by omega) (fun i hi => hf i (by omega))
      have h2 := hf n (by omega)
      show smT m f ≤ smT n f + f n
      omega
/-- what stands at each POINT is no more than the entries tell -/
theorem oft_rg {L : List (Int × Int)} {r : Nat → Int} (hr : SumR r) : ∀ m : Nat, m ≤ 8 → ∀ q : Nat, -(5 * (m : Int)) ≤ oft L r m q ∧ oft L r m q ≤ 5 * (m : Int)
  | 0, _, q => ⟨by show (-(5 * ((0 : Nat) : Int))) ≤ 0; decide, by show (0 : Int) ≤ 5 * ((0 : Nat) : Int); decide⟩
  | m + 1, hm, q => by
    have ih := oft_rg (L := L) hr m (by omega)
    by_cases c : 0 ≤ enK L r m
    · rw [oft_pos c]
      unfold upf
      have h2 := (hr.2.2 m (by omega)).2.2
      have h3 : eO r m = r (4 + 3 * m) := by unfold eO; rw [show 2 + 3 * m + 2 = 4 + 3 * m by omega]
      rw [h3] at h2
      split
      · have := ih (enK L r m).toNat; omega
      · have := ih q; omega
    · rw [oft_neg c]; have := ih q; omega
theorem oft_pos_sum {L : List (Int × Int)} {r : Nat → Int} (hl : L.length ≤ 27) (hr : SumR r) : ∀ m : Nat, m ≤ 8 → smT 27 (fun q => max (oft L r m q) 0) ≤ 5 * (m : Int)
  | 0, _ => by
    have : ∀ n : Nat, smT n (fun q => max (oft L r 0 q) 0) = 0 := fun n => by
      induction n with
      | zero => rfl
      | succ n ih => unfold smT; rw [ih]; show 0 + max (0 : Int) 0 = 0; decide
    rw [this]; decide
  | m + 1, hm => by
    have ih := oft_pos_sum hl hr m (by omega)
    by_cases c : 0 ≤ enK L r m
    · have hk := (pAt_rg L (r (2 + 3 * m)) (r (3 + 3 * m)) L.length 0).2.1
      have hk' : enK L r m < (0 + L.length : Nat) := hk
      have h2 := (hr.2.2 m (by omega)).2.2
      have h3 : eO r m = r (4 + 3 * m) := by unfold eO; rw [show 2 + 3 * m + 2 = 4 + 3 * m by omega]
      rw [h3] at h2
      rw [oft_pos c]
      have e : (fun q => max (upf (oft L r m) (enK L r m).toNat (oft L r m (enK L r m).toNat + r (4 + 3 * m)) q) 0) = upf (fun q => max (oft L r m q) 0) (enK L r m).toNat (max (oft L r m (enK L r m).toNat + r (4 + 3 * m)) 0) := funext fun q => by
        unfold upf
        by_cases cq : q = (enK L r m).toNat
        · rw [if_pos cq, if_pos cq]
        · rw [if_neg cq, if_neg cq]
      rw [e, smT_upf (by omega)]
      omega
    · rw [oft_neg c]; omega
theorem dpt_sum {L : List (Int × Int)} {o : Nat → Int} : ∀ k : Nat, (∀ i : Nat, i < k → 0 ≤ (L.getD i (0, 0)).1 ∧ (L.getD i (0, 0)).1 < 13) → (∀ i : Nat, i < k → -1000 ≤ o i ∧ o i ≤ 1000) → smT 13 (dpt L o k) ≤ smT k (fun q => max (o q) 0)
  | 0, _, _ => by
    have : ∀ n : Nat, smT n (dpt L o 0) = 0 := fun n => by
      induction n with
      | zero => rfl
      | succ n ih => unfold smT; rw [ih]; rfl
    rw [this]; exact Int.le_refl _
  | k + 1, hx, ho => by
    have ih := dpt_sum k (fun i hi => hx i (by omega)) (fun i hi => ho i (by omega))
    have hk := hx k (by omega)
    have hq := dpt_rg (L := L) (o := o) k (fun i hi => ho i (by omega)) (L.getD k (0, 0)).1.toNat
    have hok := ho k (by omega)
    have h1 : dp1 L o k ≤ max (o k) 0 := by
      unfold dp1
      split
      · by_cases c : 0 ≤ o k + 1
        · rw [Int.tdiv_eq_ediv_of_nonneg c]; omega
        · have : Int.tdiv (o k + 1) 2 = -(Int.tdiv (-(o k + 1)) 2) := by rw [Int.neg_tdiv, Int.neg_neg]
          rw [this, Int.tdiv_eq_ediv_of_nonneg (by omega)]; omega
      · omega
    show smT 13 (upf (dpt L o k) _ _) ≤ smT k _ + max (o k) 0
    rw [smT_upf (by omega)]
    omega
theorem undA_deg (p : Int) (D : Nat → Int) : ∀ (m X : Nat) (w : Un), (∀ i : Nat, i < X + m → 0 ≤ D i) → ((undA p D m X w).1 : Int) = w.1 + (smT (X + m) D - smT X D)
  | 0, X, w, _ => by show (w.1 : Int) = _; rw [Nat.add_zero]; omega
  | m + 1, X, w, h => by
    unfold undA
    rw [undA_deg p D m (X + 1) _ (fun i hi => h i (by omega)), undX_1, show X + 1 + m = X + (m + 1) by omega]
    have h1 : smT (X + 1) D = smT X D + D X := rfl
    have h2 := h X (by omega)
    rw [h1]; omega
def rmO (p : Int) (F r : Nat → Int) : Nat → Int := oft (pall p F) r (r 0).toNat
def rmD (p : Int) (F r : Nat → Int) : Nat → Int := dpt (pall p F) (rmO p F r) ((pall p F).length - 1)
/-- UNDER -/
def rmU (p : Int) (F r : Nat → Int) : Un := und p (rmD p F r)
def rmP (p : Int) (F r : Nat → Int) : Int := min (2 * ((rmU p F r).1 : Int) + r 1) 89
/-- how many zeros are asked at the k-th POINT -/
def rmz (p : Int) (F r : Nat → Int) (k : Nat) : Int := (if fxd (pall p F) k = true then 2 * rmD p F r ((pall p F).getD k (0, 0)).1.toNat else rmD p F r ((pall p F).getD k (0, 0)).1.toNat) - rmO p F r k
abbrev Lq := (Nat → Nat → Int) × Nat
def askS (p : Int) (F r : Nat → Int) (k : Nat) (w : Lq) : Lq := (fun q j => if w.2 ≤ q ∧ (q : Int) < min (w.2 + rmz p F r k) 40 then askF p F (rmP p F r) ((pall p F).getD k (0, 0)).1 ((pall p F).getD k (0, 0)).2 (fxd (pall p F) k) (min (w.2 + rmz p F r k) 40 - w.2) (q - w.2) j else w.1 q j, (max (w.2 : Int) (min (w.2 + rmz p F r k) 40)).toNat)
def askA (p : Int) (F r : Nat → Int) : Nat → Lq
  | 0 => (fun _ _ => 0, 0)
  | k + 1 => askS p F r k (askA p F r k)
/-- all lines, and how many -/
def rmL (p : Int) (F r : Nat → Int) : Lq := askA p F r ((pall p F).length - 1)
def rmS (p : Int) (F r : Nat → Int) : Sv := slvN p (gen F).toNat (rmP p F r).toNat (rmL p F r).2 (rmL p F r).1 (rmP p F r + 1).toNat
/-- the ROOM of the sum's row r lies at s -/
def RmA (x : Wx) (Z : Zt) (s : Nat) (p : Int) (F r : Nat → Int) (σ : Nat → Nat) : Prop := LnA x s σ ∧ (Z s 0 = sdeg r (r 0).toNat ∧ Z s 1 = (rmS p F r).2.2.2.2 ∧ Z s 2 = rmP p F r ∧ Z s 3 = (rmU p F r).1) ∧ (∀ i : Nat, i < 41 → Z (s + 1) i = (rmU p F r).2 i) ∧ (∀ q : Nat, q < 13 → Z (s + 2) q = nmd (pall p F) r (r 0).toNat q) ∧ (∀ i : Nat, i < (rmL p F r).2 → ∀ j : Nat, j < 90 → Z (s + 6 + σ i) j = (rmS p F r).1 i j) ∧ (∀ j : Nat, (j : Int) ≤ rmP p F r → Z (s + 46) j = (rmS p F r).2.2.1 j) ∧ (∀ i : Nat, i < (rmS p F r).2.2.2.2 → Z (s + 47) i = (rmS p F r).2.2.2.1 i)
theorem rmO_rg {p : Int} {F r : Nat → Int} (hr : SumR r) (q : Nat) : -40 ≤ rmO p F r q ∧ rmO p F r q ≤ 40 := by
  have h0 := hr.1
  have := oft_rg (L := pall p F) hr (r 0).toNat (by omega) q
  unfold rmO; omega
theorem rmD_rg {p : Int} {F r : Nat → Int} (hr : SumR r) (q : Nat) : 0 ≤ rmD p F r q ∧ rmD p F r q ≤ 1001 := dpt_rg _ (fun i _ => by have := rmO_rg (p := p) (F := F) hr i; omega) q
theorem rmD_sum {p : Int} (hp : IsP p) {F r : Nat → Int} (hr : SumR r) : smT 13 (rmD p F r) ≤ 40 := by
  have hpr := hp.rg
  have hl := pall_len hp F
  have h0 := hr.1
  have h1 := dpt_sum (L := pall p F) (o := rmO p F r) ((pall p F).length - 1) (fun i hi => by have := (pall_get (p := p) (F := F) (by omega) (k := i) (by omega)).1; omega) (fun i _ => by have := rmO_rg (p := p) (F := F) hr i; omega)
  have h2 := oft_pos_sum (L := pall p F) hl.2 hr (r 0).toNat (by omega)
  have h3 := smT_le (f := fun q => max (rmO p F r q) 0) (m := (pall p F).length - 1) (n := 27) (by omega) (fun i _ => by show 0 ≤ max (rmO p F r i) 0; omega)
  have h4 : smT 27 (fun q => max (rmO p F r q) 0) ≤ 5 * ((r 0).toNat : Int) := h2
  have h5 : smT 13 (rmD p F r) ≤ smT ((pall p F).length - 1) (fun q => max (rmO p F r q) 0) := h1
  omega
theorem smT_at {f : Nat → Int} {i : Nat} : ∀ {n : Nat}, i < n → (∀ j : Nat, j < n → 0 ≤ f j) → f i ≤ smT n f
  | 0, h, _ => absurd h (Nat.not_lt_zero i)
  | n + 1, h, hf => by
    show f i ≤ smT n f + f n
    by_cases c : i = n
    · have := smT_nn (n := n) (fun j hj => hf j (by omega)); rw [c]; omega
    · have := smT_at (n := n) (i := i) (by omega) (fun j hj => hf j (by omega))
      have := hf n (by omega); omega
theorem rmU_deg {p : Int} (hp : IsP p) {F r : Nat → Int} (hr : SumR r) : ((rmU p F r).1 : Int) = smT p.toNat (rmD p F r) := by
  unfold rmU und
  rw [undA_deg _ _ _ _ _ (fun i _ => (rmD_rg hr i).1)]
  have : smT 0 (rmD p F r) = 0 := rfl
  rw [this, Nat.zero_add]
  show ((0 : Nat) : Int) + (smT p.toNat (rmD p F r) - 0) = _
  omega
theorem rmU_40 {p : Int} (hp : IsP p) {F r : Nat → Int} (hr : SumR r) : (rmU p F r).1 ≤ 40 := by
  have hpr := hp.rg
  have h1 := rmU_deg hp (F := F) hr
  have h2 := smT_le (f := rmD p F r) (m := p.toNat) (n := 13) (by omega) (fun i _ => (rmD_rg hr i).1)
  have h3 := rmD_sum hp (F := F) hr
  omega
theorem rmP_rg {p : Int} (hp : IsP p) {F r : Nat → Int} (hr : SumR r) : rmP p F r = 2 * ((rmU p F r).1 : Int) + r 1 ∧ -9 ≤ rmP p F r ∧ rmP p F r ≤ 89 := by
  have h1 := rmU_40 hp (F := F) hr
  have h2 := hr.2.1
  unfold rmP; omega
theorem askA_rg {p : Int} (hp : IsP p) {F r : Nat → Int} : ∀ k : Nat, k + 1 ≤ (pall p F).length → (askA p F r k).2 ≤ 40 ∧ ∀ i j : Nat, 0 ≤ (askA p F r k).1 i j ∧ (askA p F r k).1 i j < p
  | 0, _ => ⟨by show (0 : Nat) ≤ 40; decide, fun i j => by have := hp.rg; exact ⟨by show (0 : Int) ≤ 0; decide, by show (0 : Int) < p; omega⟩⟩
  | k + 1, hk => by
    have hpr := hp.rg
    have ih := askA_rg hp (F := F) (r := r) k (by omega)
    refine ⟨?_, fun i j => ?_⟩
    · show (max ((askA p F r k).2 : Int) _).toNat ≤ 40
      have := ih.1; omega
    · show 0 ≤ (askS p F r k (askA p F r k)).1 i j ∧ (askS p F r k (askA p F r k)).1 i j < p
      unfold askS
      dsimp only
      split
      · exact askF_rg hp (pall_get (p := p) (F := F) (by omega) (k := k) (by omega)).2.1 _ _
      · exact ih.2 i j
theorem rmL_rg {p : Int} (hp : IsP p) {F r : Nat → Int} : (rmL p F r).2 ≤ 40 ∧ ∀ i j : Nat, 0 ≤ (rmL p F r).1 i j ∧ (rmL p F r).1 i j < p := askA_rg hp _ (by have := pall_len hp F; omega)
theorem rmS_I {p : Int} (hp : IsP p) {F r : Nat → Int} : SvI p (rmP p F r).toNat (rmL p F r).2 (rmP p F r + 1).toNat (rmS p F r) := SvI.all (by have := hp.rg; omega) (fun i _ j _ => (rmL_rg hp (F := F) (r := r)).2 i j) _
theorem sp_X9_load {k n : Nat} {x : Wx} {Z : Zt} {Q : Option Value → Wx → Zt → Prop} {s c r : Nat} (o : Is9 x s) (oc : Is2 x c) (sr : x.1 r = some (100, 26)) {p : Int} {F : Nat → Int} {σ : Nat → Nat} (hp : IsP p) (hC : CvA Z c p F) (hσ : LnA x s σ) (hr : SumR (Z r)) (hg : ∀ i : Nat, i < 26 → Rg (Z r i)) (hrs : r < s ∨ s + 48 ≤ r) (hrc : r < c ∨ c + 16 ≤ r) (hcs : c + 16 ≤ s ∨ s + 48 ≤ c) (h : ∀ (x' : Wx) (Z' : Zt) (σ' : Nat → Nat), (Xs x x' (s + 5) ∧ RmA x' Z' s p F (Z r) σ' ∧ (∀ i : Nat, i < 14 → Z' c i = Z c i) ∧ Oth Z Z' (fun b => b = c ∨ b = c + 13 ∨ b = c + 14 ∨ b = c + 15 ∨ (s ≤ b ∧ b < s + 48))) → Q none x' Z') : V mX9_load k n 0 [some (r_ s), some (r_ c), some (r_ r), none, none] [] x Z Q := by
  have hpr := hp.rg
  have hl := pall_len hp F
  have hPr := pall_rg hp F
  have hgr := gen_rg F
  obtain ⟨R, hRd⟩ : ∃ R : Nat → Int, Z r = R := ⟨_, rfl⟩
  rw [hRd] at hr hg h
  have h0 := hr.1
  have h1r := hr.2.1
  have hPP := rmP_rg hp (F := F) hr
  have h40 := rmU_40 hp (F := F) hr
  have lp : ∀ (m i : Nat) (w : Int) (Z1 : Zt), w = i → i + m = (pall p F).length - 1 → Oth Z Z1 (fun b => b = c ∨ b = c + 13 ∨ b = c + 14 ∨ b = c + 15 ∨ (s ≤ b ∧ b < s + 48)) → (∀ i : Nat, i < 14 → Z1 c i = Z c i) → (Z1 s 0 = sdeg R (R 0).toNat ∧ Z1 s 2 = rmP p F R ∧ Z1 s 3 = (rmU p F R).1 ∧ Z1 s 9 = (askA p F R i).2) → (∀ i : Nat, i < 41 → Z1 (s + 1) i = (rmU p F R).2 i) → (∀ q : Nat, q < 13 → Z1 (s + 2) q = nmd (pall p F) R (R 0).toNat q) → (∀ q : Nat, q < 27 → Z1 (s + 3) q = rmO p F R q) → (∀ q : Nat, q < 13 → Z1 (s + 4) q = rmD p F R q) → (∀ q : Nat, q < (askA p F R i).2 → ∀ j : Nat, j < 90 → Z1 (s + 6 + σ q) j = (askA p F R i).1 q j) → V mX9_load k n 53 [some (r_ s), some (r_ c), none, some (i_ w), none] [] x Z1 Q := by
    intro m
    induction m with
    | zero =>
      intro i w Z1 hw hi ho hc14 hs h41 h2 h3 h4 hR
      have hC1 : CvA Z1 c p F := hC.kept (fun b b1 b2 => ho b (by omega)) hc14
      have hi' : i = (pall p F).length - 1 := by omega
      have hA : askA p F R i = rmL p F R := by rw [hi']; rfl
      rw [hA] at hs hR
      have hLr := rmL_rg hp (F := F) (r := R)
      refine b_X9_load_53 oc o ?_
      rw [hC1.2.2.1.1]
      refine ⟨⟨by omega, by omega⟩, ⟨by omega, by omega⟩, fun _ => ⟨p, σ, (rmL p F R).2, (gen F).toNat, (rmL p F R).1, hp, hC1.1, ⟨by rw [hC1.2.2.2.1]; omega, by omega⟩, hσ, ⟨hs.2.2.2, hLr.1⟩, by rw [hs.2.1]; omega, fun i hi j hj => ?_, hR, hcs, fun x2 Z2 σ2 hq => ?_⟩, fun c2 => by omega⟩
      · rw [hR i hi j hj]; exact hLr.2 i j
      · rw [hs.2.1] at hq
        obtain ⟨q1, q2, q3, q4, q5, q6, q7⟩ := hq
        refine h x2 Z2 σ2 ⟨q1, ⟨q2, ⟨?_, ?_, ?_, ?_⟩, fun i hi => ?_, fun q hq => ?_, q3, q5, q6⟩, fun i hi => ?_, fun b hb => ?_⟩
        · rw [q4]; exact hs.1
        · rw [q4]; rfl
        · rw [q4]; exact hs.2.1
        · rw [q4]; exact hs.2.2.1
        · rw [q7 _ (by omega)]; exact h41 i hi
        · rw [q7 _ (by omega)]; exact h2 q hq
        · rw [q7 _ (by omega)]; exact hc14 i hi
        · rw [q7 b (by omega)]; exact ho b hb
    | succ m ih =>
      intro i w Z1 hw hi ho hc14 hs h41 h2 h3 h4 hR
      have hC1 : CvA Z1 c p F := hC.kept (fun b b1 b2 => ho b (by omega)) hc14
      have hpt := hC1.2.2.1.2 i (by omega)
      have hgt := pall_get (p := p) (F := F) (by omega) (k := i) (by omega)
      have hAr := askA_rg hp (F := F) (r := R) i (by omega)
      have hOr := rmO_rg (p := p) (F := F) hr i
      have hDr := rmD_rg (p := p) (F := F) hr ((pall p F).getD i (0, 0)).1.toNat
      have tail : ∀ t : Int, t - rmO p F R i = rmz p F R i → V mX9_load k n 96 [some (r_ s), some (r_ c), none, some (i_ w), none] [i_ t, i_ w, r_ c, r_ s] x Z1 Q := by
        intro t ht
        have hzr : -5000 ≤ rmz p F R i ∧ rmz p F R i ≤ 5000 := by
          unfold rmz
          split <;> omega
        refine b_X9_load_96 o o oc ?_
        rw [show w.toNat = i by omega, h3 i (by omega), ht]
        refine ⟨by omega, by omega, p, F, σ, (askA p F R i).2, hp, hC1, hσ, ⟨by omega, by omega⟩, hzr, ⟨hs.2.2.2, hAr.1⟩, by rw [hs.2.1]; omega, hcs, fun Z2 hz2 => ?_⟩
        rw [hs.2.1, show fxd (pall p F) w = fxd (pall p F) i by rw [hw]] at hz2
        obtain ⟨q1, q2, q3, q4⟩ := hz2
        have hu2 : (((askA p F R (i + 1)).2 : Nat) : Int) = max ((askA p F R i).2 : Int) (min ((askA p F R i).2 + rmz p F R i) 40) := by
          show (((max ((askA p F R i).2 : Int) (min ((askA p F R i).2 + rmz p F R i) 40)).toNat : Nat) : Int) = _
          omega
        refine ih (i + 1) (w + 1) Z2 (by omega) (by omega) (fun b hb => ?_) (fun j hj => ?_) ⟨?_, ?_, ?_, ?_⟩ (fun j hj => ?_) (fun q hq => ?_) (fun q hq => ?_) (fun q hq => ?_) (fun q hq j hj => ?_)
        · rw [q4 b (by omega)]; exact ho b hb
        · rw [q3 j hj]; exact hc14 j hj
        · rw [q2]; exact hs.1
        · rw [q2]; exact hs.2.1
        · rw [q2]; exact hs.2.2.1
        · rw [q2, hu2]; rfl
        · rw [q4 _ (by omega)]; exact h41 j hj
        · rw [q4 _ (by omega)]; exact h2 q hq
        · rw [q4 _ (by omega)]; exact h3 q hq
        · rw [q4 _ (by omega)]; exact h4 q hq
        · have hq40 := (askA_rg hp (F := F) (r := R) (i + 1) (by omega)).1
          rw [q1 q (by omega) j hj]
          show _ = if (askA p F R i).2 ≤ q ∧ (q : Int) < min ((askA p F R i).2 + rmz p F R i) 40 then _ else (askA p F R i).1 q j
          by_cases cq : (askA p F R i).2 ≤ q ∧ (q : Int) < min ((askA p F R i).2 + rmz p F R i) 40
          · rw [if_pos cq, if_pos cq]
          · rw [if_neg cq, if_neg cq]
            exact hR q (by omega) j hj
      refine b_X9_load_53 oc o ?_
      rw [hC1.2.2.1.1, show w.toNat = i by omega, hpt.1, h4 _ (by omega)]
      refine ⟨⟨by omega, by omega⟩, ⟨by omega, by omega⟩, fun c2 => by omega, fun _ => ⟨by omega, by omega, by omega, by omega, pall p F, hC1.2.2.1, hPr, ⟨by omega, by omega⟩, bI_rg _, fun c3 => tail _ ?_, fun c3 => tail _ ?_⟩⟩
      · have := bI_0 c3
        rw [hw] at this
        unfold rmz; rw [if_neg (by rw [this]; decide)]
      · have := bI_1 c3
        rw [hw] at this
        unfold rmz; rw [if_pos this]
  have hx12 : ∀ i : Nat, i < 8 → 0 ≤ R (2 + 3 * i) ∧ R (2 + 3 * i) ≤ 12 := fun i hi => (hr.2.2 i hi).1
  refine b_X9_load_0 o oc sr ⟨by rw [hRd]; exact hr, fun Z1 e1 => ?_⟩
  have f1 : ∀ b, b ≠ s → Z1 b = Z b := fun b hb => by rw [e1, up_row _ _ _ _ _ hb]
  have hPt1 : PtA Z1 c (pall p F) := by
    unfold PtA
    rw [f1 c (by omega), f1 (c + 6) (by omega), f1 (c + 7) (by omega)]; exact hC.2.2.1
  refine ⟨pall p F, hPt1, hPr, ?_⟩
  rw [f1 r (by omega), hRd]
  refine ⟨h0, hg, hx12, hrs, hcs, fun Z2 hz2 => ⟨p, F, hp, ?_, fun i hi => ?_, hcs, fun Z3 hz3 => ⟨p, hp, ?_, by omega, fun i hi => ?_, ?_, fun Z4 hz4 => ?_⟩⟩⟩
  · unfold PtA
    rw [hz2.2.2 c (by omega), hz2.2.2 (c + 6) (by omega), hz2.2.2 (c + 7) (by omega)]; exact hPt1
  · rw [hz2.1 i hi]; have := rmO_rg (p := p) (F := F) hr i; unfold rmO at this; omega
  · rw [hz3.2 _ (by omega), hz2.2.2 _ (by omega), f1 _ (by omega)]; exact hC.1.1
  all_goals
    have hD : ∀ q : Nat, q < 13 → Z3 (s + 4) q = rmD p F R q := fun q hq => by
      rw [hz3.1 q hq]
      unfold rmD
      rw [dpt_ext (o' := rmO p F R) (fun i hi => by rw [hz2.1 i (by omega)]; rfl)]
  · rw [hD i hi]; exact rmD_rg hr i
  all_goals
    have hU : und p (Z3 (s + 4)) = rmU p F R := by
      unfold rmU und
      exact undA_ext (fun i _ h2 => hD i (by omega))
  · rw [hU]; exact h40
  · rw [hU] at hz4
    have e41 : Z4 r 1 = R 1 := by rw [hz4.2 r (by omega), hz3.2 r (by omega), hz2.2.2 r (by omega), f1 r (by omega), hRd]
    rw [e41, hz4.1.1]
    refine ⟨⟨by omega, by omega⟩, fun Z5 e5 Z6 e6 => lp ((pall p F).length - 1) 0 0 Z6 rfl (by omega) (fun b hb => ?_) (fun i hi => ?_) ⟨?_, ?_, ?_, ?_⟩ (fun i hi => ?_) (fun q hq => ?_) (fun q hq => ?_) (fun q hq => ?_) (fun q hq j hj => ?_)⟩
    · rw [e6, up_row _ _ _ _ _ (by omega), e5, up_row _ _ _ _ _ (by omega), hz4.2 b (by omega), hz3.2 b (by omega), hz2.2.2 b (by omega), f1 b (by omega)]
    · rw [e6, up_row _ _ _ _ _ (by omega), e5, up_row _ _ _ _ _ (by omega), hz4.2 c (by omega), hz3.2 c (by omega), hz2.2.2 c (by omega), f1 c (by omega)]
    · rw [e6, up_at, if_neg (by decide), e5, up_at, if_neg (by decide), hz4.1.2.1 0 (by decide), hz3.2 s (by omega), hz2.2.2 s (by omega), e1, up_at, if_pos rfl, hRd]
    · rw [e6, up_at, if_neg (by decide), e5, up_at, if_pos rfl]; rfl
    · rw [e6, up_at, if_neg (by decide), e5, up_at, if_neg (by decide)]; exact hz4.1.1
    · rw [e6, up_at, if_pos rfl]; rfl
    · rw [e6, up_row _ _ _ _ _ (by omega), e5, up_row _ _ _ _ _ (by omega)]; exact hz4.1.2.2 i hi
    · rw [e6, up_row _ _ _ _ _ (by omega), e5, up_row _ _ _ _ _ (by omega), hz4.2 _ (by omega), hz3.2 _ (by omega)]; exact hz2.2.1 q hq
    · rw [e6, up_row _ _ _ _ _ (by omega), e5, up_row _ _ _ _ _ (by omega), hz4.2 _ (by omega), hz3.2 _ (by omega)]; exact hz2.1 q hq
    · rw [e6, up_row _ _ _ _ _ (by omega), e5, up_row _ _ _ _ _ (by omega), hz4.2 _ (by omega)]; exact hD q hq
    · exact absurd hq (Nat.not_lt_zero q)
