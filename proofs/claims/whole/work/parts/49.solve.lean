theorem dX9_solve_0 : decode cX9_solve 0 = .ok (.aload_n 0, 1) := by decide +kernel
theorem dX9_solve_1 : decode cX9_solve 1 = .ok (.iconst 0, 1) := by decide +kernel
theorem dX9_solve_2 : decode cX9_solve 2 = .ok (.putfield 96, 3) := by decide +kernel
theorem dX9_solve_5 : decode cX9_solve 5 = .ok (.iconst 0, 1) := by decide +kernel
theorem dX9_solve_6 : decode cX9_solve 6 = .ok (.istore_n 2, 1) := by decide +kernel
theorem dX9_solve_7 : decode cX9_solve 7 = .ok (.iconst 0, 1) := by decide +kernel
theorem dX9_solve_8 : decode cX9_solve 8 = .ok (.istore_n 3, 1) := by decide +kernel
theorem dX9_solve_9 : decode cX9_solve 9 = .ok (.iload_n 3, 1) := by decide +kernel
theorem dX9_solve_10 : decode cX9_solve 10 = .ok (.aload_n 0, 1) := by decide +kernel
theorem dX9_solve_11 : decode cX9_solve 11 = .ok (.getfield 73, 3) := by decide +kernel
theorem dX9_solve_14 : decode cX9_solve 14 = .ok (.if_icmp .gt 98, 3) := by decide +kernel
theorem dX9_solve_17 : decode cX9_solve 17 = .ok (.iload_n 3, 1) := by decide +kernel
theorem dX9_solve_18 : decode cX9_solve 18 = .ok (.iconst 2, 1) := by decide +kernel
theorem dX9_solve_19 : decode cX9_solve 19 = .ok (.irem, 1) := by decide +kernel
theorem dX9_solve_20 : decode cX9_solve 20 = .ok (.iconst 1, 1) := by decide +kernel
theorem dX9_solve_21 : decode cX9_solve 21 = .ok (.if_icmp .ne 26, 3) := by decide +kernel
theorem dX9_solve_24 : decode cX9_solve 24 = .ok (.iload_n 3, 1) := by decide +kernel
theorem dX9_solve_25 : decode cX9_solve 25 = .ok (.iconst 2, 1) := by decide +kernel
theorem dX9_solve_26 : decode cX9_solve 26 = .ok (.aload_n 1, 1) := by decide +kernel
theorem dX9_solve_27 : decode cX9_solve 27 = .ok (.getfield 124, 3) := by decide +kernel
theorem dX9_solve_30 : decode cX9_solve 30 = .ok (.imul, 1) := by decide +kernel
theorem dX9_solve_31 : decode cX9_solve 31 = .ok (.iconst 1, 1) := by decide +kernel
theorem dX9_solve_32 : decode cX9_solve 32 = .ok (.iadd, 1) := by decide +kernel
theorem dX9_solve_33 : decode cX9_solve 33 = .ok (.if_icmp .ge 14, 3) := by decide +kernel
theorem dX9_solve_36 : decode cX9_solve 36 = .ok (.aload_n 0, 1) := by decide +kernel
theorem dX9_solve_37 : decode cX9_solve 37 = .ok (.getfield 30, 3) := by decide +kernel
theorem dX9_solve_40 : decode cX9_solve 40 = .ok (.iload_n 3, 1) := by decide +kernel
theorem dX9_solve_41 : decode cX9_solve 41 = .ok (.bipush (-2), 2) := by decide +kernel
theorem dX9_solve_43 : decode cX9_solve 43 = .ok (.iastore, 1) := by decide +kernel
theorem dX9_solve_44 : decode cX9_solve 44 = .ok (.goto 62, 3) := by decide +kernel
theorem dX9_solve_47 : decode cX9_solve 47 = .ok (.aload_n 0, 1) := by decide +kernel
theorem dX9_solve_48 : decode cX9_solve 48 = .ok (.iload_n 3, 1) := by decide +kernel
theorem dX9_solve_49 : decode cX9_solve 49 = .ok (.iload_n 2, 1) := by decide +kernel
theorem dX9_solve_50 : decode cX9_solve 50 = .ok (.invokevirtual 136, 3) := by decide +kernel
theorem dX9_solve_53 : decode cX9_solve 53 = .ok (.ifCond .eq 26, 3) := by decide +kernel
theorem dX9_solve_56 : decode cX9_solve 56 = .ok (.aload_n 0, 1) := by decide +kernel
theorem dX9_solve_57 : decode cX9_solve 57 = .ok (.getfield 30, 3) := by decide +kernel
theorem dX9_solve_60 : decode cX9_solve 60 = .ok (.iload_n 3, 1) := by decide +kernel
theorem dX9_solve_61 : decode cX9_solve 61 = .ok (.iload_n 2, 1) := by decide +kernel
theorem dX9_solve_62 : decode cX9_solve 62 = .ok (.iastore, 1) := by decide +kernel
theorem dX9_solve_63 : decode cX9_solve 63 = .ok (.aload_n 0, 1) := by decide +kernel
theorem dX9_solve_64 : decode cX9_solve 64 = .ok (.aload_n 1, 1) := by decide +kernel
theorem dX9_solve_65 : decode cX9_solve 65 = .ok (.getfield 54, 3) := by decide +kernel
theorem dX9_solve_68 : decode cX9_solve 68 = .ok (.iload_n 3, 1) := by decide +kernel
theorem dX9_solve_69 : decode cX9_solve 69 = .ok (.iload_n 2, 1) := by decide +kernel
theorem dX9_solve_70 : decode cX9_solve 70 = .ok (.invokevirtual 140, 3) := by decide +kernel
theorem dX9_solve_73 : decode cX9_solve 73 = .ok (.iinc 2 1, 3) := by decide +kernel
theorem dX9_solve_76 : decode cX9_solve 76 = .ok (.goto 30, 3) := by decide +kernel
theorem dX9_solve_79 : decode cX9_solve 79 = .ok (.aload_n 0, 1) := by decide +kernel
theorem dX9_solve_80 : decode cX9_solve 80 = .ok (.getfield 30, 3) := by decide +kernel
theorem dX9_solve_83 : decode cX9_solve 83 = .ok (.iload_n 3, 1) := by decide +kernel
theorem dX9_solve_84 : decode cX9_solve 84 = .ok (.iconst (-1), 1) := by decide +kernel
theorem dX9_solve_85 : decode cX9_solve 85 = .ok (.iastore, 1) := by decide +kernel
theorem dX9_solve_86 : decode cX9_solve 86 = .ok (.aload_n 0, 1) := by decide +kernel
theorem dX9_solve_87 : decode cX9_solve 87 = .ok (.getfield 33, 3) := by decide +kernel
theorem dX9_solve_90 : decode cX9_solve 90 = .ok (.aload_n 0, 1) := by decide +kernel
theorem dX9_solve_91 : decode cX9_solve 91 = .ok (.getfield 96, 3) := by decide +kernel
theorem dX9_solve_94 : decode cX9_solve 94 = .ok (.iload_n 3, 1) := by decide +kernel
theorem dX9_solve_95 : decode cX9_solve 95 = .ok (.iastore, 1) := by decide +kernel
theorem dX9_solve_96 : decode cX9_solve 96 = .ok (.aload_n 0, 1) := by decide +kernel
theorem dX9_solve_97 : decode cX9_solve 97 = .ok (.dup, 1) := by decide +kernel
theorem dX9_solve_98 : decode cX9_solve 98 = .ok (.getfield 96, 3) := by decide +kernel
theorem dX9_solve_101 : decode cX9_solve 101 = .ok (.iconst 1, 1) := by decide +kernel
theorem dX9_solve_102 : decode cX9_solve 102 = .ok (.iadd, 1) := by decide +kernel
theorem dX9_solve_103 : decode cX9_solve 103 = .ok (.putfield 96, 3) := by decide +kernel
theorem dX9_solve_106 : decode cX9_solve 106 = .ok (.iinc 3 1, 3) := by decide +kernel
theorem dX9_solve_109 : decode cX9_solve 109 = .ok (.goto (-100), 3) := by decide +kernel
theorem dX9_solve_112 : decode cX9_solve 112 = .ok (.return_, 1) := by decide +kernel
set_option maxRecDepth 20000 in
theorem b_X9_solve_0 {k n : Nat} {x : Wx} {Z : Zt} {Q : Option Value → Wx → Zt → Prop} {a0 : Nat} {a1 : Nat} (o_a0 : Is9 x a0)
    (h : ∀ Z1 : Zt, Z1 = up Z a0 1 0 → (V mX9_solve k n 9 [some (r_ a0), some (r_ a1), some (i_ 0), some (i_ 0)] [] x Z1 Q)) :
    V mX9_solve k n 0 [some (r_ a0), some (r_ a1), none, none] [] x Z Q :=
  V_aload_n dX9_solve_0 rfl (V_iconst dX9_solve_1 (P_9_1 o_a0.1 lf_9_96 dX9_solve_2 (V_nmZ (fun Z1 eZ1 => V_iconst dX9_solve_5 (V_istore_n (lv' := [some (r_ a0), some (r_ a1), some (i_ 0), none]) dX9_solve_6 (Nat.le_of_ble_eq_true rfl) rfl (V_iconst dX9_solve_7 (V_istore_n (lv' := [some (r_ a0), some (r_ a1), some (i_ 0), some (i_ 0)]) dX9_solve_8 (Nat.le_of_ble_eq_true rfl) rfl (V_msk [true, true, true, true] rfl (h Z1 eZ1)))))))))
set_option maxRecDepth 20000 in
theorem b_X9_solve_9 {k n : Nat} {x : Wx} {Z : Zt} {Q : Option Value → Wx → Zt → Prop} {a0 : Nat} {a1 : Nat} {v2 : Int} {v3 : Int} (o_a0 : Is9 x a0) (o_a1 : Is2 x a1)
    (h : Rg v3 ∧ Rg (Z a0 2) ∧ (((Z a0 2 < v3) → (Q none x Z)) ∧ ((v3 ≤ Z a0 2) → (Rg (Int.tmod v3 2) ∧ (((Int.tmod v3 2 ≠ 1) → (V mX9_solve k n 47 [some (r_ a0), some (r_ a1), some (i_ v2), some (i_ v3)] [] x Z Q)) ∧ ((Int.tmod v3 2 = 1) → (Rg ((2 * (Z a1 2)) + 1) ∧ ((((2 * (Z a1 2)) + 1 ≤ v3) → (V mX9_solve k n 47 [some (r_ a0), some (r_ a1), some (i_ v2), some (i_ v3)] [] x Z Q)) ∧ ((v3 < (2 * (Z a1 2)) + 1) → (0 ≤ v3 ∧ v3 < 90 ∧ (∀ Z1 : Zt, Z1 = up Z (a0 + 46) v3.toNat (-2) → (V mX9_solve k n 106 [some (r_ a0), some (r_ a1), some (i_ v2), some (i_ v3)] [] x Z1 Q)))))))))))) :
    V mX9_solve k n 9 [some (r_ a0), some (r_ a1), some (i_ v2), some (i_ v3)] [] x Z Q :=
  V_iload_n dX9_solve_9 rfl (V_aload_n dX9_solve_10 rfl (G_9_2 o_a0.1 lf_9_73 dX9_solve_11 (V_icmp_gt (tgt := 112) dX9_solve_14 rfl h.1 h.2.1 (fun c1 => V_ret dX9_solve_112 rfl (h.2.2.1 c1)) (fun c1 => V_iload_n dX9_solve_17 rfl (V_iconst dX9_solve_18 (V_irem dX9_solve_19 h.1 (rg_c rfl) (by decide) (V_iconst dX9_solve_20 (V_icmp_ne (tgt := 47) dX9_solve_21 rfl (h.2.2.2 c1).1 (rg_c rfl) (fun c2 => V_msk [true, true, true, true] rfl ((h.2.2.2 c1).2.1 c2)) (fun c2 => V_iload_n dX9_solve_24 rfl (V_iconst dX9_solve_25 (V_aload_n dX9_solve_26 rfl (G_2_2 o_a1.1 lf_9_124 dX9_solve_27 (V_imul dX9_solve_30 (V_iconst dX9_solve_31 (V_iadd dX9_solve_32 (V_icmp_ge (tgt := 47) dX9_solve_33 rfl h.1 ((h.2.2.2 c1).2.2 c2).1 (fun c3 => V_msk [true, true, true, true] rfl (((h.2.2.2 c1).2.2 c2).2.1 c3)) (fun c3 => V_aload_n dX9_solve_36 rfl (G_9_10 o_a0.1 o_a0.2.2.2.2.2.2.2.2.2.2.2.2.1 lf_9_30 dX9_solve_37 (V_iload_n dX9_solve_40 rfl (V_bipush dX9_solve_41 rfl (V_iast (t := 100) o_a0.2.2.2.2.2.2.2.2.2.2.2.2.2.1 (by decide) (by decide) rfl (((h.2.2.2 c1).2.2 c2).2.2 c3).1 (((h.2.2.2 c1).2.2 c2).2.2 c3).2.1 (Nat.le_of_ble_eq_true rfl) dX9_solve_43 (V_nmZ (fun Z1 eZ1 => V_goto (tgt := 106) dX9_solve_44 rfl (V_msk [true, true, true, true] rfl ((((h.2.2.2 c1).2.2 c2).2.2 c3).2.2 Z1 eZ1)))))))))))))))))))))))))
set_option maxRecDepth 20000 in
theorem b_X9_solve_47 {k n : Nat} {x : Wx} {Z : Zt} {Q : Option Value → Wx → Zt → Prop} {a0 : Nat} {a1 : Nat} {v2 : Int} {v3 : Int} (o_a0 : Is9 x a0)
    (h : ∃ g1 : Nat → Nat, (∃ g2 : Nat, (LnA x a0 g1 ∧ (Z a0 9 = (g2 : Int) ∧ g2 ≤ 40) ∧ (0 ≤ v3 ∧ v3 < 90) ∧ (0 ≤ v2 ∧ v2 ≤ g2) ∧ (∀ i : Nat, i < g2 → ∀ j : Nat, j < 90 → Rg (Z (a0 + 6 + g1 i) j)) ∧ (∀ (x'1 : Wx) (r'1 : Int), (((r'1 = 0 ∧ fstL (fun i j => Z (a0 + 6 + g1 i) j) (Int.toNat v3) (g2 - Int.toNat v2) (Int.toNat v2) = none ∧ x'1 = x) ∨ (∃ l : Nat, r'1 = 1 ∧ fstL (fun i j => Z (a0 + 6 + g1 i) j) (Int.toNat v3) (g2 - Int.toNat v2) (Int.toNat v2) = some l ∧ x'1 = swX x a0 g1 l (Int.toNat v2)))) → (Is9 x'1 a0 ∧ Is2 x'1 a1 ∧ (Rg r'1 ∧ (((r'1 = 0) → (0 ≤ v3 ∧ v3 < 90 ∧ (∀ Z1 : Zt, Z1 = up Z (a0 + 46) v3.toNat (-1) → (0 ≤ Z1 a0 1 ∧ Z1 a0 1 < 90 ∧ (∀ Z2 : Zt, Z2 = up Z1 (a0 + 47) (Z1 a0 1).toNat v3 → (∀ Z3 : Zt, Z3 = up Z2 a0 1 ((Z2 a0 1) + 1) → (V mX9_solve k n 106 [some (r_ a0), some (r_ a1), some (i_ v2), some (i_ v3)] [] x'1 Z3 Q))))))) ∧ ((r'1 ≠ 0) → (0 ≤ v3 ∧ v3 < 90 ∧ (∀ Z4 : Zt, Z4 = up Z (a0 + 46) v3.toNat v2 → (∃ g3 : Int, (∃ g4 : Nat → Nat, (∃ g5 : Nat, (∃ g6 : Nat, (IsP g3 ∧ FA Z4 (a1 + 1) g3 ∧ LnA x'1 a0 g4 ∧ (Z4 a0 9 = (g5 : Int) ∧ g5 ≤ 40) ∧ (Z4 a0 2 = (g6 : Int) ∧ g6 < 90) ∧ (0 ≤ v3 ∧ v3 ≤ g6) ∧ (0 ≤ v2 ∧ v2 < g5) ∧ (∀ i : Nat, i < g5 → ∀ j : Nat, j < 90 → 0 ≤ Z4 (a0 + 6 + g4 i) j ∧ Z4 (a0 + 6 + g4 i) j < g3) ∧ (Z4 (a0 + 6 + g4 (Int.toNat v2)) (Int.toNat v3) ≠ 0) ∧ ((a1 + 1) + 3 ≤ a0 ∨ a0 + 48 ≤ (a1 + 1)) ∧ (∀ (Z'1 : Zt), ((∀ q : Nat, q < 40 → ∀ j : Nat, j < 90 → Z'1 (a0 + 6 + g4 q) j = clrM g3 (Int.toNat v3) g6 (Int.toNat v2) g5 (fun i j => Z4 (a0 + 6 + g4 i) j) q j) ∧ Oth Z4 Z'1 (fun b => a0 + 6 ≤ b ∧ b < a0 + 46)) → (V mX9_solve k n 106 [some (r_ a0), some (r_ a1), some (i_ (v2 + 1)), some (i_ v3)] [] x'1 Z'1 Q))))))))))))))))) :
    V mX9_solve k n 47 [some (r_ a0), some (r_ a1), some (i_ v2), some (i_ v3)] [] x Z Q :=
  V_aload_n dX9_solve_47 rfl (V_iload_n dX9_solve_48 rfl (V_iload_n dX9_solve_49 rfl (Exists.elim h (fun g1 w1 => Exists.elim w1 (fun g2 w2 => V_callV (k' := 0) (n' := 0) (t := 9) (q := (RX9, TX9, 12)) [i_ v3, i_ v2] [] okX9_bringUp o_a0.1 rfl rfl lm_9_136 liX9_bringUp lqX9_bringUp (Nat.le_of_ble_eq_true rfl) (Nat.le_of_ble_eq_true rfl) (Nat.le_of_ble_eq_true rfl) (cat_of rfl) (Nat.le_of_ble_eq_true rfl) (Nat.zero_le _) (Nat.zero_le _) rfl dX9_solve_50 (sp_X9_bringUp o_a0 w2.1 w2.2.1 w2.2.2.1 w2.2.2.2.1 w2.2.2.2.2.1 (fun x'1 r'1 p1 => V_if_eq (tgt := 79) dX9_solve_53 rfl (w2.2.2.2.2.2 x'1 r'1 p1).2.2.1 (fun c1 => V_aload_n dX9_solve_79 rfl (G_9_10 (w2.2.2.2.2.2 x'1 r'1 p1).1.1 (w2.2.2.2.2.2 x'1 r'1 p1).1.2.2.2.2.2.2.2.2.2.2.2.2.1 lf_9_30 dX9_solve_80 (V_iload_n dX9_solve_83 rfl (V_iconst dX9_solve_84 (V_iast (t := 100) (w2.2.2.2.2.2 x'1 r'1 p1).1.2.2.2.2.2.2.2.2.2.2.2.2.2.1 (by decide) (by decide) rfl ((w2.2.2.2.2.2 x'1 r'1 p1).2.2.2.1 c1).1 ((w2.2.2.2.2.2 x'1 r'1 p1).2.2.2.1 c1).2.1 (Nat.le_of_ble_eq_true rfl) dX9_solve_85 (V_nmZ (fun Z1 eZ1 => V_aload_n dX9_solve_86 rfl (G_9_11 (w2.2.2.2.2.2 x'1 r'1 p1).1.1 (w2.2.2.2.2.2 x'1 r'1 p1).1.2.2.2.2.2.2.2.2.2.2.2.2.2.2.1 lf_9_33 dX9_solve_87 (V_aload_n dX9_solve_90 rfl (G_9_1 (w2.2.2.2.2.2 x'1 r'1 p1).1.1 lf_9_96 dX9_solve_91 (V_iload_n dX9_solve_94 rfl (V_iast (t := 100) (w2.2.2.2.2.2 x'1 r'1 p1).1.2.2.2.2.2.2.2.2.2.2.2.2.2.2.2 (by decide) (by decide) rfl (((w2.2.2.2.2.2 x'1 r'1 p1).2.2.2.1 c1).2.2 Z1 eZ1).1 (((w2.2.2.2.2.2 x'1 r'1 p1).2.2.2.1 c1).2.2 Z1 eZ1).2.1 (Nat.le_of_ble_eq_true rfl) dX9_solve_95 (V_nmZ (fun Z2 eZ2 => V_aload_n dX9_solve_96 rfl (V_dup dX9_solve_97 rfl (G_9_1 (w2.2.2.2.2.2 x'1 r'1 p1).1.1 lf_9_96 dX9_solve_98 (V_iconst dX9_solve_101 (V_iadd dX9_solve_102 (P_9_1 (w2.2.2.2.2.2 x'1 r'1 p1).1.1 lf_9_96 dX9_solve_103 (V_nmZ (fun Z3 eZ3 => V_msk [true, true, true, true] rfl (((((w2.2.2.2.2.2 x'1 r'1 p1).2.2.2.1 c1).2.2 Z1 eZ1).2.2 Z2 eZ2) Z3 eZ3)))))))))))))))))))))) (fun c1 => V_aload_n dX9_solve_56 rfl (G_9_10 (w2.2.2.2.2.2 x'1 r'1 p1).1.1 (w2.2.2.2.2.2 x'1 r'1 p1).1.2.2.2.2.2.2.2.2.2.2.2.2.1 lf_9_30 dX9_solve_57 (V_iload_n dX9_solve_60 rfl (V_iload_n dX9_solve_61 rfl (V_iast (t := 100) (w2.2.2.2.2.2 x'1 r'1 p1).1.2.2.2.2.2.2.2.2.2.2.2.2.2.1 (by decide) (by decide) rfl ((w2.2.2.2.2.2 x'1 r'1 p1).2.2.2.2 c1).1 ((w2.2.2.2.2.2 x'1 r'1 p1).2.2.2.2 c1).2.1 (Nat.le_of_ble_eq_true rfl) dX9_solve_62 (V_nmZ (fun Z4 eZ4 => V_aload_n dX9_solve_63 rfl (V_aload_n dX9_solve_64 rfl (G_2_0 (w2.2.2.2.2.2 x'1 r'1 p1).2.1.1 (w2.2.2.2.2.2 x'1 r'1 p1).2.1.2.1 lf_9_54 dX9_solve_65 (V_iload_n dX9_solve_68 rfl (V_iload_n dX9_solve_69 rfl (Exists.elim (((w2.2.2.2.2.2 x'1 r'1 p1).2.2.2.2 c1).2.2 Z4 eZ4) (fun g3 w3 => Exists.elim w3 (fun g4 w4 => Exists.elim w4 (fun g5 w5 => Exists.elim w5 (fun g6 w6 => V_callV (k' := 0) (n' := 0) (t := 9) (q := (RX9, TX9, 12)) [r_ (a1 + 1), i_ v3, i_ v2] [] okX9_clearColumn (w2.2.2.2.2.2 x'1 r'1 p1).1.1 rfl rfl lm_9_140 liX9_clearColumn lqX9_clearColumn (Nat.le_of_ble_eq_true rfl) (Nat.le_of_ble_eq_true rfl) (Nat.le_of_ble_eq_true rfl) (cat_of rfl) (Nat.le_of_ble_eq_true rfl) (Nat.zero_le _) (Nat.zero_le _) rfl dX9_solve_70 (sp_X9_clearColumn (w2.2.2.2.2.2 x'1 r'1 p1).1 (w2.2.2.2.2.2 x'1 r'1 p1).2.1.2.2.1 w6.1 w6.2.1 w6.2.2.1 w6.2.2.2.1 w6.2.2.2.2.1 w6.2.2.2.2.2.1 w6.2.2.2.2.2.2.1 w6.2.2.2.2.2.2.2.1 w6.2.2.2.2.2.2.2.2.1 w6.2.2.2.2.2.2.2.2.2.1 (fun Z'1 p2 => V_iinc (lv' := [some (r_ a0), some (r_ a1), some (i_ (v2 + 1)), some (i_ v3)]) dX9_solve_73 rfl (Nat.le_of_ble_eq_true rfl) rfl (V_goto (tgt := 106) dX9_solve_76 rfl (V_msk [true, true, true, true] rfl (w6.2.2.2.2.2.2.2.2.2.2 Z'1 p2))))))))))))))))))))))))))))
set_option maxRecDepth 20000 in
theorem b_X9_solve_106 {k n : Nat} {x : Wx} {Z : Zt} {Q : Option Value → Wx → Zt → Prop} {a0 : Nat} {a1 : Nat} {v2 : Int} {v3 : Int} 
    (h : V mX9_solve k n 9 [some (r_ a0), some (r_ a1), some (i_ v2), some (i_ (v3 + 1))] [] x Z Q) :
    V mX9_solve k n 106 [some (r_ a0), some (r_ a1), some (i_ v2), some (i_ v3)] [] x Z Q :=
  V_iinc (lv' := [some (r_ a0), some (r_ a1), some (i_ v2), some (i_ (v3 + 1))]) dX9_solve_106 rfl (Nat.le_of_ble_eq_true rfl) rfl (V_goto (tgt := 9) dX9_solve_109 rfl (V_msk [true, true, true, true] rfl h))
theorem fstL_ext {M N : Nat → Nat → Int} {c : Nat} : ∀ {m l : Nat}, (∀ i : Nat, l ≤ i → i < l + m → M i c = N i c) → fstL M c m l = fstL N c m l
  | 0, _, _ => rfl
  | m + 1, l, h => by
    unfold fstL
    rw [h l (by omega) (by omega), fstL_ext (m := m) (l := l + 1) (fun i h1 h2 => h i (by omega) (by omega))]
theorem clrM_ext {p : Int} {c po r u : Nat} {M N : Nat → Nat → Int} {i j : Nat} (hi : i < u) (hr : r < u) (hc : c < 90) (hj : j < 90) (h : ∀ i j : Nat, i < u → j < 90 → M i j = N i j) : clrM p c po r u M i j = clrM p c po r u N i j := by
  unfold clrM
  rw [h i j hi hj, h r j hr hj, h r c hr hc, h i c hi hc]
/-- the lines, how many are pivots, the pivots, the leads, how many they are -/
abbrev Sv := (Nat → Nat → Int) × Nat × (Nat → Int) × (Nat → Int) × Nat
def swM (M : Nat → Nat → Int) (l r : Nat) : Nat → Nat → Int := fun i => if i = r then M l else if i = l then M r else M i
/-- one column -/
def slvS (p : Int) (g po u c : Nat) (w : Sv) : Sv :=
  if c % 2 = 1 ∧ c < 2 * g + 1 then (w.1, w.2.1, upf w.2.2.1 c (-2), w.2.2.2.1, w.2.2.2.2)
  else match fstL w.1 c (u - w.2.1) w.2.1 with
    | none => (w.1, w.2.1, upf w.2.2.1 c (-1), upf w.2.2.2.1 w.2.2.2.2 c, w.2.2.2.2 + 1)
    | some l => (clrM p c po w.2.1 u (swM w.1 l w.2.1), w.2.1 + 1, upf w.2.2.1 c w.2.1, w.2.2.2.1, w.2.2.2.2)
def slvN (p : Int) (g po u : Nat) (M : Nat → Nat → Int) : Nat → Sv
  | 0 => (M, 0, fun _ => 0, fun _ => 0, 0)
  | c + 1 => slvS p g po u c (slvN p g po u M c)
theorem slvS_m {p : Int} {g po u c : Nat} {w : Sv} (h : c % 2 = 1 ∧ c < 2 * g + 1) : slvS p g po u c w = (w.1, w.2.1, upf w.2.2.1 c (-2), w.2.2.2.1, w.2.2.2.2) := if_pos h
theorem slvS_n {p : Int} {g po u c : Nat} {w : Sv} (h : ¬ (c % 2 = 1 ∧ c < 2 * g + 1)) (h2 : fstL w.1 c (u - w.2.1) w.2.1 = none) : slvS p g po u c w = (w.1, w.2.1, upf w.2.2.1 c (-1), upf w.2.2.2.1 w.2.2.2.2 c, w.2.2.2.2 + 1) := by
  unfold slvS; rw [if_neg h, h2]
theorem slvS_s {p : Int} {g po u c : Nat} {w : Sv} {l : Nat} (h : ¬ (c % 2 = 1 ∧ c < 2 * g + 1)) (h2 : fstL w.1 c (u - w.2.1) w.2.1 = some l) : slvS p g po u c w = (clrM p c po w.2.1 u (swM w.1 l w.2.1), w.2.1 + 1, upf w.2.2.1 c w.2.1, w.2.2.2.1, w.2.2.2.2) := by
  unfold slvS; rw [if_neg h, h2]
def SvI (p : Int) (po u c : Nat) (w : Sv) : Prop := (∀ i : Nat, i < u → ∀ j : Nat, j < 90 → 0 ≤ w.1 i j ∧ w.1 i j < p) ∧ w.2.1 ≤ u ∧ w.2.2.2.2 ≤ c ∧ (∀ j : Nat, j < c → -2 ≤ w.2.2.1 j ∧ w.2.2.1 j < w.2.1) ∧ (∀ i : Nat, i < w.2.2.2.2 → 0 ≤ w.2.2.2.1 i ∧ w.2.2.2.1 i < c)
theorem SvI.st {p : Int} (hp : 0 < p) {g po u c : Nat} {w : Sv} (h : SvI p po u c w) : SvI p po u (c + 1) (slvS p g po u c w) := by
  obtain ⟨h1, h2, h3, h4, h5⟩ := h
  by_cases cm : c % 2 = 1 ∧ c < 2 * g + 1
  · rw [slvS_m cm]
    refine ⟨h1, h2, Nat.le_succ_of_le h3, fun j hj => ?_, fun i hi => ?_⟩
    · show -2 ≤ upf w.2.2.1 c (-2) j ∧ upf w.2.2.1 c (-2) j < w.2.1
      unfold upf
      split
      · omega
      · exact h4 j (by omega)
    · have := h5 i hi
      exact ⟨this.1, Int.lt_of_lt_of_le this.2 (by omega)⟩
  · cases hf : fstL w.1 c (u - w.2.1) w.2.1 with
    | none =>
      rw [slvS_n cm hf]
      refine ⟨h1, h2, Nat.succ_le_succ h3, fun j hj => ?_, fun i hi => ?_⟩
      · show -2 ≤ upf w.2.2.1 c (-1) j ∧ upf w.2.2.1 c (-1) j < w.2.1
        unfold upf
        split
        · omega
        · exact h4 j (by omega)
      · have hi' : i < w.2.2.2.2 + 1 := hi
        show 0 ≤ upf w.2.2.2.1 w.2.2.2.2 c i ∧ upf w.2.2.2.1 w.2.2.2.2 c i < ((c + 1 : Nat) : Int)
        unfold upf
        split
        · omega
        · have := h5 i (by omega)
          omega
    | some l =>
      have hl := fstL_some hf
      rw [slvS_s cm hf]
      refine ⟨fun i hi j hj => ?_, ?_, Nat.le_succ_of_le h3, fun j hj => ?_, fun i hi => ?_⟩
      · refine clrM_rg hp ?_
        unfold swM
        split
        · exact h1 l (by omega) j hj
        · split
          · exact h1 _ (by omega) j hj
          · exact h1 i hi j hj
      · show w.2.1 + 1 ≤ u; omega
      · show -2 ≤ upf w.2.2.1 c w.2.1 j ∧ upf w.2.2.1 c w.2.1 j < ((w.2.1 + 1 : Nat) : Int)
        unfold upf
        split
        · omega
        · have := h4 j (by omega); omega
      · have := h5 i hi
        exact ⟨this.1, Int.lt_of_lt_of_le this.2 (by omega)⟩
theorem SvI.all {p : Int} (hp : 0 < p) {g po u : Nat} {M : Nat → Nat → Int} (h : ∀ i : Nat, i < u → ∀ j : Nat, j < 90 → 0 ≤ M i j ∧ M i j < p) : ∀ c : Nat, SvI p po u c (slvN p g po u M c)
  | 0 => ⟨h, Nat.zero_le _, Nat.le_refl _, fun j hj => by omega, fun i hi => absurd hi (Nat.not_lt_zero i)⟩
  | c + 1 => SvI.st hp (SvI.all hp h c)
theorem sp_X9_solve {k n : Nat} {x : Wx} {Z : Zt} {Q : Option Value → Wx → Zt → Prop} {s c : Nat} (o : Is9 x s) (oc : Is2 x c) {p : Int} {σ : Nat → Nat} {u g : Nat} {M : Nat → Nat → Int} (hp : IsP p) (hf : FA Z (c + 1) p) (hg : Z c 2 = (g : Int) ∧ g ≤ 2) (hσ : LnA x s σ) (hu : Z s 9 = (u : Int) ∧ u ≤ 40) (hpo : -100 ≤ Z s 2 ∧ Z s 2 < 90) (hM : ∀ i : Nat, i < u → ∀ j : Nat, j < 90 → 0 ≤ Z (s + 6 + σ i) j ∧ Z (s + 6 + σ i) j < p) (hMe : ∀ i : Nat, i < u → ∀ j : Nat, j < 90 → Z (s + 6 + σ i) j = M i j) (hcs : c + 16 ≤ s ∨ s + 48 ≤ c) (h : ∀ (x' : Wx) (Z' : Zt) (σ' : Nat → Nat), (Xs x x' (s + 5) ∧ LnA x' s σ' ∧ (∀ i : Nat, i < u → ∀ j : Nat, j < 90 → Z' (s + 6 + σ' i) j = (slvN p g (Z s 2).toNat u M (Z s 2 + 1).toNat).1 i j) ∧ Z' s = (fun i => if i = 1 then ((slvN p g (Z s 2).toNat u M (Z s 2 + 1).toNat).2.2.2.2 : Int) else Z s i) ∧ (∀ j : Nat, (j : Int) ≤ Z s 2 → Z' (s + 46) j = (slvN p g (Z s 2).toNat u M (Z s 2 + 1).toNat).2.2.1 j) ∧ (∀ i : Nat, i < (slvN p g (Z s 2).toNat u M (Z s 2 + 1).toNat).2.2.2.2 → Z' (s + 47) i = (slvN p g (Z s 2).toNat u M (Z s 2 + 1).toNat).2.2.2.1 i) ∧ Oth Z Z' (fun b => b = s ∨ (s + 6 ≤ b ∧ b < s + 48))) → Q none x' Z') : V mX9_solve k n 0 [some (r_ s), some (r_ c), none, none] [] x Z Q := by
  have hpr := hp.rg
  have hM0 : ∀ i : Nat, i < u → ∀ j : Nat, j < 90 → 0 ≤ M i j ∧ M i j < p := fun i hi j hj => by rw [← hMe i hi j hj]; exact hM i hi j hj
  have hI := SvI.all (g := g) (po := (Z s 2).toNat) (p := p) (by omega) hM0
  generalize hW : slvN p g (Z s 2).toNat u M = W at h hI
  have hWs : ∀ c : Nat, W (c + 1) = slvS p g (Z s 2).toNat u c (W c) := fun c => by rw [← hW]; rfl
  have hW0 : W 0 = (M, 0, fun _ => 0, fun _ => 0, 0) := by rw [← hW]; rfl
  obtain ⟨P, hP⟩ : ∃ P : Int, Z s 2 = P := ⟨_, rfl⟩
  rw [hP] at h hpo hWs
  have lp : ∀ (m t : Nat) (w : Int) (x1 : Wx) (Z1 : Zt) (τ : Nat → Nat) (r : Int), w = t → t + m = (P + 1).toNat → r = ((W t).2.1 : Int) → Xs x x1 (s + 5) → LnA x1 s τ → (∀ i : Nat, i < u → ∀ j : Nat, j < 90 → Z1 (s + 6 + τ i) j = (W t).1 i j) → Z1 s = (fun i => if i = 1 then ((W t).2.2.2.2 : Int) else Z s i) → (∀ j : Nat, j < t → Z1 (s + 46) j = (W t).2.2.1 j) → (∀ i : Nat, i < (W t).2.2.2.2 → Z1 (s + 47) i = (W t).2.2.2.1 i) → Oth Z Z1 (fun b => b = s ∨ (s + 6 ≤ b ∧ b < s + 48)) → V mX9_solve k n 9 [some (r_ s), some (r_ c), some (i_ r), some (i_ w)] [] x1 Z1 Q := by
    intro m
    induction m with
    | zero =>
      intro t w x1 Z1 τ r hw ht hr hX hL hR hs h46 h47 ho
      have o1 := o.xs hX (by omega)
      have oc1 := oc.xs hX (by omega)
      have e2 : Z1 s 2 = P := by rw [hs]; exact hP
      refine b_X9_solve_9 o1 oc1 ?_
      rw [e2]
      have ht' : t = (P + 1).toNat := by omega
      rw [ht'] at hR hs h46 h47
      exact ⟨⟨by omega, by omega⟩, ⟨by omega, by omega⟩, fun _ => h x1 Z1 τ ⟨hX, hL, hR, hs, fun j hj => h46 j (by omega), h47, ho⟩, fun c2 => by omega⟩
    | succ m ih =>
      intro t w x1 Z1 τ r hw ht hr hX hL hR hs h46 h47 ho
      have o1 := o.xs hX (by omega)
      have oc1 := oc.xs hX (by omega)
      have e2 : Z1 s 2 = P := by rw [hs]; exact hP
      have e9 : Z1 s 9 = (u : Int) := by rw [hs]; exact hu.1
      have e1 : Z1 s 1 = ((W t).2.2.2.2 : Int) := by rw [hs]; rfl
      have ec : Z1 c 2 = (g : Int) := by rw [ho c (by omega)]; exact hg.1
      have hFA : FA Z1 (c + 1) p := by
        unfold FA
        rw [ho (c + 1) (by omega), ho (c + 1 + 1) (by omega), ho (c + 1 + 2) (by omega)]; exact hf
      have hIt := hI t
      have ht1 := hWs t
      have hmod : Int.tmod w 2 = ((t % 2 : Nat) : Int) := by rw [hw, Int.tmod_eq_emod_of_nonneg (by omega)]; omega
      -- behind a column
      have nxt : ∀ (x2 : Wx) (Z2 : Zt) (τ2 : Nat → Nat) (r2 : Int), r2 = ((W (t + 1)).2.1 : Int) → Xs x x2 (s + 5) → LnA x2 s τ2 → (∀ i : Nat, i < u → ∀ j : Nat, j < 90 → Z2 (s + 6 + τ2 i) j = (W (t + 1)).1 i j) → Z2 s = (fun i => if i = 1 then ((W (t + 1)).2.2.2.2 : Int) else Z s i) → (∀ j : Nat, j < t + 1 → Z2 (s + 46) j = (W (t + 1)).2.2.1 j) → (∀ i : Nat, i < (W (t + 1)).2.2.2.2 → Z2 (s + 47) i = (W (t + 1)).2.2.2.1 i) → Oth Z Z2 (fun b => b = s ∨ (s + 6 ≤ b ∧ b < s + 48)) → V mX9_solve k n 106 [some (r_ s), some (r_ c), some (i_ r2), some (i_ w)] [] x2 Z2 Q := fun x2 Z2 τ2 r2 g1 g2 g3 g4 g5 g6 g7 g8 => b_X9_solve_106 (ih (t + 1) (w + 1) x2 Z2 τ2 r2 (by omega) (by omega) g1 g2 g3 g4 g5 g6 g7 g8)
      have hpvu : ∀ (f : Nat → Int) (v : Int), (∀ j : Nat, j < t → f j = (W t).2.2.1 j) → ∀ j : Nat, j < t + 1 → (if j = t then v else f j) = upf (W t).2.2.1 t v j := fun f v hh j hj => by
        unfold upf
        by_cases cj : j = t
        · rw [if_pos cj, if_pos cj]
        · rw [if_neg cj, if_neg cj]; exact hh j (by omega)
      have go47 : ¬ (t % 2 = 1 ∧ t < 2 * g + 1) → V mX9_solve k n 47 [some (r_ s), some (r_ c), some (i_ r), some (i_ w)] [] x1 Z1 Q := fun hnm => by
        have hrt : r.toNat = (W t).2.1 := by omega
        have hfe : fstL (fun i j => Z1 (s + 6 + τ i) j) t (u - (W t).2.1) (W t).2.1 = fstL (W t).1 t (u - (W t).2.1) (W t).2.1 := fstL_ext (fun i h1 h2 => hR i (by omega) t (by omega))
        refine b_X9_solve_47 o1 ⟨τ, u, hL, ⟨e9, hu.2⟩, ⟨by omega, by omega⟩, ⟨by omega, by have := hIt.2.1; omega⟩, fun i hi j hj => ?_, fun x2 r2 hx2 => ?_⟩
        · rw [hR i hi j hj]; have := hIt.1 i hi j hj; exact ⟨by omega, by omega⟩
        rw [show Int.toNat w = t by omega, show Int.toNat r = (W t).2.1 from hrt, hfe] at hx2
        rw [show w.toNat = t by omega]
        have hX2 : Xs x x2 (s + 5) := by
          rcases hx2 with ⟨_, _, e⟩ | ⟨l, _, _, e⟩
          · rw [e]; exact hX
          · rw [e]; exact hX.tr (swX_s _ _ _ _ _)
        have o2 := o.xs hX2 (by omega)
        have oc2 := oc.xs hX2 (by omega)
        refine ⟨o2, oc2, ?_, fun c3 => ?_, fun c3 => ?_⟩
        · rcases hx2 with ⟨e, _, _⟩ | ⟨l, e, _, _⟩
          · rw [e]; exact ⟨by decide, by decide⟩
          · rw [e]; exact ⟨by decide, by decide⟩
        · rcases hx2 with ⟨_, hn, ex⟩ | ⟨l, e, _, _⟩
          · rw [slvS_n hnm hn] at ht1
            refine ⟨by omega, by omega, fun Z2 e2' => ?_⟩
            have e21 : Z2 s 1 = ((W t).2.2.2.2 : Int) := by rw [e2', up_row _ _ _ _ _ (by omega)]; exact e1
            rw [e21, Int.toNat_natCast]
            have hd3 := hIt.2.2.1
            refine ⟨by omega, by omega, fun Z3 e3 Z4 e4 => ?_⟩
            have e31 : Z3 s 1 = ((W t).2.2.2.2 : Int) := by rw [e3, up_row _ _ _ _ _ (by omega)]; exact e21
            refine nxt x2 Z4 τ r ?_ hX2 (by rw [ex]; exact hL) (fun i hi j hj => ?_) (funext fun i => ?_) (fun j hj => ?_) (fun i hi => ?_) (fun b hb => ?_)
            · rw [ht1]; exact hr
            · have := (hL.1 i (by omega)).2
              rw [e4, up_row _ _ _ _ _ (by omega), e3, up_row _ _ _ _ _ (by omega), e2', up_row _ _ _ _ _ (by omega), ht1]; exact hR i hi j hj
            · rw [e4, up_at, e31, ht1]
              by_cases ci : i = 1
              · rw [if_pos ci, if_pos ci]; rfl
              · rw [if_neg ci, if_neg ci, e3, up_row _ _ _ _ _ (by omega), e2', up_row _ _ _ _ _ (by omega), hs]
                exact if_neg ci
            · rw [e4, up_row _ _ _ _ _ (by omega), e3, up_row _ _ _ _ _ (by omega), e2', up_at, ht1]
              exact hpvu _ _ h46 j hj
            · rw [ht1] at hi ⊢
              have hi' : i < (W t).2.2.2.2 + 1 := hi
              rw [e4, up_row _ _ _ _ _ (by omega), e3, up_at]
              show _ = upf (W t).2.2.2.1 (W t).2.2.2.2 t i
              unfold upf
              by_cases ci : i = (W t).2.2.2.2
              · rw [if_pos ci, if_pos ci, hw]
              · rw [if_neg ci, if_neg ci, e2', up_row _ _ _ _ _ (by omega)]; exact h47 i (by omega)
            · rw [e4, up_row _ _ _ _ _ (fun e => hb (by omega)), e3, up_row _ _ _ _ _ (fun e => hb (by omega)), e2', up_row _ _ _ _ _ (fun e => hb (by omega))]; exact ho b hb
          · omega
        · rcases hx2 with ⟨e, _, _⟩ | ⟨l, _, hsl, ex⟩
          · omega
          · have hlb := fstL_some hsl
            rw [slvS_s hnm hsl] at ht1
            have hL2 : LnA x2 s (swp τ l (W t).2.1) := by rw [ex]; exact hL.swap (by omega) (by omega)
            refine ⟨by omega, by omega, fun Z2 e2' => ?_⟩
            have hRs : ∀ i : Nat, i < u → ∀ j : Nat, j < 90 → Z2 (s + 6 + swp τ l (W t).2.1 i) j = swM (W t).1 l (W t).2.1 i j := fun i hi j hj => by
              have := (hL2.1 i (by omega)).2
              rw [e2', up_row _ _ _ _ _ (by omega)]
              unfold swp swM
              by_cases ci : i = (W t).2.1
              · rw [if_pos ci, if_pos ci]; exact hR l (by omega) j hj
              · rw [if_neg ci, if_neg ci]
                by_cases cl : i = l
                · rw [if_pos cl, if_pos cl]; exact hR _ (by omega) j hj
                · rw [if_neg cl, if_neg cl]; exact hR i hi j hj
            have hsr : ∀ i : Nat, i < u → ∀ j : Nat, j < 90 → 0 ≤ swM (W t).1 l (W t).2.1 i j ∧ swM (W t).1 l (W t).2.1 i j < p := fun i hi j hj => by
              unfold swM
              split
              · exact hIt.1 l (by omega) j hj
              · split
                · exact hIt.1 _ (by omega) j hj
                · exact hIt.1 i hi j hj
            refine ⟨p, swp τ l (W t).2.1, u, P.toNat, hp, ?_, hL2, ⟨?_, hu.2⟩, ⟨?_, by omega⟩, ⟨by omega, by omega⟩, ⟨by omega, by omega⟩, fun i hi j hj => ?_, ?_, by omega, fun Z3 hz3 => ?_⟩
            · unfold FA
              rw [e2', up_row _ _ _ _ _ (by omega), up_row _ _ _ _ _ (by omega), up_row _ _ _ _ _ (by omega)]; exact hFA
            · rw [e2', up_row _ _ _ _ _ (by omega)]; exact e9
            · rw [e2', up_row _ _ _ _ _ (by omega), e2]; omega
            · rw [hRs i hi j hj]; exact hsr i hi j hj
            · rw [show Int.toNat r = (W t).2.1 from hrt, hRs _ (by omega) _ (by omega)]
              unfold swM
              rw [if_pos rfl]; exact hlb.2.2
            · rw [show Int.toNat r = (W t).2.1 from hrt] at hz3
              refine nxt x2 Z3 (swp τ l (W t).2.1) (r + 1) ?_ hX2 hL2 (fun i hi j hj => ?_) (funext fun i => ?_) (fun j hj => ?_) (fun i hi => ?_) (fun b hb => ?_)
              · rw [ht1, hr]; rfl
              · rw [hz3.1 i (by omega) j hj, ht1]
                exact clrM_ext hi (by omega) (by omega) hj (fun i j hi hj => hRs i hi j hj)
              · rw [hz3.2 s (by omega), e2', up_row _ _ _ _ _ (by omega), ht1, hs]
              · rw [hz3.2 (s + 46) (by omega), e2', up_at, ht1, hr]
                exact hpvu _ _ h46 j hj
              · rw [ht1] at hi ⊢
                rw [hz3.2 (s + 47) (by omega), e2', up_row _ _ _ _ _ (by omega)]; exact h47 i hi
              · rw [hz3.2 b (by omega), e2', up_row _ _ _ _ _ (fun e => hb (by omega))]; exact ho b hb
      refine b_X9_solve_9 o1 oc1 ?_
      rw [e2, ec, hmod]
      refine ⟨⟨by omega, by omega⟩, ⟨by omega, by omega⟩, fun c2 => by omega, fun _ => ⟨⟨by omega, by omega⟩, fun c3 => go47 (by omega), fun c3 => ⟨⟨by omega, by omega⟩, fun c4 => go47 (by omega), fun c4 => ⟨by omega, by omega, fun Z2 e2' => ?_⟩⟩⟩⟩
      rw [slvS_m (by omega)] at ht1
      refine nxt x1 Z2 τ r ?_ hX hL (fun i hi j hj => ?_) ?_ (fun j hj => ?_) (fun i hi => ?_) (fun b hb => ?_)
      · rw [ht1]; exact hr
      · have := (hL.1 i (by omega)).2
        rw [e2', up_row _ _ _ _ _ (by omega), ht1]; exact hR i hi j hj
      · rw [e2', up_row _ _ _ _ _ (by omega), ht1]; exact hs
      · rw [e2', show w.toNat = t by omega, up_at, ht1]; exact hpvu _ _ h46 j hj
      · rw [ht1] at hi ⊢
        rw [e2', up_row _ _ _ _ _ (by omega)]; exact h47 i hi
      · rw [e2', up_row _ _ _ _ _ (fun e => hb (by omega))]; exact ho b hb
  refine b_X9_solve_0 o fun Z1 e1 => lp (P + 1).toNat 0 0 x Z1 σ 0 rfl (by omega) (by rw [hW0]; rfl) Xs.rf hσ (fun i hi j hj => ?_) (funext fun i => ?_) (fun j hj => by omega) (fun i hi => ?_) (fun b hb => ?_)
  · have := (hσ.1 i (by omega)).2
    rw [e1, up_row _ _ _ _ _ (by omega), hW0]; exact hMe i hi j hj
  · rw [e1, up_at, hW0]
    by_cases ci : i = 1
    · rw [if_pos ci, if_pos ci]; rfl
    · rw [if_neg ci, if_neg ci]
  · rw [hW0] at hi; exact absurd hi (Nat.not_lt_zero i)
  · rw [e1, up_row _ _ _ _ _ (fun e => hb (Or.inl e))]
