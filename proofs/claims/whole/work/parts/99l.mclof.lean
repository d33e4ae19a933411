/-! ===== the reference: the class of a sum ===== -/
theorem dX12_classOf_0 : decode cX12_classOf 0 = .ok (.aload_n 0, 1) := by decide +kernel
theorem dX12_classOf_1 : decode cX12_classOf 1 = .ok (.sipush 2930, 3) := by decide +kernel
theorem dX12_classOf_4 : decode cX12_classOf 4 = .ok (.invokevirtual 360, 3) := by decide +kernel
theorem dX12_classOf_7 : decode cX12_classOf 7 = .ok (.iconst 0, 1) := by decide +kernel
theorem dX12_classOf_8 : decode cX12_classOf 8 = .ok (.istore_n 2, 1) := by decide +kernel
theorem dX12_classOf_9 : decode cX12_classOf 9 = .ok (.iload_n 2, 1) := by decide +kernel
theorem dX12_classOf_10 : decode cX12_classOf 10 = .ok (.aload_n 0, 1) := by decide +kernel
theorem dX12_classOf_11 : decode cX12_classOf 11 = .ok (.getfield 179, 3) := by decide +kernel
theorem dX12_classOf_14 : decode cX12_classOf 14 = .ok (.if_icmp .ge 115, 3) := by decide +kernel
theorem dX12_classOf_17 : decode cX12_classOf 17 = .ok (.iconst 0, 1) := by decide +kernel
theorem dX12_classOf_18 : decode cX12_classOf 18 = .ok (.istore_n 3, 1) := by decide +kernel
theorem dX12_classOf_19 : decode cX12_classOf 19 = .ok (.iload_n 3, 1) := by decide +kernel
theorem dX12_classOf_20 : decode cX12_classOf 20 = .ok (.aload_n 0, 1) := by decide +kernel
theorem dX12_classOf_21 : decode cX12_classOf 21 = .ok (.getfield 179, 3) := by decide +kernel
theorem dX12_classOf_24 : decode cX12_classOf 24 = .ok (.if_icmp .ge 99, 3) := by decide +kernel
theorem dX12_classOf_27 : decode cX12_classOf 27 = .ok (.aload_n 0, 1) := by decide +kernel
theorem dX12_classOf_28 : decode cX12_classOf 28 = .ok (.getfield 39, 3) := by decide +kernel
theorem dX12_classOf_31 : decode cX12_classOf 31 = .ok (.bipush 13, 2) := by decide +kernel
theorem dX12_classOf_33 : decode cX12_classOf 33 = .ok (.iload_n 2, 1) := by decide +kernel
theorem dX12_classOf_34 : decode cX12_classOf 34 = .ok (.imul, 1) := by decide +kernel
theorem dX12_classOf_35 : decode cX12_classOf 35 = .ok (.iload_n 3, 1) := by decide +kernel
theorem dX12_classOf_36 : decode cX12_classOf 36 = .ok (.iadd, 1) := by decide +kernel
theorem dX12_classOf_37 : decode cX12_classOf 37 = .ok (.iaload, 1) := by decide +kernel
theorem dX12_classOf_38 : decode cX12_classOf 38 = .ok (.ifCond .ne 6, 3) := by decide +kernel
theorem dX12_classOf_41 : decode cX12_classOf 41 = .ok (.goto 76, 3) := by decide +kernel
theorem dX12_classOf_44 : decode cX12_classOf 44 = .ok (.aload_n 0, 1) := by decide +kernel
theorem dX12_classOf_45 : decode cX12_classOf 45 = .ok (.sipush 2925, 3) := by decide +kernel
theorem dX12_classOf_48 : decode cX12_classOf 48 = .ok (.invokevirtual 360, 3) := by decide +kernel
theorem dX12_classOf_51 : decode cX12_classOf 51 = .ok (.aload_n 0, 1) := by decide +kernel
theorem dX12_classOf_52 : decode cX12_classOf 52 = .ok (.getfield 69, 3) := by decide +kernel
theorem dX12_classOf_55 : decode cX12_classOf 55 = .ok (.sipush 2925, 3) := by decide +kernel
theorem dX12_classOf_58 : decode cX12_classOf 58 = .ok (.iconst 1, 1) := by decide +kernel
theorem dX12_classOf_59 : decode cX12_classOf 59 = .ok (.iastore, 1) := by decide +kernel
theorem dX12_classOf_60 : decode cX12_classOf 60 = .ok (.aload_n 0, 1) := by decide +kernel
theorem dX12_classOf_61 : decode cX12_classOf 61 = .ok (.getfield 69, 3) := by decide +kernel
theorem dX12_classOf_64 : decode cX12_classOf 64 = .ok (.sipush 2926, 3) := by decide +kernel
theorem dX12_classOf_67 : decode cX12_classOf 67 = .ok (.aload_n 0, 1) := by decide +kernel
theorem dX12_classOf_68 : decode cX12_classOf 68 = .ok (.iload_n 2, 1) := by decide +kernel
theorem dX12_classOf_69 : decode cX12_classOf 69 = .ok (.ineg, 1) := by decide +kernel
theorem dX12_classOf_70 : decode cX12_classOf 70 = .ok (.invokevirtual 182, 3) := by decide +kernel
theorem dX12_classOf_73 : decode cX12_classOf 73 = .ok (.iastore, 1) := by decide +kernel
theorem dX12_classOf_74 : decode cX12_classOf 74 = .ok (.aload_n 0, 1) := by decide +kernel
theorem dX12_classOf_75 : decode cX12_classOf 75 = .ok (.getfield 69, 3) := by decide +kernel
theorem dX12_classOf_78 : decode cX12_classOf 78 = .ok (.sipush 2928, 3) := by decide +kernel
theorem dX12_classOf_81 : decode cX12_classOf 81 = .ok (.iload_n 3, 1) := by decide +kernel
theorem dX12_classOf_82 : decode cX12_classOf 82 = .ok (.iastore, 1) := by decide +kernel
theorem dX12_classOf_83 : decode cX12_classOf 83 = .ok (.aload_n 0, 1) := by decide +kernel
theorem dX12_classOf_84 : decode cX12_classOf 84 = .ok (.sipush 2925, 3) := by decide +kernel
theorem dX12_classOf_87 : decode cX12_classOf 87 = .ok (.aload_n 0, 1) := by decide +kernel
theorem dX12_classOf_88 : decode cX12_classOf 88 = .ok (.getfield 39, 3) := by decide +kernel
theorem dX12_classOf_91 : decode cX12_classOf 91 = .ok (.bipush 13, 2) := by decide +kernel
theorem dX12_classOf_93 : decode cX12_classOf 93 = .ok (.iload_n 2, 1) := by decide +kernel
theorem dX12_classOf_94 : decode cX12_classOf 94 = .ok (.imul, 1) := by decide +kernel
theorem dX12_classOf_95 : decode cX12_classOf 95 = .ok (.iload_n 3, 1) := by decide +kernel
theorem dX12_classOf_96 : decode cX12_classOf 96 = .ok (.iadd, 1) := by decide +kernel
theorem dX12_classOf_97 : decode cX12_classOf 97 = .ok (.iaload, 1) := by decide +kernel
theorem dX12_classOf_98 : decode cX12_classOf 98 = .ok (.sipush 2935, 3) := by decide +kernel
theorem dX12_classOf_101 : decode cX12_classOf 101 = .ok (.invokevirtual 384, 3) := by decide +kernel
theorem dX12_classOf_104 : decode cX12_classOf 104 = .ok (.aload_n 0, 1) := by decide +kernel
theorem dX12_classOf_105 : decode cX12_classOf 105 = .ok (.sipush 2930, 3) := by decide +kernel
theorem dX12_classOf_108 : decode cX12_classOf 108 = .ok (.sipush 2935, 3) := by decide +kernel
theorem dX12_classOf_111 : decode cX12_classOf 111 = .ok (.sipush 2930, 3) := by decide +kernel
theorem dX12_classOf_114 : decode cX12_classOf 114 = .ok (.invokevirtual 381, 3) := by decide +kernel
theorem dX12_classOf_117 : decode cX12_classOf 117 = .ok (.iinc 3 1, 3) := by decide +kernel
theorem dX12_classOf_120 : decode cX12_classOf 120 = .ok (.goto (-101), 3) := by decide +kernel
theorem dX12_classOf_123 : decode cX12_classOf 123 = .ok (.iinc 2 1, 3) := by decide +kernel
theorem dX12_classOf_126 : decode cX12_classOf 126 = .ok (.goto (-117), 3) := by decide +kernel
theorem dX12_classOf_129 : decode cX12_classOf 129 = .ok (.aload_n 0, 1) := by decide +kernel
theorem dX12_classOf_130 : decode cX12_classOf 130 = .ok (.sipush 2930, 3) := by decide +kernel
theorem dX12_classOf_133 : decode cX12_classOf 133 = .ok (.iload_n 1, 1) := by decide +kernel
theorem dX12_classOf_134 : decode cX12_classOf 134 = .ok (.invokevirtual 375, 3) := by decide +kernel
theorem dX12_classOf_137 : decode cX12_classOf 137 = .ok (.return_, 1) := by decide +kernel
set_option maxRecDepth 20000 in
theorem b_X12_classOf_0 {k n : Nat} {x : Wx} {Z : Zt} {Q : Option Value → Wx → Zt → Prop} {a0 : Nat} {v1 : Int} (o_a0 : Is12 x a0)
    (h : (0 ≤ (2930 : Int) ∧ (2930 : Int) ≤ 2995) ∧ (∀ (Z'1 : Zt), ((∀ i : Nat, i < 5 → Z'1 (a0 + 20) ((2930 : Int).toNat + i) = 0) ∧ KF a0 (2930 : Int).toNat Z Z'1) → (V mX12_classOf k n 9 [some (r_ a0), some (i_ v1), some (i_ 0), none] [] x Z'1 Q))) :
    V mX12_classOf k n 0 [some (r_ a0), some (i_ v1), none, none] [] x Z Q :=
  V_aload_n dX12_classOf_0 rfl (V_sipush dX12_classOf_1 rfl (V_callV (k' := 0) (n' := 0) (t := 12) (q := (RX12, TX12, 46)) [i_ 2930] [] okX12_noClass o_a0.1 rfl rfl lm_12_360 liX12_noClass lqX12_noClass (Nat.le_of_ble_eq_true rfl) (Nat.le_of_ble_eq_true rfl) (Nat.le_of_ble_eq_true rfl) (cat_of rfl) (Nat.le_of_ble_eq_true rfl) (Nat.zero_le _) (Nat.zero_le _) rfl dX12_classOf_4 (sp_X12_noClass o_a0 h.1 (fun Z'1 p1 => V_iconst dX12_classOf_7 (V_istore_n (lv' := [some (r_ a0), some (i_ v1), some (i_ 0), none]) dX12_classOf_8 (Nat.le_of_ble_eq_true rfl) rfl (V_msk [true, true, true, false] rfl (h.2 Z'1 p1)))))))
set_option maxRecDepth 20000 in
theorem b_X12_classOf_9 {k n : Nat} {x : Wx} {Z : Zt} {Q : Option Value → Wx → Zt → Prop} {a0 : Nat} {v1 : Int} {v2 : Int} (o_a0 : Is12 x a0)
    (h : Rg v2 ∧ Rg (Z a0 11) ∧ (((Z a0 11 ≤ v2) → (∃ g1 : UV, (((0 ≤ (2930 : Int) ∧ (2930 : Int) ≤ 2995) ∧ (0 ≤ v1 ∧ v1 ≤ 2995) ∧ ((2930 : Int) + 5 ≤ v1 ∨ v1 + 5 ≤ (2930 : Int))) ∧ KC Z a0 (2930 : Int).toNat g1 ∧ (∀ (Z'1 : Zt), (KC Z'1 a0 v1.toNat g1 ∧ KF a0 v1.toNat Z Z'1) → (Q none x Z'1))))) ∧ ((v2 < Z a0 11) → (V mX12_classOf k n 19 [some (r_ a0), some (i_ v1), some (i_ v2), some (i_ 0)] [] x Z Q)))) :
    V mX12_classOf k n 9 [some (r_ a0), some (i_ v1), some (i_ v2), none] [] x Z Q :=
  V_iload_n dX12_classOf_9 rfl (V_aload_n dX12_classOf_10 rfl (G_12_11 o_a0.1 lf_12_179 dX12_classOf_11 (V_icmp_ge (tgt := 129) dX12_classOf_14 rfl h.1 h.2.1 (fun c1 => V_aload_n dX12_classOf_129 rfl (V_sipush dX12_classOf_130 rfl (V_iload_n dX12_classOf_133 rfl (Exists.elim (h.2.2.1 c1) (fun g1 w1 => V_callV (k' := 0) (n' := 0) (t := 12) (q := (RX12, TX12, 46)) [i_ 2930, i_ v1] [] okX12_copiesClass o_a0.1 rfl rfl lm_12_375 liX12_copiesClass lqX12_copiesClass (Nat.le_of_ble_eq_true rfl) (Nat.le_of_ble_eq_true rfl) (Nat.le_of_ble_eq_true rfl) (cat_of rfl) (Nat.le_of_ble_eq_true rfl) (Nat.zero_le _) (Nat.zero_le _) rfl dX12_classOf_134 (sp_X12_copiesClass o_a0 w1.1 w1.2.1 (fun Z'1 p1 => V_ret dX12_classOf_137 rfl (w1.2.2 Z'1 p1)))))))) (fun c1 => V_iconst dX12_classOf_17 (V_istore_n (lv' := [some (r_ a0), some (i_ v1), some (i_ v2), some (i_ 0)]) dX12_classOf_18 (Nat.le_of_ble_eq_true rfl) rfl (V_msk [true, true, true, true] rfl (h.2.2.2 c1)))))))
set_option maxRecDepth 20000 in
theorem b_X12_classOf_19 {k n : Nat} {x : Wx} {Z : Zt} {Q : Option Value → Wx → Zt → Prop} {a0 : Nat} {v1 : Int} {v2 : Int} {v3 : Int} (o_a0 : Is12 x a0)
    (h : Rg v3 ∧ Rg (Z a0 11) ∧ (((Z a0 11 ≤ v3) → (V mX12_classOf k n 9 [some (r_ a0), some (i_ v1), some (i_ (v2 + 1)), none] [] x Z Q)) ∧ ((v3 < Z a0 11) → (0 ≤ (13 * v2) + v3 ∧ (13 * v2) + v3 < 169 ∧ (Rg (Z (a0 + 10) ((13 * v2) + v3).toNat) ∧ (((Z (a0 + 10) ((13 * v2) + v3).toNat ≠ 0) → ((0 ≤ (2925 : Int) ∧ (2925 : Int) ≤ 2995) ∧ (∀ (Z'1 : Zt), ((∀ i : Nat, i < 5 → Z'1 (a0 + 20) ((2925 : Int).toNat + i) = 0) ∧ KF a0 (2925 : Int).toNat Z Z'1) → (∀ Z1 : Zt, Z1 = up Z'1 (a0 + 20) 2925 1 → (Rg (-v2) ∧ 0 < Z1 a0 11 ∧ Z1 a0 11 ≤ 13 ∧ (∀ Z2 : Zt, Z2 = up Z1 (a0 + 20) 2926 ((-v2) % Z1 a0 11) → (∀ Z3 : Zt, Z3 = up Z2 (a0 + 20) 2928 v3 → (∃ g1 : Int, (∃ g2 : Nat → Int, (∃ g3 : UV, (MF Z3 a0 g1 g2 ∧ RP g1 (gen g2) g3 ∧ KC Z3 a0 (2925 : Int).toNat g3 ∧ ((0 ≤ (2925 : Int) ∧ ((2925 : Int) + 5 ≤ 2915 ∨ 2925 ≤ (2925 : Int)) ∧ (2925 : Int) ≤ 2995) ∧ (0 ≤ (2935 : Int) ∧ ((2935 : Int) + 5 ≤ 2915 ∨ 2925 ≤ (2935 : Int)) ∧ (2935 : Int) ≤ 2995)) ∧ (-2000 ≤ (Z3 (a0 + 10) ((13 * v2) + v3).toNat) ∧ (Z3 (a0 + 10) ((13 * v2) + v3).toNat) ≤ 2000) ∧ (∀ (Z'2 : Zt), (KC Z'2 a0 (2935 : Int).toNat (tmT g1 g2 g3 (Z3 (a0 + 10) ((13 * v2) + v3).toNat)) ∧ MF Z'2 a0 g1 g2 ∧ CG a0 (TmP (2935 : Int).toNat) Z3 Z'2) → (∃ g4 : Int, (∃ g5 : Nat → Int, (∃ g6 : UV, (∃ g7 : UV, (MF Z'2 a0 g4 g5 ∧ (RP g4 (gen g5) g6 ∧ RP g4 (gen g5) g7) ∧ (((0 ≤ (2930 : Int) ∧ (2930 : Int) ≤ 2995) ∧ (0 ≤ (2935 : Int) ∧ (2935 : Int) ≤ 2995)) ∧ (0 ≤ (2930 : Int) ∧ (2930 : Int) ≤ 2995)) ∧ (KC Z'2 a0 (2930 : Int).toNat g6 ∧ KC Z'2 a0 (2935 : Int).toNat g7) ∧ (∀ (Z'3 : Zt), (KC Z'3 a0 (2930 : Int).toNat (cplus g4 g5 (gen g5) g6 g7) ∧ MF Z'3 a0 g4 g5 ∧ TgF a0 (2930 : Int).toNat Z'2 Z'3) → (V mX12_classOf k n 117 [some (r_ a0), some (i_ v1), some (i_ v2), some (i_ v3)] [] x Z'3 Q))))))))))))))))))) ∧ ((Z (a0 + 10) ((13 * v2) + v3).toNat = 0) → (V mX12_classOf k n 117 [some (r_ a0), some (i_ v1), some (i_ v2), some (i_ v3)] [] x Z Q)))))))) :
    V mX12_classOf k n 19 [some (r_ a0), some (i_ v1), some (i_ v2), some (i_ v3)] [] x Z Q :=
  V_iload_n dX12_classOf_19 rfl (V_aload_n dX12_classOf_20 rfl (G_12_11 o_a0.1 lf_12_179 dX12_classOf_21 (V_icmp_ge (tgt := 123) dX12_classOf_24 rfl h.1 h.2.1 (fun c1 => V_iinc (lv' := [some (r_ a0), some (i_ v1), some (i_ (v2 + 1)), some (i_ v3)]) dX12_classOf_123 rfl (Nat.le_of_ble_eq_true rfl) rfl (V_goto (tgt := 9) dX12_classOf_126 rfl (V_msk [true, true, true, false] rfl (h.2.2.1 c1)))) (fun c1 => V_aload_n dX12_classOf_27 rfl (G_12_19 o_a0.1 o_a0.qR19 lf_12_39 dX12_classOf_28 (V_bipush dX12_classOf_31 rfl (V_iload_n dX12_classOf_33 rfl (V_imul dX12_classOf_34 (V_iload_n dX12_classOf_35 rfl (V_iadd dX12_classOf_36 (V_iald (t := 100) o_a0.qK19 (by decide) rfl (h.2.2.2 c1).1 (h.2.2.2 c1).2.1 (Nat.le_of_ble_eq_true rfl) dX12_classOf_37 (V_if_ne (tgt := 44) dX12_classOf_38 rfl (h.2.2.2 c1).2.2.1 (fun c2 => V_aload_n dX12_classOf_44 rfl (V_sipush dX12_classOf_45 rfl (V_callV (k' := 0) (n' := 0) (t := 12) (q := (RX12, TX12, 46)) [i_ 2925] [] okX12_noClass o_a0.1 rfl rfl lm_12_360 liX12_noClass lqX12_noClass (Nat.le_of_ble_eq_true rfl) (Nat.le_of_ble_eq_true rfl) (Nat.le_of_ble_eq_true rfl) (cat_of rfl) (Nat.le_of_ble_eq_true rfl) (Nat.zero_le _) (Nat.zero_le _) rfl dX12_classOf_48 (sp_X12_noClass o_a0 ((h.2.2.2 c1).2.2.2.1 c2).1 (fun Z'1 p1 => V_aload_n dX12_classOf_51 rfl (G_12_34 o_a0.1 o_a0.qR34 lf_12_69 dX12_classOf_52 (V_sipush dX12_classOf_55 rfl (V_iconst dX12_classOf_58 (V_iast (t := 100) o_a0.qK34 (by decide) (by decide) rfl (by decide) (by decide) (Nat.le_of_ble_eq_true rfl) dX12_classOf_59 (V_nmZ (fun Z1 eZ1 => V_aload_n dX12_classOf_60 rfl (G_12_34 o_a0.1 o_a0.qR34 lf_12_69 dX12_classOf_61 (V_sipush dX12_classOf_64 rfl (V_aload_n dX12_classOf_67 rfl (V_iload_n dX12_classOf_68 rfl (V_ineg dX12_classOf_69 (V_callV (k' := 0) (n' := 0) (t := 12) (q := (RX12, TX12, 46)) [i_ (-v2)] [i_ 2926, r_ (a0 + 20)] okX12_mod o_a0.1 rfl rfl lm_12_182 liX12_mod lqX12_mod (Nat.le_of_ble_eq_true rfl) (Nat.le_of_ble_eq_true rfl) (Nat.le_of_ble_eq_true rfl) (cat_of rfl) (Nat.le_of_ble_eq_true rfl) (Nat.zero_le _) (Nat.zero_le _) rfl dX12_classOf_70 (sp_X12_mod o_a0 ((((h.2.2.2 c1).2.2.2.1 c2).2 Z'1 p1) Z1 eZ1).1 ((((h.2.2.2 c1).2.2.2.1 c2).2 Z'1 p1) Z1 eZ1).2.1 ((((h.2.2.2 c1).2.2.2.1 c2).2 Z'1 p1) Z1 eZ1).2.2.1 (V_iast (t := 100) o_a0.qK34 (by decide) (by decide) rfl (by decide) (by decide) (Nat.le_of_ble_eq_true rfl) dX12_classOf_73 (V_nmZ (fun Z2 eZ2 => V_aload_n dX12_classOf_74 rfl (G_12_34 o_a0.1 o_a0.qR34 lf_12_69 dX12_classOf_75 (V_sipush dX12_classOf_78 rfl (V_iload_n dX12_classOf_81 rfl (V_iast (t := 100) o_a0.qK34 (by decide) (by decide) rfl (by decide) (by decide) (Nat.le_of_ble_eq_true rfl) dX12_classOf_82 (V_nmZ (fun Z3 eZ3 => V_aload_n dX12_classOf_83 rfl (V_sipush dX12_classOf_84 rfl (V_aload_n dX12_classOf_87 rfl (G_12_19 o_a0.1 o_a0.qR19 lf_12_39 dX12_classOf_88 (V_bipush dX12_classOf_91 rfl (V_iload_n dX12_classOf_93 rfl (V_imul dX12_classOf_94 (V_iload_n dX12_classOf_95 rfl (V_iadd dX12_classOf_96 (V_iald (t := 100) o_a0.qK19 (by decide) rfl (h.2.2.2 c1).1 (h.2.2.2 c1).2.1 (Nat.le_of_ble_eq_true rfl) dX12_classOf_97 (V_sipush dX12_classOf_98 rfl (Exists.elim ((((((h.2.2.2 c1).2.2.2.1 c2).2 Z'1 p1) Z1 eZ1).2.2.2 Z2 eZ2) Z3 eZ3) (fun g1 w1 => Exists.elim w1 (fun g2 w2 => Exists.elim w2 (fun g3 w3 => V_callV (k' := 0) (n' := 0) (t := 12) (q := (RX12, TX12, 46)) [i_ 2925, i_ (Z3 (a0 + 10) ((13 * v2) + v3).toNat), i_ 2935] [] okX12_timesOf o_a0.1 rfl rfl lm_12_384 liX12_timesOf lqX12_timesOf (Nat.le_of_ble_eq_true rfl) (Nat.le_of_ble_eq_true rfl) (Nat.le_of_ble_eq_true rfl) (cat_of rfl) (Nat.le_of_ble_eq_true rfl) (Nat.zero_le _) (Nat.zero_le _) rfl dX12_classOf_101 (sp_X12_timesOf o_a0 w3.1 w3.2.1 w3.2.2.1 w3.2.2.2.1 w3.2.2.2.2.1 (fun Z'2 p2 => V_aload_n dX12_classOf_104 rfl (V_sipush dX12_classOf_105 rfl (V_sipush dX12_classOf_108 rfl (V_sipush dX12_classOf_111 rfl (Exists.elim (w3.2.2.2.2.2 Z'2 p2) (fun g4 w4 => Exists.elim w4 (fun g5 w5 => Exists.elim w5 (fun g6 w6 => Exists.elim w6 (fun g7 w7 => V_callV (k' := 0) (n' := 0) (t := 12) (q := (RX12, TX12, 46)) [i_ 2930, i_ 2935, i_ 2930] [] okX12_together o_a0.1 rfl rfl lm_12_381 liX12_together lqX12_together (Nat.le_of_ble_eq_true rfl) (Nat.le_of_ble_eq_true rfl) (Nat.le_of_ble_eq_true rfl) (cat_of rfl) (Nat.le_of_ble_eq_true rfl) (Nat.zero_le _) (Nat.zero_le _) rfl dX12_classOf_114 (sp_X12_together o_a0 w7.1 w7.2.1 w7.2.2.1 w7.2.2.2.1 (fun Z'3 p3 => V_msk [true, true, true, true] rfl (w7.2.2.2.2 Z'3 p3)))))))))))))))))))))))))))))))))))))))))))))))))))))) (fun c2 => V_goto (tgt := 117) dX12_classOf_41 rfl (V_msk [true, true, true, true] rfl ((h.2.2.2 c1).2.2.2.2 c2)))))))))))))))
set_option maxRecDepth 20000 in
theorem b_X12_classOf_117 {k n : Nat} {x : Wx} {Z : Zt} {Q : Option Value → Wx → Zt → Prop} {a0 : Nat} {v1 : Int} {v2 : Int} {v3 : Int} 
    (h : V mX12_classOf k n 19 [some (r_ a0), some (i_ v1), some (i_ v2), some (i_ (v3 + 1))] [] x Z Q) :
    V mX12_classOf k n 117 [some (r_ a0), some (i_ v1), some (i_ v2), some (i_ v3)] [] x Z Q :=
  V_iinc (lv' := [some (r_ a0), some (i_ v1), some (i_ v2), some (i_ (v3 + 1))]) dX12_classOf_117 rfl (Nat.le_of_ble_eq_true rfl) rfl (V_goto (tgt := 19) dX12_classOf_120 rfl (V_msk [true, true, true, true] rfl h))
def mClY (p : Int) (F O : Nat → Int) (x : Nat) : Nat → Nat → UV → UV
  | 0, _, A => A
  | m + 1, y, A => mClY p F O x m (y + 1) (if O (13 * x + y) = 0 then A else cplus p F (gen F) A (tmT p F (pnt p x y) (O (13 * x + y))))
def mClX (p : Int) (F O : Nat → Int) : Nat → Nat → UV → UV
  | 0, _, A => A
  | m + 1, x, A => mClX p F O m (x + 1) (mClY p F O x p.toNat 0 A)
/-- the class of a sum, as the reference goes -/
def mCl (p : Int) (F O : Nat → Int) : UV := mClX p F O p.toNat 0 czero
theorem mClY_ok {p : Int} {F : Nat → Int} (hC : CF p (gen F) F) (O : Nat → Int) (x : Nat) : ∀ (m y : Nat) (A : UV), RP p (gen F) A → RP p (gen F) (mClY p F O x m y A)
  | 0, _, _, h => h
  | m + 1, y, A, h => by
    have hg := hC.2.2.2.2
    unfold mClY
    refine mClY_ok hC O x m (y + 1) _ ?_
    split
    · exact h
    · exact cplus_ok hC h (tmT_ok hC (ulin_ok hC.1 (by omega) _) _)
theorem mClX_ok {p : Int} {F : Nat → Int} (hC : CF p (gen F) F) (O : Nat → Int) : ∀ (m x : Nat) (A : UV), RP p (gen F) A → RP p (gen F) (mClX p F O m x A)
  | 0, _, _, h => h
  | m + 1, x, A, h => mClX_ok hC O m (x + 1) _ (mClY_ok hC O x _ _ A h)
theorem mCl_ok {p : Int} {F : Nat → Int} (hC : CF p (gen F) F) (O : Nat → Int) : RP p (gen F) (mCl p F O) := mClX_ok hC O _ _ _ (czero_ok hC.1 (by have hg := hC.2.2.2.2; omega))
theorem MSq.cg {b : Nat} {P : Nat → Prop} {Z Z1 : Zt} {fr : Int} {O D : Nat → Int} (h : MSq Z b fr O D) (g : CG b P Z Z1) : MSq Z1 b fr O D := ⟨by rw [g.1 b (by omega) (by omega)]; exact h.1, fun j hj => by rw [g.1 _ (by omega) (by omega)]; exact h.2.1 j hj, fun j hj => by rw [g.1 _ (by omega) (by omega)]; exact h.2.2 j hj⟩
theorem CG.mq {b : Nat} {P : Nat → Prop} {Z Z1 : Zt} (h : CG b P Z Z1) : Mq b Z Z1 := ⟨h.1 _ (by omega) (by omega), h.1 _ (by omega) (by omega), fun c hc => h.1 c (by omega) (by omega)⟩
theorem kcl_pnt {p : Int} (hp : IsP p) {X Y : Int} (hY : 0 ≤ Y ∧ Y < p) : kcl (pnt p X Y) 0 = 1 ∧ kcl (pnt p X Y) 1 = (-X) % p ∧ kcl (pnt p X Y) 2 = 0 ∧ kcl (pnt p X Y) 3 = Y ∧ kcl (pnt p X Y) 4 = 0 := by
  have d1 : pd (pnt p X Y).1 = 1 := pd_eq (m := 1) (by decide) (by show (1 : Int) ≠ 0; decide) (fun i hi => by show ulin p X i = 0; unfold ulin; rw [if_neg (by omega), if_neg (by omega)])
  unfold kcl
  rw [d1]
  refine ⟨rfl, rfl, rfl, ?_, rfl⟩
  show Y % p = Y
  exact Int.emod_eq_of_lt hY.1 hY.2
def ClP (to : Nat) (i : Nat) : Prop := (i < 2915 ∨ 2940 ≤ i) ∧ (i < to ∨ to + 5 ≤ i)
theorem sp_X12_classOf {k n : Nat} {x : Wx} {Z : Zt} {Q : Option Value → Wx → Zt → Prop} {b : Nat} {e : Int} (o : Is12 x b) {p fr : Int} {F O D : Nat → Int} (hF : MF Z b p F) (hS : MSq Z b fr O D) (hO : ∀ j : Nat, j < 169 → -2000 ≤ O j ∧ O j ≤ 2000) (hc : 0 ≤ e ∧ (e + 5 ≤ 2915 ∨ 2940 ≤ e) ∧ e ≤ 2995) (h : ∀ Z' : Zt, (KC Z' b e.toNat (mCl p F O) ∧ MF Z' b p F ∧ CG b (ClP e.toNat) Z Z') → Q none x Z') : V mX12_classOf k n 0 [some (r_ b), some (i_ e), none, none] [] x Z Q := by
  have hC := hF.2.1
  have hp := hC.1
  have hpr := hp.rg
  have hgn := hC.2.2.2.2
  have cz := czero_ok (p := p) (g := gen F) hp (by omega)
  obtain ⟨e', rfl⟩ : ∃ e' : Nat, e = (e' : Int) := ⟨e.toNat, by omega⟩
  rw [Int.toNat_natCast] at h
  have t25 : (2925 : Int).toNat = 2925 := rfl
  have t30 : (2930 : Int).toNat = 2930 := rfl
  have t35 : (2935 : Int).toNat = 2935 := rfl
  let P0 : Nat → Prop := fun i => i < 2915 ∨ 2940 ≤ i
  have lpy : ∀ (X : Nat) (R : UV), (X : Int) < p → (∀ Z1 : Zt, KC Z1 b 2930 R → MF Z1 b p F → CG b P0 Z Z1 → V mX12_classOf k n 9 [some (r_ b), some (i_ (e' : Int)), some (i_ ((X : Int) + 1)), none] [] x Z1 Q) → ∀ (m y : Nat) (A : UV) (Z1 : Zt), (y + m : Int) = p → KC Z1 b 2930 A → RP p (gen F) A → MF Z1 b p F → CG b P0 Z Z1 → mClY p F O X m y A = R → V mX12_classOf k n 19 [some (r_ b), some (i_ (e' : Int)), some (i_ (X : Int)), some (i_ (y : Int))] [] x Z1 Q := by
    intro X R hX nx m
    induction m with
    | zero =>
      intro y A Z1 hy k1 rA f1 g1 he
      have e11 : Z1 b 11 = p := f1.1.1.1
      have he : A = R := he
      refine b_X12_classOf_19 o ?_
      rw [e11]
      exact ⟨⟨by omega, by omega⟩, ⟨by omega, by omega⟩, fun _ => nx Z1 (by rw [← he]; exact k1) f1 g1, fun cc => by omega⟩
    | succ m ih =>
      intro y A Z1 hy k1 rA f1 g1 he
      have e11 : Z1 b 11 = p := f1.1.1.1
      have hj : 13 * X + y < 169 := by omega
      have tj : (13 * (X : Int) + (y : Int)).toNat = 13 * X + y := by omega
      have eO : Z1 (b + 10) (13 * X + y) = O (13 * X + y) := (hS.cg g1).2.1 _ hj
      have hOj := hO _ hj
      unfold mClY at he
      refine b_X12_classOf_19 o ?_
      rw [e11, tj, eO]
      refine ⟨⟨by omega, by omega⟩, ⟨by omega, by omega⟩, fun cc => by omega, fun _ => ⟨by omega, by omega, ⟨by omega, by omega⟩, fun c0 => ⟨by decide, fun Z2 hz2 Z3 e3 => ?_⟩, fun c0 => ?_⟩⟩
      · rw [if_neg c0] at he
        have g3 : KF b 2925 Z1 Z3 := by
          have hz22 : KF b 2925 Z1 Z2 := hz2.2
          exact hz22.tr (KF.put (i := 0) (by decide) e3)
        have e113 : Z3 b 11 = p := by rw [g3.1 b (by omega)]; exact e11
        rw [e113]
        refine ⟨⟨by omega, by omega⟩, by omega, by omega, fun Z4 e4 Z5 e5 => ?_⟩
        have g5 : KF b 2925 Z1 Z5 := g3.tr ((KF.put (i := 1) (by decide) e4).tr (KF.put (i := 3) (by decide) e5))
        have f5 := f1.kf g5
        have kk := kcl_pnt hp (X := (X : Int)) (Y := (y : Int)) ⟨by omega, by omega⟩
        have k5 : KC Z5 b 2925 (pnt p (X : Int) (y : Int)) := fun i hi => by
          have z2 : Z2 (b + 20) (2925 + i) = 0 := hz2.1 i hi
          rw [e5, up_at, e4, up_at, e3, up_at]
          match i, hi with
          | 0, _ => rw [kk.1]; rfl
          | 1, _ => rw [kk.2.1]; rfl
          | 2, _ => rw [kk.2.2.1, if_neg (by decide), if_neg (by decide), if_neg (by decide)]; exact z2
          | 3, _ => rw [kk.2.2.2.1]; rfl
          | 4, _ => rw [kk.2.2.2.2, if_neg (by decide), if_neg (by decide), if_neg (by decide)]; exact z2
        have eO5 : Z5 (b + 10) (13 * X + y) = O (13 * X + y) := by rw [g5.1 _ (by omega)]; exact eO
        rw [eO5]
        have rp := ulin_ok (p := p) (g := gen F) (X := (X : Int)) hp (by omega) (y : Int)
        refine ⟨p, F, _, f5, rp, k5, ⟨by decide, by decide⟩, ⟨by omega, by omega⟩, fun Z6 hz6 => ⟨p, F, A, _, hz6.2.1, ⟨rA, tmT_ok hC rp _⟩, ⟨⟨by decide, by decide⟩, by decide⟩, ⟨?_, hz6.1⟩, fun Z7 hz7 => b_X12_classOf_117 (ih (y + 1) _ Z7 (by omega) hz7.1 (cplus_ok hC rA (tmT_ok hC rp _)) hz7.2.1 ?_ he)⟩⟩
        · exact (k1.kf g5 (Or.inr (by decide))).cg hz6.2.2 (fun i hi => ⟨by omega, by rw [t35]; omega⟩)
        · exact g1.tr (((g5.cg (fun i hi => by have hi : i < 2915 ∨ 2940 ≤ i := hi; omega)).tr (hz6.2.2.mo (fun i hi => by have hi : i < 2915 ∨ 2940 ≤ i := hi; exact ⟨by omega, by rw [t35]; omega⟩))).tr (hz7.2.2.cg (fun i hi => by have hi : i < 2915 ∨ 2940 ≤ i := hi; rw [t30]; omega)))
      · rw [if_pos c0] at he
        exact b_X12_classOf_117 (ih (y + 1) A Z1 (by omega) k1 rA f1 g1 he)
  have lpx : ∀ (m X : Nat) (A : UV) (Z1 : Zt), (X + m : Int) = p → KC Z1 b 2930 A → RP p (gen F) A → MF Z1 b p F → CG b P0 Z Z1 → mClX p F O m X A = mCl p F O → V mX12_classOf k n 9 [some (r_ b), some (i_ (e' : Int)), some (i_ (X : Int)), none] [] x Z1 Q := by
    intro m
    induction m with
    | zero =>
      intro X A Z1 hX k1 rA f1 g1 he
      have e11 : Z1 b 11 = p := f1.1.1.1
      have he : A = mCl p F O := he
      refine b_X12_classOf_9 o ?_
      rw [e11]
      refine ⟨⟨by omega, by omega⟩, ⟨by omega, by omega⟩, fun _ => ⟨A, ⟨by decide, by omega, by omega⟩, k1, fun Z2 hz2 => h Z2 ⟨?_, f1.kf hz2.2, ?_⟩⟩, fun cc => by omega⟩
      · rw [← he]; exact hz2.1
      · exact (g1.mo (fun i hi => hi.1)).tr (hz2.2.cg (fun i hi => hi.2))
    | succ m ih =>
      intro X A Z1 hX k1 rA f1 g1 he
      have e11 : Z1 b 11 = p := f1.1.1.1
      unfold mClX at he
      refine b_X12_classOf_9 o ?_
      rw [e11]
      refine ⟨⟨by omega, by omega⟩, ⟨by omega, by omega⟩, fun cc => by omega, fun _ => ?_⟩
      exact lpy X (mClY p F O X p.toNat 0 A) (by omega) (fun Z2 k2 f2 g2 => ih (X + 1) _ Z2 (by omega) k2 (mClY_ok hC O X _ _ A rA) f2 g2 he) p.toNat 0 A Z1 (by omega) k1 rA f1 g1 rfl
  exact b_X12_classOf_0 o ⟨by decide, fun Z1 hz1 => lpx p.toNat 0 czero Z1 (by omega) (KC.z hp (g := gen F) (by omega) hz1.1) cz (hF.kf hz1.2) (hz1.2.cg (fun i hi => by have hi : i < 2915 ∨ 2940 ≤ i := hi; rw [t30]; omega)) rfl⟩
