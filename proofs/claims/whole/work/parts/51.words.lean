theorem dX1_addRow_0 : decode cX1_addRow 0 = .ok (.iconst 0, 1) := by decide +kernel
theorem dX1_addRow_1 : decode cX1_addRow 1 = .ok (.istore 5, 2) := by decide +kernel
theorem dX1_addRow_3 : decode cX1_addRow 3 = .ok (.iload 5, 2) := by decide +kernel
theorem dX1_addRow_5 : decode cX1_addRow 5 = .ok (.aload_n 0, 1) := by decide +kernel
theorem dX1_addRow_6 : decode cX1_addRow 6 = .ok (.getfield 61, 3) := by decide +kernel
theorem dX1_addRow_9 : decode cX1_addRow 9 = .ok (.if_icmp .ge 29, 3) := by decide +kernel
theorem dX1_addRow_12 : decode cX1_addRow 12 = .ok (.aload_n 2, 1) := by decide +kernel
theorem dX1_addRow_13 : decode cX1_addRow 13 = .ok (.iload 5, 2) := by decide +kernel
theorem dX1_addRow_15 : decode cX1_addRow 15 = .ok (.aload_n 1, 1) := by decide +kernel
theorem dX1_addRow_16 : decode cX1_addRow 16 = .ok (.aload_n 2, 1) := by decide +kernel
theorem dX1_addRow_17 : decode cX1_addRow 17 = .ok (.iload 5, 2) := by decide +kernel
theorem dX1_addRow_19 : decode cX1_addRow 19 = .ok (.iaload, 1) := by decide +kernel
theorem dX1_addRow_20 : decode cX1_addRow 20 = .ok (.iload 4, 2) := by decide +kernel
theorem dX1_addRow_22 : decode cX1_addRow 22 = .ok (.aload_n 3, 1) := by decide +kernel
theorem dX1_addRow_23 : decode cX1_addRow 23 = .ok (.iload 5, 2) := by decide +kernel
theorem dX1_addRow_25 : decode cX1_addRow 25 = .ok (.iaload, 1) := by decide +kernel
theorem dX1_addRow_26 : decode cX1_addRow 26 = .ok (.imul, 1) := by decide +kernel
theorem dX1_addRow_27 : decode cX1_addRow 27 = .ok (.iadd, 1) := by decide +kernel
theorem dX1_addRow_28 : decode cX1_addRow 28 = .ok (.invokevirtual 109, 3) := by decide +kernel
theorem dX1_addRow_31 : decode cX1_addRow 31 = .ok (.iastore, 1) := by decide +kernel
theorem dX1_addRow_32 : decode cX1_addRow 32 = .ok (.iinc 5 1, 3) := by decide +kernel
theorem dX1_addRow_35 : decode cX1_addRow 35 = .ok (.goto (-32), 3) := by decide +kernel
theorem dX1_addRow_38 : decode cX1_addRow 38 = .ok (.return_, 1) := by decide +kernel
set_option maxRecDepth 20000 in
theorem b_X1_addRow_0 {k n : Nat} {x : Wx} {Z : Zt} {Q : Option Value → Wx → Zt → Prop} {a0 : Nat} {a1 : Nat} {a2 : Nat} {a3 : Nat} {v4 : Int} 
    (h : V mX1_addRow k n 3 [some (r_ a0), some (r_ a1), some (r_ a2), some (r_ a3), some (i_ v4), some (i_ 0)] [] x Z Q) :
    V mX1_addRow k n 0 [some (r_ a0), some (r_ a1), some (r_ a2), some (r_ a3), some (i_ v4), none] [] x Z Q :=
  V_iconst dX1_addRow_0 (V_istore (lv' := [some (r_ a0), some (r_ a1), some (r_ a2), some (r_ a3), some (i_ v4), some (i_ 0)]) dX1_addRow_1 (Nat.le_of_ble_eq_true rfl) rfl (V_msk [true, true, true, true, true, true] rfl h))
set_option maxRecDepth 20000 in
theorem b_X1_addRow_3 {k n : Nat} {x : Wx} {Z : Zt} {Q : Option Value → Wx → Zt → Prop} {a0 : Nat} {a1 : Nat} {a2 : Nat} {a3 : Nat} {v4 : Int} {v5 : Int} (o_a0 : Is1 x a0) (o_a1 : Is4 x a1) (s_a2 : x.1 a2 = some (100, 26)) (s_a3 : x.1 a3 = some (100, 26))
    (h : Rg v5 ∧ Rg (Z a0 0) ∧ (((Z a0 0 ≤ v5) → (Q none x Z)) ∧ ((v5 < Z a0 0) → (0 ≤ v5 ∧ v5 < 26 ∧ (Rg ((Z a2 v5.toNat) + (v4 * (Z a3 v5.toNat))) ∧ 2 ≤ Z a1 0 ∧ Z a1 0 ≤ 13 ∧ (∀ Z1 : Zt, Z1 = up Z a2 v5.toNat (((Z a2 v5.toNat) + (v4 * (Z a3 v5.toNat))) % Z a1 0) → (V mX1_addRow k n 3 [some (r_ a0), some (r_ a1), some (r_ a2), some (r_ a3), some (i_ v4), some (i_ (v5 + 1))] [] x Z1 Q))))))) :
    V mX1_addRow k n 3 [some (r_ a0), some (r_ a1), some (r_ a2), some (r_ a3), some (i_ v4), some (i_ v5)] [] x Z Q :=
  V_iload dX1_addRow_3 rfl (V_aload_n dX1_addRow_5 rfl (G_1_0 o_a0.1 lf_1_61 dX1_addRow_6 (V_icmp_ge (tgt := 38) dX1_addRow_9 rfl h.1 h.2.1 (fun c1 => V_ret dX1_addRow_38 rfl (h.2.2.1 c1)) (fun c1 => V_aload_n dX1_addRow_12 rfl (V_iload dX1_addRow_13 rfl (V_aload_n dX1_addRow_15 rfl (V_aload_n dX1_addRow_16 rfl (V_iload dX1_addRow_17 rfl (V_iald (t := 100) s_a2 (by decide) rfl (h.2.2.2 c1).1 (h.2.2.2 c1).2.1 (Nat.le_of_ble_eq_true rfl) dX1_addRow_19 (V_iload dX1_addRow_20 rfl (V_aload_n dX1_addRow_22 rfl (V_iload dX1_addRow_23 rfl (V_iald (t := 100) s_a3 (by decide) rfl (h.2.2.2 c1).1 (h.2.2.2 c1).2.1 (Nat.le_of_ble_eq_true rfl) dX1_addRow_25 (V_imul dX1_addRow_26 (V_iadd dX1_addRow_27 (V_callV (k' := 0) (n' := 0) (t := 4) (q := (RX4, TX4, 4)) [i_ ((Z a2 v5.toNat) + (v4 * (Z a3 v5.toNat)))] [i_ v5, r_ a2] okX4_rem o_a1.1 rfl rfl lm_1_109 liX4_rem lqX4_rem (Nat.le_of_ble_eq_true rfl) (Nat.le_of_ble_eq_true rfl) (Nat.le_of_ble_eq_true rfl) (cat_of rfl) (Nat.le_of_ble_eq_true rfl) (Nat.zero_le _) (Nat.zero_le _) rfl dX1_addRow_28 (sp_X4_rem o_a1 (h.2.2.2 c1).2.2.1 (h.2.2.2 c1).2.2.2.1 (h.2.2.2 c1).2.2.2.2.1 (V_iast (t := 100) s_a2 (by decide) (by decide) rfl (h.2.2.2 c1).1 (h.2.2.2 c1).2.1 (Nat.le_of_ble_eq_true rfl) dX1_addRow_31 (V_nmZ (fun Z1 eZ1 => V_iinc (lv' := [some (r_ a0), some (r_ a1), some (r_ a2), some (r_ a3), some (i_ v4), some (i_ (v5 + 1))]) dX1_addRow_32 rfl (Nat.le_of_ble_eq_true rfl) rfl (V_goto (tgt := 3) dX1_addRow_35 rfl (V_msk [true, true, true, true, true, true] rfl ((h.2.2.2 c1).2.2.2.2.2 Z1 eZ1)))))))))))))))))))))))
theorem dX1_unlikePlaces_0 : decode cX1_unlikePlaces 0 = .ok (.iconst 0, 1) := by decide +kernel
theorem dX1_unlikePlaces_1 : decode cX1_unlikePlaces 1 = .ok (.istore_n 2, 1) := by decide +kernel
theorem dX1_unlikePlaces_2 : decode cX1_unlikePlaces 2 = .ok (.iconst 0, 1) := by decide +kernel
theorem dX1_unlikePlaces_3 : decode cX1_unlikePlaces 3 = .ok (.istore_n 3, 1) := by decide +kernel
theorem dX1_unlikePlaces_4 : decode cX1_unlikePlaces 4 = .ok (.iload_n 3, 1) := by decide +kernel
theorem dX1_unlikePlaces_5 : decode cX1_unlikePlaces 5 = .ok (.aload_n 0, 1) := by decide +kernel
theorem dX1_unlikePlaces_6 : decode cX1_unlikePlaces 6 = .ok (.getfield 61, 3) := by decide +kernel
theorem dX1_unlikePlaces_9 : decode cX1_unlikePlaces 9 = .ok (.if_icmp .ge 29, 3) := by decide +kernel
theorem dX1_unlikePlaces_12 : decode cX1_unlikePlaces 12 = .ok (.iload_n 2, 1) := by decide +kernel
theorem dX1_unlikePlaces_13 : decode cX1_unlikePlaces 13 = .ok (.aload_n 1, 1) := by decide +kernel
theorem dX1_unlikePlaces_14 : decode cX1_unlikePlaces 14 = .ok (.iload_n 3, 1) := by decide +kernel
theorem dX1_unlikePlaces_15 : decode cX1_unlikePlaces 15 = .ok (.iaload, 1) := by decide +kernel
theorem dX1_unlikePlaces_16 : decode cX1_unlikePlaces 16 = .ok (.aload_n 0, 1) := by decide +kernel
theorem dX1_unlikePlaces_17 : decode cX1_unlikePlaces 17 = .ok (.getfield 35, 3) := by decide +kernel
theorem dX1_unlikePlaces_20 : decode cX1_unlikePlaces 20 = .ok (.iload_n 3, 1) := by decide +kernel
theorem dX1_unlikePlaces_21 : decode cX1_unlikePlaces 21 = .ok (.iaload, 1) := by decide +kernel
theorem dX1_unlikePlaces_22 : decode cX1_unlikePlaces 22 = .ok (.if_icmp .ne 7, 3) := by decide +kernel
theorem dX1_unlikePlaces_25 : decode cX1_unlikePlaces 25 = .ok (.iconst 0, 1) := by decide +kernel
theorem dX1_unlikePlaces_26 : decode cX1_unlikePlaces 26 = .ok (.goto 4, 3) := by decide +kernel
theorem dX1_unlikePlaces_29 : decode cX1_unlikePlaces 29 = .ok (.iconst 1, 1) := by decide +kernel
theorem dX1_unlikePlaces_30 : decode cX1_unlikePlaces 30 = .ok (.iadd, 1) := by decide +kernel
theorem dX1_unlikePlaces_31 : decode cX1_unlikePlaces 31 = .ok (.istore_n 2, 1) := by decide +kernel
theorem dX1_unlikePlaces_32 : decode cX1_unlikePlaces 32 = .ok (.iinc 3 1, 3) := by decide +kernel
theorem dX1_unlikePlaces_35 : decode cX1_unlikePlaces 35 = .ok (.goto (-31), 3) := by decide +kernel
theorem dX1_unlikePlaces_38 : decode cX1_unlikePlaces 38 = .ok (.iload_n 2, 1) := by decide +kernel
theorem dX1_unlikePlaces_39 : decode cX1_unlikePlaces 39 = .ok (.ireturn, 1) := by decide +kernel
set_option maxRecDepth 20000 in
theorem b_X1_unlikePlaces_0 {k n : Nat} {x : Wx} {Z : Zt} {Q : Option Value → Wx → Zt → Prop} {a0 : Nat} {a1 : Nat} 
    (h : V mX1_unlikePlaces k n 4 [some (r_ a0), some (r_ a1), some (i_ 0), some (i_ 0)] [] x Z Q) :
    V mX1_unlikePlaces k n 0 [some (r_ a0), some (r_ a1), none, none] [] x Z Q :=
  V_iconst dX1_unlikePlaces_0 (V_istore_n (lv' := [some (r_ a0), some (r_ a1), some (i_ 0), none]) dX1_unlikePlaces_1 (Nat.le_of_ble_eq_true rfl) rfl (V_iconst dX1_unlikePlaces_2 (V_istore_n (lv' := [some (r_ a0), some (r_ a1), some (i_ 0), some (i_ 0)]) dX1_unlikePlaces_3 (Nat.le_of_ble_eq_true rfl) rfl (V_msk [true, true, true, true] rfl h))))
set_option maxRecDepth 20000 in
theorem b_X1_unlikePlaces_4 {k n : Nat} {x : Wx} {Z : Zt} {Q : Option Value → Wx → Zt → Prop} {a0 : Nat} {a1 : Nat} {v2 : Int} {v3 : Int} (o_a0 : Is1 x a0) (s_a1 : x.1 a1 = some (100, 26))
    (h : Rg v3 ∧ Rg (Z a0 0) ∧ (((Z a0 0 ≤ v3) → (Q (some (i_ v2)) x Z)) ∧ ((v3 < Z a0 0) → (0 ≤ v3 ∧ v3 < 26 ∧ (Rg (Z a1 v3.toNat) ∧ Rg (Z (a0 + 110) v3.toNat) ∧ (((Z a1 v3.toNat ≠ Z (a0 + 110) v3.toNat) → (V mX1_unlikePlaces k n 30 [some (r_ a0), some (r_ a1), none, some (i_ v3)] [i_ 1, i_ v2] x Z Q)) ∧ ((Z a1 v3.toNat = Z (a0 + 110) v3.toNat) → (V mX1_unlikePlaces k n 30 [some (r_ a0), some (r_ a1), none, some (i_ v3)] [i_ 0, i_ v2] x Z Q)))))))) :
    V mX1_unlikePlaces k n 4 [some (r_ a0), some (r_ a1), some (i_ v2), some (i_ v3)] [] x Z Q :=
  V_iload_n dX1_unlikePlaces_4 rfl (V_aload_n dX1_unlikePlaces_5 rfl (G_1_0 o_a0.1 lf_1_61 dX1_unlikePlaces_6 (V_icmp_ge (tgt := 38) dX1_unlikePlaces_9 rfl h.1 h.2.1 (fun c1 => V_iload_n dX1_unlikePlaces_38 rfl (V_iret (ty := .int) dX1_unlikePlaces_39 rfl rfl (h.2.2.1 c1))) (fun c1 => V_iload_n dX1_unlikePlaces_12 rfl (V_aload_n dX1_unlikePlaces_13 rfl (V_iload_n dX1_unlikePlaces_14 rfl (V_iald (t := 100) s_a1 (by decide) rfl (h.2.2.2 c1).1 (h.2.2.2 c1).2.1 (Nat.le_of_ble_eq_true rfl) dX1_unlikePlaces_15 (V_aload_n dX1_unlikePlaces_16 rfl (G_1_14 o_a0.1 o_a0.2.2.2.2.2.2.2.2.2.2.2.2.2.2.2.2.2.2.1 lf_1_35 dX1_unlikePlaces_17 (V_iload_n dX1_unlikePlaces_20 rfl (V_iald (t := 100) o_a0.2.2.2.2.2.2.2.2.2.2.2.2.2.2.2.2.2.2.2.1 (by decide) rfl (h.2.2.2 c1).1 (h.2.2.2 c1).2.1 (Nat.le_of_ble_eq_true rfl) dX1_unlikePlaces_21 (V_icmp_ne (tgt := 29) dX1_unlikePlaces_22 rfl (h.2.2.2 c1).2.2.1 (h.2.2.2 c1).2.2.2.1 (fun c2 => V_iconst dX1_unlikePlaces_29 (V_msk [true, true, false, true] rfl ((h.2.2.2 c1).2.2.2.2.1 c2))) (fun c2 => V_iconst dX1_unlikePlaces_25 (V_goto (tgt := 30) dX1_unlikePlaces_26 rfl (V_msk [true, true, false, true] rfl ((h.2.2.2 c1).2.2.2.2.2 c2))))))))))))))))
set_option maxRecDepth 20000 in
theorem b_X1_unlikePlaces_30 {k n : Nat} {x : Wx} {Z : Zt} {Q : Option Value → Wx → Zt → Prop} {a0 : Nat} {a1 : Nat} {v3 : Int} {t0 : Int} {t1 : Int} 
    (h : V mX1_unlikePlaces k n 4 [some (r_ a0), some (r_ a1), some (i_ (t0 + t1)), some (i_ (v3 + 1))] [] x Z Q) :
    V mX1_unlikePlaces k n 30 [some (r_ a0), some (r_ a1), none, some (i_ v3)] [i_ t1, i_ t0] x Z Q :=
  V_iadd dX1_unlikePlaces_30 (V_istore_n (lv' := [some (r_ a0), some (r_ a1), some (i_ (t0 + t1)), some (i_ v3)]) dX1_unlikePlaces_31 (Nat.le_of_ble_eq_true rfl) rfl (V_iinc (lv' := [some (r_ a0), some (r_ a1), some (i_ (t0 + t1)), some (i_ (v3 + 1))]) dX1_unlikePlaces_32 rfl (Nat.le_of_ble_eq_true rfl) rfl (V_goto (tgt := 4) dX1_unlikePlaces_35 rfl (V_msk [true, true, true, true] rfl h))))
theorem dX1_beginWords_0 : decode cX1_beginWords 0 = .ok (.aload_n 0, 1) := by decide +kernel
theorem dX1_beginWords_1 : decode cX1_beginWords 1 = .ok (.getfield 38, 3) := by decide +kernel
theorem dX1_beginWords_4 : decode cX1_beginWords 4 = .ok (.iconst 0, 1) := by decide +kernel
theorem dX1_beginWords_5 : decode cX1_beginWords 5 = .ok (.invokestatic 103, 3) := by decide +kernel
theorem dX1_beginWords_8 : decode cX1_beginWords 8 = .ok (.aload_n 0, 1) := by decide +kernel
theorem dX1_beginWords_9 : decode cX1_beginWords 9 = .ok (.getfield 41, 3) := by decide +kernel
theorem dX1_beginWords_12 : decode cX1_beginWords 12 = .ok (.iconst 0, 1) := by decide +kernel
theorem dX1_beginWords_13 : decode cX1_beginWords 13 = .ok (.invokestatic 103, 3) := by decide +kernel
theorem dX1_beginWords_16 : decode cX1_beginWords 16 = .ok (.return_, 1) := by decide +kernel
set_option maxRecDepth 20000 in
theorem b_X1_beginWords_0 {k n : Nat} {x : Wx} {Z : Zt} {Q : Option Value → Wx → Zt → Prop} {a0 : Nat} (o_a0 : Is1 x a0)
    (h : ∀ Z1 : Zt, Z1 = fillZ Z (a0 + 111) 26 (0 : Int) → (∀ Z2 : Zt, Z2 = fillZ Z1 (a0 + 112) 26 (0 : Int) → (Q none x Z2))) :
    V mX1_beginWords k n 0 [some (r_ a0)] [] x Z Q :=
  V_aload_n dX1_beginWords_0 rfl (G_1_15 o_a0.1 o_a0.2.2.2.2.2.2.2.2.2.2.2.2.2.2.2.2.2.2.2.2.1 lf_1_38 dX1_beginWords_1 (V_iconst dX1_beginWords_4 (V_callS (k' := 0) (n' := 0) [r_ (a0 + 111), i_ 0] [] okJ7_fill_53178 lm_1_103 lsJ7_fill_53178 (Nat.le_of_ble_eq_true rfl) (Nat.le_of_ble_eq_true rfl) (Nat.le_of_ble_eq_true rfl) (cat_of rfl) (Nat.le_of_ble_eq_true rfl) (Nat.zero_le _) (Nat.zero_le _) rfl dX1_beginWords_5 (sp_J7_fill_53178 o_a0.2.2.2.2.2.2.2.2.2.2.2.2.2.2.2.2.2.2.2.2.2.1 (Nat.le_of_ble_eq_true rfl)  (V_nmZ (fun Z1 eZ1 => V_aload_n dX1_beginWords_8 rfl (G_1_16 o_a0.1 o_a0.2.2.2.2.2.2.2.2.2.2.2.2.2.2.2.2.2.2.2.2.2.2.1 lf_1_41 dX1_beginWords_9 (V_iconst dX1_beginWords_12 (V_callS (k' := 0) (n' := 0) [r_ (a0 + 112), i_ 0] [] okJ7_fill_53178 lm_1_103 lsJ7_fill_53178 (Nat.le_of_ble_eq_true rfl) (Nat.le_of_ble_eq_true rfl) (Nat.le_of_ble_eq_true rfl) (cat_of rfl) (Nat.le_of_ble_eq_true rfl) (Nat.zero_le _) (Nat.zero_le _) rfl dX1_beginWords_13 (sp_J7_fill_53178 o_a0.2.2.2.2.2.2.2.2.2.2.2.2.2.2.2.2.2.2.2.2.2.2.2 (Nat.le_of_ble_eq_true rfl)  (V_nmZ (fun Z2 eZ2 => V_ret dX1_beginWords_16 rfl ((h Z1 eZ1) Z2 eZ2)))))))))))))
theorem dX1_drawNext_0 : decode cX1_drawNext 0 = .ok (.iload_n 0, 1) := by decide +kernel
theorem dX1_drawNext_1 : decode cX1_drawNext 1 = .ok (.ldc 138, 2) := by decide +kernel
theorem dX1_drawNext_3 : decode cX1_drawNext 3 = .ok (.imul, 1) := by decide +kernel
theorem dX1_drawNext_4 : decode cX1_drawNext 4 = .ok (.sipush 12345, 3) := by decide +kernel
theorem dX1_drawNext_7 : decode cX1_drawNext 7 = .ok (.iadd, 1) := by decide +kernel
theorem dX1_drawNext_8 : decode cX1_drawNext 8 = .ok (.ireturn, 1) := by decide +kernel
set_option maxRecDepth 20000 in
theorem b_X1_drawNext_0 {k n : Nat} {x : Wx} {Z : Zt} {Q : Option Value → Wx → Zt → Prop} {v0 : Int} 
    (h : Q (some (i_ ((v0 * 1103515245) + 12345))) x Z) :
    V mX1_drawNext k n 0 [some (i_ v0)] [] x Z Q :=
  V_iload_n dX1_drawNext_0 rfl (V_ldc (z := 1103515245) dX1_drawNext_1 lk_1_138 (V_imul dX1_drawNext_3 (V_sipush dX1_drawNext_4 rfl (V_iadd dX1_drawNext_7 (V_iret (ty := .int) dX1_drawNext_8 rfl rfl h)))))
theorem dX1_nextWord_0 : decode cX1_nextWord 0 = .ok (.iconst 1, 1) := by decide +kernel
theorem dX1_nextWord_1 : decode cX1_nextWord 1 = .ok (.istore_n 2, 1) := by decide +kernel
theorem dX1_nextWord_2 : decode cX1_nextWord 2 = .ok (.iconst 0, 1) := by decide +kernel
theorem dX1_nextWord_3 : decode cX1_nextWord 3 = .ok (.istore_n 3, 1) := by decide +kernel
theorem dX1_nextWord_4 : decode cX1_nextWord 4 = .ok (.iload_n 3, 1) := by decide +kernel
theorem dX1_nextWord_5 : decode cX1_nextWord 5 = .ok (.aload_n 0, 1) := by decide +kernel
theorem dX1_nextWord_6 : decode cX1_nextWord 6 = .ok (.getfield 95, 3) := by decide +kernel
theorem dX1_nextWord_9 : decode cX1_nextWord 9 = .ok (.if_icmp .ge 127, 3) := by decide +kernel
theorem dX1_nextWord_12 : decode cX1_nextWord 12 = .ok (.iload_n 2, 1) := by decide +kernel
theorem dX1_nextWord_13 : decode cX1_nextWord 13 = .ok (.ifCond .eq 123, 3) := by decide +kernel
theorem dX1_nextWord_16 : decode cX1_nextWord 16 = .ok (.iconst 0, 1) := by decide +kernel
theorem dX1_nextWord_17 : decode cX1_nextWord 17 = .ok (.istore 4, 2) := by decide +kernel
theorem dX1_nextWord_19 : decode cX1_nextWord 19 = .ok (.iload 4, 2) := by decide +kernel
theorem dX1_nextWord_21 : decode cX1_nextWord 21 = .ok (.aload_n 0, 1) := by decide +kernel
theorem dX1_nextWord_22 : decode cX1_nextWord 22 = .ok (.getfield 61, 3) := by decide +kernel
theorem dX1_nextWord_25 : decode cX1_nextWord 25 = .ok (.if_icmp .ge 56, 3) := by decide +kernel
theorem dX1_nextWord_28 : decode cX1_nextWord 28 = .ok (.aload_n 0, 1) := by decide +kernel
theorem dX1_nextWord_29 : decode cX1_nextWord 29 = .ok (.getfield 38, 3) := by decide +kernel
theorem dX1_nextWord_32 : decode cX1_nextWord 32 = .ok (.iload 4, 2) := by decide +kernel
theorem dX1_nextWord_34 : decode cX1_nextWord 34 = .ok (.iaload, 1) := by decide +kernel
theorem dX1_nextWord_35 : decode cX1_nextWord 35 = .ok (.aload_n 0, 1) := by decide +kernel
theorem dX1_nextWord_36 : decode cX1_nextWord 36 = .ok (.getfield 29, 3) := by decide +kernel
theorem dX1_nextWord_39 : decode cX1_nextWord 39 = .ok (.iload_n 3, 1) := by decide +kernel
theorem dX1_nextWord_40 : decode cX1_nextWord 40 = .ok (.aaload, 1) := by decide +kernel
theorem dX1_nextWord_41 : decode cX1_nextWord 41 = .ok (.iload 4, 2) := by decide +kernel
theorem dX1_nextWord_43 : decode cX1_nextWord 43 = .ok (.iaload, 1) := by decide +kernel
theorem dX1_nextWord_44 : decode cX1_nextWord 44 = .ok (.iadd, 1) := by decide +kernel
theorem dX1_nextWord_45 : decode cX1_nextWord 45 = .ok (.istore 5, 2) := by decide +kernel
theorem dX1_nextWord_47 : decode cX1_nextWord 47 = .ok (.aload_n 0, 1) := by decide +kernel
theorem dX1_nextWord_48 : decode cX1_nextWord 48 = .ok (.getfield 38, 3) := by decide +kernel
theorem dX1_nextWord_51 : decode cX1_nextWord 51 = .ok (.iload 4, 2) := by decide +kernel
theorem dX1_nextWord_53 : decode cX1_nextWord 53 = .ok (.iload 5, 2) := by decide +kernel
theorem dX1_nextWord_55 : decode cX1_nextWord 55 = .ok (.aload_n 1, 1) := by decide +kernel
theorem dX1_nextWord_56 : decode cX1_nextWord 56 = .ok (.getfield 98, 3) := by decide +kernel
theorem dX1_nextWord_59 : decode cX1_nextWord 59 = .ok (.if_icmp .lt 13, 3) := by decide +kernel
theorem dX1_nextWord_62 : decode cX1_nextWord 62 = .ok (.iload 5, 2) := by decide +kernel
theorem dX1_nextWord_64 : decode cX1_nextWord 64 = .ok (.aload_n 1, 1) := by decide +kernel
theorem dX1_nextWord_65 : decode cX1_nextWord 65 = .ok (.getfield 98, 3) := by decide +kernel
theorem dX1_nextWord_68 : decode cX1_nextWord 68 = .ok (.isub, 1) := by decide +kernel
theorem dX1_nextWord_69 : decode cX1_nextWord 69 = .ok (.goto 5, 3) := by decide +kernel
theorem dX1_nextWord_72 : decode cX1_nextWord 72 = .ok (.iload 5, 2) := by decide +kernel
theorem dX1_nextWord_74 : decode cX1_nextWord 74 = .ok (.iastore, 1) := by decide +kernel
theorem dX1_nextWord_75 : decode cX1_nextWord 75 = .ok (.iinc 4 1, 3) := by decide +kernel
theorem dX1_nextWord_78 : decode cX1_nextWord 78 = .ok (.goto (-59), 3) := by decide +kernel
theorem dX1_nextWord_81 : decode cX1_nextWord 81 = .ok (.aload_n 0, 1) := by decide +kernel
theorem dX1_nextWord_82 : decode cX1_nextWord 82 = .ok (.getfield 41, 3) := by decide +kernel
theorem dX1_nextWord_85 : decode cX1_nextWord 85 = .ok (.iload_n 3, 1) := by decide +kernel
theorem dX1_nextWord_86 : decode cX1_nextWord 86 = .ok (.dup2, 1) := by decide +kernel
theorem dX1_nextWord_87 : decode cX1_nextWord 87 = .ok (.iaload, 1) := by decide +kernel
theorem dX1_nextWord_88 : decode cX1_nextWord 88 = .ok (.iconst 1, 1) := by decide +kernel
theorem dX1_nextWord_89 : decode cX1_nextWord 89 = .ok (.iadd, 1) := by decide +kernel
theorem dX1_nextWord_90 : decode cX1_nextWord 90 = .ok (.iastore, 1) := by decide +kernel
theorem dX1_nextWord_91 : decode cX1_nextWord 91 = .ok (.aload_n 0, 1) := by decide +kernel
theorem dX1_nextWord_92 : decode cX1_nextWord 92 = .ok (.getfield 41, 3) := by decide +kernel
theorem dX1_nextWord_95 : decode cX1_nextWord 95 = .ok (.iload_n 3, 1) := by decide +kernel
theorem dX1_nextWord_96 : decode cX1_nextWord 96 = .ok (.iaload, 1) := by decide +kernel
theorem dX1_nextWord_97 : decode cX1_nextWord 97 = .ok (.aload_n 1, 1) := by decide +kernel
theorem dX1_nextWord_98 : decode cX1_nextWord 98 = .ok (.getfield 98, 3) := by decide +kernel
theorem dX1_nextWord_101 : decode cX1_nextWord 101 = .ok (.if_icmp .lt 7, 3) := by decide +kernel
theorem dX1_nextWord_104 : decode cX1_nextWord 104 = .ok (.iconst 1, 1) := by decide +kernel
theorem dX1_nextWord_105 : decode cX1_nextWord 105 = .ok (.goto 4, 3) := by decide +kernel
theorem dX1_nextWord_108 : decode cX1_nextWord 108 = .ok (.iconst 0, 1) := by decide +kernel
theorem dX1_nextWord_109 : decode cX1_nextWord 109 = .ok (.istore_n 2, 1) := by decide +kernel
theorem dX1_nextWord_110 : decode cX1_nextWord 110 = .ok (.aload_n 0, 1) := by decide +kernel
theorem dX1_nextWord_111 : decode cX1_nextWord 111 = .ok (.getfield 41, 3) := by decide +kernel
theorem dX1_nextWord_114 : decode cX1_nextWord 114 = .ok (.iload_n 3, 1) := by decide +kernel
theorem dX1_nextWord_115 : decode cX1_nextWord 115 = .ok (.iload_n 2, 1) := by decide +kernel
theorem dX1_nextWord_116 : decode cX1_nextWord 116 = .ok (.ifCond .eq 7, 3) := by decide +kernel
theorem dX1_nextWord_119 : decode cX1_nextWord 119 = .ok (.iconst 0, 1) := by decide +kernel
theorem dX1_nextWord_120 : decode cX1_nextWord 120 = .ok (.goto 9, 3) := by decide +kernel
theorem dX1_nextWord_123 : decode cX1_nextWord 123 = .ok (.aload_n 0, 1) := by decide +kernel
theorem dX1_nextWord_124 : decode cX1_nextWord 124 = .ok (.getfield 41, 3) := by decide +kernel
theorem dX1_nextWord_127 : decode cX1_nextWord 127 = .ok (.iload_n 3, 1) := by decide +kernel
theorem dX1_nextWord_128 : decode cX1_nextWord 128 = .ok (.iaload, 1) := by decide +kernel
theorem dX1_nextWord_129 : decode cX1_nextWord 129 = .ok (.iastore, 1) := by decide +kernel
theorem dX1_nextWord_130 : decode cX1_nextWord 130 = .ok (.iinc 3 1, 3) := by decide +kernel
theorem dX1_nextWord_133 : decode cX1_nextWord 133 = .ok (.goto (-129), 3) := by decide +kernel
theorem dX1_nextWord_136 : decode cX1_nextWord 136 = .ok (.return_, 1) := by decide +kernel
set_option maxRecDepth 20000 in
theorem b_X1_nextWord_0 {k n : Nat} {x : Wx} {Z : Zt} {Q : Option Value → Wx → Zt → Prop} {a0 : Nat} {a1 : Nat} 
    (h : V mX1_nextWord k n 4 [some (r_ a0), some (r_ a1), some (i_ 1), some (i_ 0), none, none] [] x Z Q) :
    V mX1_nextWord k n 0 [some (r_ a0), some (r_ a1), none, none, none, none] [] x Z Q :=
  V_iconst dX1_nextWord_0 (V_istore_n (lv' := [some (r_ a0), some (r_ a1), some (i_ 1), none, none, none]) dX1_nextWord_1 (Nat.le_of_ble_eq_true rfl) rfl (V_iconst dX1_nextWord_2 (V_istore_n (lv' := [some (r_ a0), some (r_ a1), some (i_ 1), some (i_ 0), none, none]) dX1_nextWord_3 (Nat.le_of_ble_eq_true rfl) rfl (V_msk [true, true, true, true, false, false] rfl h))))
set_option maxRecDepth 20000 in
theorem b_X1_nextWord_4 {k n : Nat} {x : Wx} {Z : Zt} {Q : Option Value → Wx → Zt → Prop} {a0 : Nat} {a1 : Nat} {v2 : Int} {v3 : Int} (o_a0 : Is1 x a0)
    (h : Rg v3 ∧ Rg (Z a0 1) ∧ (((Z a0 1 ≤ v3) → (Q none x Z)) ∧ ((v3 < Z a0 1) → (Rg v2 ∧ (((v2 = 0) → (Q none x Z)) ∧ ((v2 ≠ 0) → (V mX1_nextWord k n 19 [some (r_ a0), some (r_ a1), none, some (i_ v3), some (i_ 0), none] [] x Z Q))))))) :
    V mX1_nextWord k n 4 [some (r_ a0), some (r_ a1), some (i_ v2), some (i_ v3), none, none] [] x Z Q :=
  V_iload_n dX1_nextWord_4 rfl (V_aload_n dX1_nextWord_5 rfl (G_1_1 o_a0.1 lf_1_95 dX1_nextWord_6 (V_icmp_ge (tgt := 136) dX1_nextWord_9 rfl h.1 h.2.1 (fun c1 => V_ret dX1_nextWord_136 rfl (h.2.2.1 c1)) (fun c1 => V_iload_n dX1_nextWord_12 rfl (V_if_eq (tgt := 136) dX1_nextWord_13 rfl (h.2.2.2 c1).1 (fun c2 => V_ret dX1_nextWord_136 rfl ((h.2.2.2 c1).2.1 c2)) (fun c2 => V_iconst dX1_nextWord_16 (V_istore (lv' := [some (r_ a0), some (r_ a1), some (i_ v2), some (i_ v3), some (i_ 0), none]) dX1_nextWord_17 (Nat.le_of_ble_eq_true rfl) rfl (V_msk [true, true, false, true, true, false] rfl ((h.2.2.2 c1).2.2 c2)))))))))
set_option maxRecDepth 20000 in
theorem b_X1_nextWord_19 {k n : Nat} {x : Wx} {Z : Zt} {Q : Option Value → Wx → Zt → Prop} {a0 : Nat} {a1 : Nat} {v3 : Int} {v4 : Int} (o_a0 : Is1 x a0) (o_a1 : Is4 x a1)
    (h : Rg v4 ∧ Rg (Z a0 0) ∧ (((Z a0 0 ≤ v4) → (0 ≤ v3 ∧ v3 < 26 ∧ (∀ Z1 : Zt, Z1 = up Z (a0 + 112) v3.toNat ((Z (a0 + 112) v3.toNat) + 1) → (Rg (Z1 (a0 + 112) v3.toNat) ∧ Rg (Z1 a1 0) ∧ (((Z1 (a0 + 112) v3.toNat < Z1 a1 0) → (V mX1_nextWord k n 109 [some (r_ a0), some (r_ a1), none, some (i_ v3), none, none] [i_ 0] x Z1 Q)) ∧ ((Z1 a1 0 ≤ Z1 (a0 + 112) v3.toNat) → (V mX1_nextWord k n 109 [some (r_ a0), some (r_ a1), none, some (i_ v3), none, none] [i_ 1] x Z1 Q))))))) ∧ ((v4 < Z a0 0) → (0 ≤ v4 ∧ v4 < 26 ∧ (0 ≤ v3 ∧ v3 < 26 ∧ (Rg ((Z (a0 + 111) v4.toNat) + (Z (a0 + 83 + v3.toNat) v4.toNat)) ∧ Rg (Z a1 0) ∧ ((((Z (a0 + 111) v4.toNat) + (Z (a0 + 83 + v3.toNat) v4.toNat) < Z a1 0) → (V mX1_nextWord k n 74 [some (r_ a0), some (r_ a1), none, some (i_ v3), some (i_ v4), none] [i_ ((Z (a0 + 111) v4.toNat) + (Z (a0 + 83 + v3.toNat) v4.toNat)), i_ v4, r_ (a0 + 111)] x Z Q)) ∧ ((Z a1 0 ≤ (Z (a0 + 111) v4.toNat) + (Z (a0 + 83 + v3.toNat) v4.toNat)) → (V mX1_nextWord k n 74 [some (r_ a0), some (r_ a1), none, some (i_ v3), some (i_ v4), none] [i_ (((Z (a0 + 111) v4.toNat) + (Z (a0 + 83 + v3.toNat) v4.toNat)) - (Z a1 0)), i_ v4, r_ (a0 + 111)] x Z Q))))))))) :
    V mX1_nextWord k n 19 [some (r_ a0), some (r_ a1), none, some (i_ v3), some (i_ v4), none] [] x Z Q :=
  V_iload dX1_nextWord_19 rfl (V_aload_n dX1_nextWord_21 rfl (G_1_0 o_a0.1 lf_1_61 dX1_nextWord_22 (V_icmp_ge (tgt := 81) dX1_nextWord_25 rfl h.1 h.2.1 (fun c1 => V_aload_n dX1_nextWord_81 rfl (G_1_16 o_a0.1 o_a0.2.2.2.2.2.2.2.2.2.2.2.2.2.2.2.2.2.2.2.2.2.2.1 lf_1_41 dX1_nextWord_82 (V_iload_n dX1_nextWord_85 rfl (V_dup2 dX1_nextWord_86 rfl rfl (V_iald (t := 100) o_a0.2.2.2.2.2.2.2.2.2.2.2.2.2.2.2.2.2.2.2.2.2.2.2 (by decide) rfl (h.2.2.1 c1).1 (h.2.2.1 c1).2.1 (Nat.le_of_ble_eq_true rfl) dX1_nextWord_87 (V_iconst dX1_nextWord_88 (V_iadd dX1_nextWord_89 (V_iast (t := 100) o_a0.2.2.2.2.2.2.2.2.2.2.2.2.2.2.2.2.2.2.2.2.2.2.2 (by decide) (by decide) rfl (h.2.2.1 c1).1 (h.2.2.1 c1).2.1 (Nat.le_of_ble_eq_true rfl) dX1_nextWord_90 (V_nmZ (fun Z1 eZ1 => V_aload_n dX1_nextWord_91 rfl (G_1_16 o_a0.1 o_a0.2.2.2.2.2.2.2.2.2.2.2.2.2.2.2.2.2.2.2.2.2.2.1 lf_1_41 dX1_nextWord_92 (V_iload_n dX1_nextWord_95 rfl (V_iald (t := 100) o_a0.2.2.2.2.2.2.2.2.2.2.2.2.2.2.2.2.2.2.2.2.2.2.2 (by decide) rfl (h.2.2.1 c1).1 (h.2.2.1 c1).2.1 (Nat.le_of_ble_eq_true rfl) dX1_nextWord_96 (V_aload_n dX1_nextWord_97 rfl (G_4_0 o_a1.1 lf_1_98 dX1_nextWord_98 (V_icmp_lt (tgt := 108) dX1_nextWord_101 rfl ((h.2.2.1 c1).2.2 Z1 eZ1).1 ((h.2.2.1 c1).2.2 Z1 eZ1).2.1 (fun c2 => V_iconst dX1_nextWord_108 (V_msk [true, true, false, true, false, false] rfl (((h.2.2.1 c1).2.2 Z1 eZ1).2.2.1 c2))) (fun c2 => V_iconst dX1_nextWord_104 (V_goto (tgt := 109) dX1_nextWord_105 rfl (V_msk [true, true, false, true, false, false] rfl (((h.2.2.1 c1).2.2 Z1 eZ1).2.2.2 c2)))))))))))))))))))) (fun c1 => V_aload_n dX1_nextWord_28 rfl (G_1_15 o_a0.1 o_a0.2.2.2.2.2.2.2.2.2.2.2.2.2.2.2.2.2.2.2.2.1 lf_1_38 dX1_nextWord_29 (V_iload dX1_nextWord_32 rfl (V_iald (t := 100) o_a0.2.2.2.2.2.2.2.2.2.2.2.2.2.2.2.2.2.2.2.2.2.1 (by decide) rfl (h.2.2.2 c1).1 (h.2.2.2 c1).2.1 (Nat.le_of_ble_eq_true rfl) dX1_nextWord_34 (V_aload_n dX1_nextWord_35 rfl (G_1_12 o_a0.1 o_a0.2.2.2.2.2.2.2.2.2.2.2.2.2.1 lf_1_29 dX1_nextWord_36 (V_iload_n dX1_nextWord_39 rfl (V_aaldR (t := 104) o_a0.2.2.2.2.2.2.2.2.2.2.2.2.2.2.1 (by decide) (fun _ _ => rfl) rfl (h.2.2.2 c1).2.2.1 (h.2.2.2 c1).2.2.2.1 (Nat.le_of_ble_eq_true rfl) (o_a0.2.2.2.2.2.2.2.2.2.2.2.2.2.2.2.1 _ ((ix_lt (h.2.2.2 c1).2.2.1 (h.2.2.2 c1).2.2.2.1))).1 dX1_nextWord_40 (V_iload dX1_nextWord_41 rfl (V_iald (t := 100) (o_a0.2.2.2.2.2.2.2.2.2.2.2.2.2.2.2.1 _ ((ix_lt (h.2.2.2 c1).2.2.1 (h.2.2.2 c1).2.2.2.1))).2 (by decide) rfl (h.2.2.2 c1).1 (h.2.2.2 c1).2.1 (Nat.le_of_ble_eq_true rfl) dX1_nextWord_43 (V_iadd dX1_nextWord_44 (V_istore (lv' := [some (r_ a0), some (r_ a1), none, some (i_ v3), some (i_ v4), some (i_ ((Z (a0 + 111) v4.toNat) + (Z (a0 + 83 + v3.toNat) v4.toNat)))]) dX1_nextWord_45 (Nat.le_of_ble_eq_true rfl) rfl (V_aload_n dX1_nextWord_47 rfl (G_1_15 o_a0.1 o_a0.2.2.2.2.2.2.2.2.2.2.2.2.2.2.2.2.2.2.2.2.1 lf_1_38 dX1_nextWord_48 (V_iload dX1_nextWord_51 rfl (V_iload dX1_nextWord_53 rfl (V_aload_n dX1_nextWord_55 rfl (G_4_0 o_a1.1 lf_1_98 dX1_nextWord_56 (V_icmp_lt (tgt := 72) dX1_nextWord_59 rfl (h.2.2.2 c1).2.2.2.2.1 (h.2.2.2 c1).2.2.2.2.2.1 (fun c3 => V_iload dX1_nextWord_72 rfl (V_msk [true, true, false, true, true, false] rfl ((h.2.2.2 c1).2.2.2.2.2.2.1 c3))) (fun c3 => V_iload dX1_nextWord_62 rfl (V_aload_n dX1_nextWord_64 rfl (G_4_0 o_a1.1 lf_1_98 dX1_nextWord_65 (V_isub dX1_nextWord_68 (V_goto (tgt := 74) dX1_nextWord_69 rfl (V_msk [true, true, false, true, true, false] rfl ((h.2.2.2 c1).2.2.2.2.2.2.2 c3)))))))))))))))))))))))))))))
set_option maxRecDepth 20000 in
theorem b_X1_nextWord_74 {k n : Nat} {x : Wx} {Z : Zt} {Q : Option Value → Wx → Zt → Prop} {a0 : Nat} {a1 : Nat} {v3 : Int} {v4 : Int} {b0_ : Nat} {t1 : Int} {t2 : Int} (s_b0 : x.1 b0_ = some (100, 26))
    (h : 0 ≤ t1 ∧ t1 < 26 ∧ (∀ Z1 : Zt, Z1 = up Z b0_ t1.toNat t2 → (V mX1_nextWord k n 19 [some (r_ a0), some (r_ a1), none, some (i_ v3), some (i_ (v4 + 1)), none] [] x Z1 Q))) :
    V mX1_nextWord k n 74 [some (r_ a0), some (r_ a1), none, some (i_ v3), some (i_ v4), none] [i_ t2, i_ t1, r_ b0_] x Z Q :=
  V_iast (t := 100) s_b0 (by decide) (by decide) rfl h.1 h.2.1 (Nat.le_of_ble_eq_true rfl) dX1_nextWord_74 (V_nmZ (fun Z1 eZ1 => V_iinc (lv' := [some (r_ a0), some (r_ a1), none, some (i_ v3), some (i_ (v4 + 1)), none]) dX1_nextWord_75 rfl (Nat.le_of_ble_eq_true rfl) rfl (V_goto (tgt := 19) dX1_nextWord_78 rfl (V_msk [true, true, false, true, true, false] rfl (h.2.2 Z1 eZ1)))))
set_option maxRecDepth 20000 in
theorem b_X1_nextWord_109 {k n : Nat} {x : Wx} {Z : Zt} {Q : Option Value → Wx → Zt → Prop} {a0 : Nat} {a1 : Nat} {v3 : Int} {t0 : Int} (o_a0 : Is1 x a0)
    (h : Rg t0 ∧ (((t0 = 0) → (0 ≤ v3 ∧ v3 < 26 ∧ (V mX1_nextWord k n 129 [some (r_ a0), some (r_ a1), some (i_ t0), some (i_ v3), none, none] [i_ (Z (a0 + 112) v3.toNat), i_ v3, r_ (a0 + 112)] x Z Q))) ∧ ((t0 ≠ 0) → (V mX1_nextWord k n 129 [some (r_ a0), some (r_ a1), some (i_ t0), some (i_ v3), none, none] [i_ 0, i_ v3, r_ (a0 + 112)] x Z Q)))) :
    V mX1_nextWord k n 109 [some (r_ a0), some (r_ a1), none, some (i_ v3), none, none] [i_ t0] x Z Q :=
  V_istore_n (lv' := [some (r_ a0), some (r_ a1), some (i_ t0), some (i_ v3), none, none]) dX1_nextWord_109 (Nat.le_of_ble_eq_true rfl) rfl (V_aload_n dX1_nextWord_110 rfl (G_1_16 o_a0.1 o_a0.2.2.2.2.2.2.2.2.2.2.2.2.2.2.2.2.2.2.2.2.2.2.1 lf_1_41 dX1_nextWord_111 (V_iload_n dX1_nextWord_114 rfl (V_iload_n dX1_nextWord_115 rfl (V_if_eq (tgt := 123) dX1_nextWord_116 rfl h.1 (fun c1 => V_aload_n dX1_nextWord_123 rfl (G_1_16 o_a0.1 o_a0.2.2.2.2.2.2.2.2.2.2.2.2.2.2.2.2.2.2.2.2.2.2.1 lf_1_41 dX1_nextWord_124 (V_iload_n dX1_nextWord_127 rfl (V_iald (t := 100) o_a0.2.2.2.2.2.2.2.2.2.2.2.2.2.2.2.2.2.2.2.2.2.2.2 (by decide) rfl (h.2.1 c1).1 (h.2.1 c1).2.1 (Nat.le_of_ble_eq_true rfl) dX1_nextWord_128 (V_msk [true, true, true, true, false, false] rfl (h.2.1 c1).2.2))))) (fun c1 => V_iconst dX1_nextWord_119 (V_goto (tgt := 129) dX1_nextWord_120 rfl (V_msk [true, true, true, true, false, false] rfl (h.2.2 c1)))))))))
set_option maxRecDepth 20000 in
theorem b_X1_nextWord_129 {k n : Nat} {x : Wx} {Z : Zt} {Q : Option Value → Wx → Zt → Prop} {a0 : Nat} {a1 : Nat} {v2 : Int} {v3 : Int} {b0_ : Nat} {t1 : Int} {t2 : Int} (s_b0 : x.1 b0_ = some (100, 26))
    (h : 0 ≤ t1 ∧ t1 < 26 ∧ (∀ Z1 : Zt, Z1 = up Z b0_ t1.toNat t2 → (V mX1_nextWord k n 4 [some (r_ a0), some (r_ a1), some (i_ v2), some (i_ (v3 + 1)), none, none] [] x Z1 Q))) :
    V mX1_nextWord k n 129 [some (r_ a0), some (r_ a1), some (i_ v2), some (i_ v3), none, none] [i_ t2, i_ t1, r_ b0_] x Z Q :=
  V_iast (t := 100) s_b0 (by decide) (by decide) rfl h.1 h.2.1 (Nat.le_of_ble_eq_true rfl) dX1_nextWord_129 (V_nmZ (fun Z1 eZ1 => V_iinc (lv' := [some (r_ a0), some (r_ a1), some (i_ v2), some (i_ (v3 + 1)), none, none]) dX1_nextWord_130 rfl (Nat.le_of_ble_eq_true rfl) rfl (V_goto (tgt := 4) dX1_nextWord_133 rfl (V_msk [true, true, true, true, false, false] rfl (h.2.2 Z1 eZ1)))))
/-! ===== Code: words ===== -/
/-- the figures of a number, least first -/
def dgt0 (p : Nat) : Nat → Nat → Nat
  | n, 0 => n % p
  | n, j + 1 => dgt0 p (n / p) j
theorem dgt0_lt {p : Nat} (hp : 0 < p) : ∀ (n j : Nat), dgt0 p n j < p
  | n, 0 => Nat.mod_lt n hp
  | n, j + 1 => dgt0_lt hp (n / p) j
theorem dgt0_z {p : Nat} : ∀ j : Nat, dgt0 p 0 j = 0
  | 0 => Nat.zero_mod p
  | j + 1 => by show dgt0 p (0 / p) j = 0; rw [Nat.zero_div]; exact dgt0_z j
theorem dgt0_succ {p : Nat} (hp : 2 ≤ p) : ∀ (j n : Nat), (∀ i : Nat, i < j → dgt0 p n i + 1 = p) → dgt0 p n j + 1 < p → ∀ i : Nat, dgt0 p (n + 1) i = if i < j then 0 else if i = j then dgt0 p n j + 1 else dgt0 p n i
  | 0, n, _, h, i => by
    have h' : n % p + 1 < p := h
    have hd := Nat.div_add_mod n p
    have e1 : (n + 1) % p = n % p + 1 := by
      rw [show n + 1 = (n % p + 1) + p * (n / p) by omega, Nat.add_mul_mod_self_left, Nat.mod_eq_of_lt h']
    have e2 : (n + 1) / p = n / p := by
      rw [show n + 1 = (n % p + 1) + p * (n / p) by omega, Nat.add_mul_div_left _ _ (by omega), Nat.div_eq_of_lt h', Nat.zero_add]
    rw [if_neg (Nat.not_lt_zero i)]
    cases i with
    | zero => rw [if_pos rfl]; exact e1
    | succ i => rw [if_neg (by omega)]; show dgt0 p ((n + 1) / p) i = dgt0 p (n / p) i; rw [e2]
  | j + 1, n, h1, h2, i => by
    have h0 : n % p + 1 = p := h1 0 (by omega)
    have hd := Nat.div_add_mod n p
    have e0 : n + 1 = p * (n / p + 1) := by rw [Nat.mul_add, Nat.mul_one]; omega
    have e1 : (n + 1) % p = 0 := by rw [e0]; exact Nat.mul_mod_right p _
    have e2 : (n + 1) / p = n / p + 1 := by rw [e0]; exact Nat.mul_div_cancel_left _ (by omega)
    have ih := dgt0_succ hp j (n / p) (fun i hi => h1 (i + 1) (by omega)) h2
    cases i with
    | zero => rw [if_pos (by omega)]; exact e1
    | succ i =>
      show dgt0 p ((n + 1) / p) i = if i + 1 < j + 1 then 0 else if i + 1 = j + 1 then dgt0 p (n / p) j + 1 else dgt0 p (n / p) i
      rw [e2, ih i]
      by_cases c1 : i < j
      · rw [if_pos c1, if_pos (by omega)]
      · rw [if_neg c1, if_neg (show ¬ i + 1 < j + 1 by omega)]
        by_cases c2 : i = j
        · rw [if_pos c2, if_pos (by omega)]
        · rw [if_neg c2, if_neg (by omega)]
theorem dgt0_wrap {p : Nat} (hp : 2 ≤ p) : ∀ (r n : Nat), (∀ i : Nat, i < r → dgt0 p n i + 1 = p) → ∀ i : Nat, i < r → dgt0 p (n + 1) i = 0
  | 0, _, _, i, hi => absurd hi (Nat.not_lt_zero i)
  | r + 1, n, h1, i, hi => by
    have h0 : n % p + 1 = p := h1 0 (by omega)
    have hd := Nat.div_add_mod n p
    have e0 : n + 1 = p * (n / p + 1) := by rw [Nat.mul_add, Nat.mul_one]; omega
    have e1 : (n + 1) % p = 0 := by rw [e0]; exact Nat.mul_mod_right p _
    have e2 : (n + 1) / p = n / p + 1 := by rw [e0]; exact Nat.mul_div_cancel_left _ (by omega)
    cases i with
    | zero => exact e1
    | succ i =>
      show dgt0 p ((n + 1) / p) i = 0
      rw [e2]
      exact dgt0_wrap hp r (n / p) (fun i hi => h1 (i + 1) (by omega)) i (by omega)
def dgI (p : Int) (n j : Nat) : Int := (dgt0 p.toNat n j : Int)
/-- the row that r rows make with the figures d -/
def lcw (p : Int) (B : Nat → Nat → Int) (r : Nat) (d : Nat → Int) (i : Nat) : Int := smT r (fun j => d j * B j i) % p
theorem lcw_ext {p : Int} {B B' : Nat → Nat → Int} {r : Nat} {d d' : Nat → Int} {i : Nat} (h : ∀ j : Nat, j < r → d j = d' j ∧ B j i = B' j i) : lcw p B r d i = lcw p B' r d' i := by
  unfold lcw
  rw [smT_ext (f := fun j => d j * B j i) (g := fun j => d' j * B' j i) (fun j hj => by show d j * B j i = d' j * B' j i; rw [(h j hj).1, (h j hj).2])]
theorem lcw_upf {p : Int} {B : Nat → Nat → Int} {r : Nat} {d : Nat → Int} {i j : Nat} {v : Int} (hj : j < r) : lcw p B r (upf d j v) i = (lcw p B r d i + (v - d j) * B j i) % p := by
  unfold lcw
  have e : (fun q => upf d j v q * B q i) = upf (fun q => d q * B q i) j (v * B j i) := funext fun q => by
    unfold upf
    by_cases c : q = j
    · rw [if_pos c, if_pos c, c]
    · rw [if_neg c, if_neg c]
  rw [e, smT_upf hj, Int.emod_add_emod, Int.sub_mul]
theorem lcw_rg {p : Int} (hp : 0 < p) (B : Nat → Nat → Int) (r : Nat) (d : Nat → Int) (i : Nat) : 0 ≤ lcw p B r d i ∧ lcw p B r d i < p := emr _ hp
theorem sp_X1_addRow {k n : Nat} {x : Wx} {Z : Zt} {Q : Option Value → Wx → Zt → Prop} {a f b c : Nat} {v : Int} (o : Is1 x a) (of : Is4 x f) (sb : x.1 b = some (100, 26)) (sc : x.1 c = some (100, 26)) {p : Int} {len : Nat} (hp : IsP p) (hf : Z f 0 = p) (hl : Z a 0 = (len : Int) ∧ len ≤ 26) (hv : -20 ≤ v ∧ v ≤ 20) (hb : ∀ i : Nat, i < len → 0 ≤ Z b i ∧ Z b i < p) (hc : ∀ i : Nat, i < len → 0 ≤ Z c i ∧ Z c i < p) (hn : b ≠ a ∧ b ≠ f) (h : ∀ Z' : Zt, ((∀ i : Nat, i < len → Z' b i = (Z b i + v * Z c i) % p) ∧ (∀ i : Nat, len ≤ i → Z' b i = Z b i) ∧ Oth Z Z' (fun q => q = b)) → Q none x Z') : V mX1_addRow k n 0 [some (r_ a), some (r_ f), some (r_ b), some (r_ c), some (i_ v), none] [] x Z Q := by
  have hpr := hp.rg
  have lp : ∀ (m i : Nat) (w : Int) (Z1 : Zt), w = i → i + m = len → (∀ i0 : Nat, Z1 b i0 = if i0 < i then (Z b i0 + v * Z c i0) % p else Z b i0) → Oth Z Z1 (fun q => q = b) → V mX1_addRow k n 3 [some (r_ a), some (r_ f), some (r_ b), some (r_ c), some (i_ v), some (i_ w)] [] x Z1 Q := by
    intro m
    induction m with
    | zero =>
      intro i w Z1 hw hi hz ho
      refine b_X1_addRow_3 o of sb sc ?_
      rw [ho a (fun e => hn.1 e.symm), hl.1]
      exact ⟨⟨by omega, by omega⟩, ⟨by omega, by omega⟩, fun _ => h Z1 ⟨fun j hj => by rw [hz j, if_pos (by omega)], fun j hj => by rw [hz j, if_neg (by omega)], ho⟩, fun c2 => by omega⟩
    | succ m ih =>
      intro i w Z1 hw hi hz ho
      have eb : Z1 b i = Z b i := by rw [hz i, if_neg (by omega)]
      have ec : Z1 c i = Z c i := by
        by_cases e : c = b
        · rw [e]; exact eb
        · rw [ho c e]
      have hb1 := hb i (by omega)
      have hc1 := hc i (by omega)
      have hm : -20 * 13 ≤ v * Z c i ∧ v * Z c i ≤ 20 * 13 := by
        have h1 : v * Z c i ≤ 20 * Z c i := Int.mul_le_mul_of_nonneg_right hv.2 hc1.1
        have h2 : (-20) * Z c i ≤ v * Z c i := Int.mul_le_mul_of_nonneg_right hv.1 hc1.1
        omega
      refine b_X1_addRow_3 o of sb sc ?_
      rw [ho a (fun e => hn.1 e.symm), hl.1, ho f (fun e => hn.2 e.symm), hf, show w.toNat = i by omega, eb, ec]
      refine ⟨⟨by omega, by omega⟩, ⟨by omega, by omega⟩, fun c2 => by omega, fun _ => ⟨by omega, by omega, ⟨by omega, by omega⟩, by omega, by omega, fun Z2 e2 => ih (i + 1) (w + 1) Z2 (by omega) (by omega) (fun j => ?_) (fun q hq => ?_)⟩⟩
      · rw [e2, up_at]
        by_cases c3 : j = i
        · rw [if_pos c3, if_pos (by omega), c3]
        · rw [if_neg c3, hz j]
          by_cases c4 : j < i
          · rw [if_pos c4, if_pos (by omega)]
          · rw [if_neg c4, if_neg (by omega)]
      · rw [e2, up_row _ _ _ _ _ hq]; exact ho q hq
  exact b_X1_addRow_0 (lp len 0 0 Z rfl (by omega) (fun j => by rw [if_neg (by omega)]) Oth.rf)
/-- at how many of the first places two rows are unlike -/
def unl (A D : Nat → Int) : Nat → Int
  | 0 => 0
  | m + 1 => (if A m = D m then 0 else 1) + unl A D m
theorem unl_rg (A D : Nat → Int) : ∀ m : Nat, 0 ≤ unl A D m ∧ unl A D m ≤ m
  | 0 => ⟨Int.le_refl 0, Int.le_refl 0⟩
  | m + 1 => by
    have := unl_rg A D m
    unfold unl
    split <;> omega
theorem unl_ext {A A' D D' : Nat → Int} : ∀ {m : Nat}, (∀ i : Nat, i < m → A i = A' i ∧ D i = D' i) → unl A D m = unl A' D' m
  | 0, _ => rfl
  | m + 1, h => by
    unfold unl
    rw [unl_ext (m := m) (fun i hi => h i (by omega)), (h m (by omega)).1, (h m (by omega)).2]
theorem sp_X1_unlikePlaces {k n : Nat} {x : Wx} {Z : Zt} {Q : Option Value → Wx → Zt → Prop} {a b : Nat} (o : Is1 x a) (sb : x.1 b = some (100, 26)) {len : Nat} (hl : Z a 0 = (len : Int) ∧ len ≤ 26) (hb : ∀ i : Nat, i < len → Rg (Z b i) ∧ Rg (Z (a + 110) i)) (h : Q (some (i_ (unl (Z b) (Z (a + 110)) len))) x Z) : V mX1_unlikePlaces k n 0 [some (r_ a), some (r_ b), none, none] [] x Z Q := by
  have lp : ∀ (m i : Nat) (w : Int), w = i → i + m = len → V mX1_unlikePlaces k n 4 [some (r_ a), some (r_ b), some (i_ (unl (Z b) (Z (a + 110)) i)), some (i_ w)] [] x Z Q := by
    intro m
    induction m with
    | zero =>
      intro i w hw hi
      refine b_X1_unlikePlaces_4 o sb ?_
      rw [hl.1, show i = len by omega]
      exact ⟨⟨by omega, by omega⟩, ⟨by omega, by omega⟩, fun _ => h, fun c2 => by omega⟩
    | succ m ih =>
      intro i w hw hi
      have hi2 := ih (i + 1) (w + 1) (by omega) (by omega)
      unfold unl at hi2
      refine b_X1_unlikePlaces_4 o sb ?_
      rw [hl.1, show w.toNat = i by omega]
      refine ⟨⟨by omega, by omega⟩, ⟨by omega, by omega⟩, fun c2 => by omega, fun _ => ⟨by omega, by omega, (hb i (by omega)).1, (hb i (by omega)).2, fun c3 => b_X1_unlikePlaces_30 ?_, fun c3 => b_X1_unlikePlaces_30 ?_⟩⟩
      · rw [if_neg c3] at hi2; rw [Int.add_comm (unl _ _ _) 1]; exact hi2
      · rw [if_pos c3] at hi2; rw [Int.add_comm (unl _ _ _) 0]; exact hi2
  exact b_X1_unlikePlaces_0 (lp len 0 0 rfl (by omega))
theorem sp_X1_beginWords {k n : Nat} {x : Wx} {Z : Zt} {Q : Option Value → Wx → Zt → Prop} {a : Nat} (o : Is1 x a) (h : ∀ Z' : Zt, ((∀ i : Nat, i < 26 → Z' (a + 111) i = 0 ∧ Z' (a + 112) i = 0) ∧ Oth Z Z' (fun q => q = a + 111 ∨ q = a + 112)) → Q none x Z') : V mX1_beginWords k n 0 [some (r_ a)] [] x Z Q := by
  refine b_X1_beginWords_0 o fun Z1 e1 Z2 e2 => h Z2 ⟨fun i hi => ⟨?_, ?_⟩, fun q hq => ?_⟩
  · rw [e2, fill_row _ _ _ _ _ (by omega), e1, fill_at _ _ _ _ hi]
  · rw [e2, fill_at _ _ _ _ hi]
  · rw [e2, fill_row _ _ _ _ _ (fun e => hq (Or.inr e)), e1, fill_row _ _ _ _ _ (fun e => hq (Or.inl e))]
theorem sp_X1_drawNext {k n : Nat} {x : Wx} {Z : Zt} {Q : Option Value → Wx → Zt → Prop} {v : Int} (h : Q (some (i_ (v * 1103515245 + 12345))) x Z) : V mX1_drawNext k n 0 [some (i_ v)] [] x Z Q := b_X1_drawNext_0 h
/-- the figures below j gone -/
def zd (p : Int) (n j : Nat) : Nat → Int := fun i => if i < j then 0 else dgI p n i
theorem lcw_wr {p : Int} (hp : 0 < p) {B : Nat → Nat → Int} {r n j i : Nat} (hj : j < r) (h : dgI p n j + 1 = p) : lcw p B r (upf (zd p n j) j (dgI p n j + 1)) i = lcw p B r (zd p n (j + 1)) i := by
  have e : zd p n (j + 1) = upf (zd p n j) j 0 := funext fun q => by
    unfold zd upf
    by_cases c : q = j
    · rw [if_pos c, if_pos (by omega)]
    · rw [if_neg c]
      show _ = if q < j then 0 else dgI p n q
      by_cases c2 : q < j
      · rw [if_pos c2, if_pos (by omega)]
      · rw [if_neg c2, if_neg (by omega)]
  rw [e, lcw_upf hj, lcw_upf hj, h]
  generalize lcw p B r (zd p n j) i = L
  generalize zd p n j j = D
  rw [show L + (p - D) * B j i = (L + (0 - D) * B j i) + p * B j i by rw [Int.sub_mul, Int.sub_mul, Int.zero_mul]; omega, Int.add_mul_emod_self_left]
theorem sp_X1_nextWord {k n0 : Nat} {x : Wx} {Z : Zt} {Q : Option Value → Wx → Zt → Prop} {a f : Nat} (o : Is1 x a) (of : Is4 x f) {p : Int} {B : Nat → Nat → Int} {len r n : Nat} (hp : IsP p) (hf : Z f 0 = p) (hl : Z a 0 = (len : Int) ∧ len ≤ 26) (hr : Z a 1 = (r : Int) ∧ r ≤ 26) (hB : ∀ j : Nat, j < r → ∀ i : Nat, i < len → Z (a + 83 + j) i = B j i ∧ 0 ≤ B j i ∧ B j i < p) (hw : ∀ i : Nat, i < len → Z (a + 111) i = lcw p B r (dgI p n) i) (hfg : ∀ j : Nat, j < r → Z (a + 112) j = dgI p n j) (hfa : f < a ∨ a + 113 ≤ f) (h : ∀ Z' : Zt, ((∀ i : Nat, i < len → Z' (a + 111) i = lcw p B r (dgI p (n + 1)) i) ∧ (∀ j : Nat, j < r → Z' (a + 112) j = dgI p (n + 1) j) ∧ Oth Z Z' (fun q => q = a + 111 ∨ q = a + 112)) → Q none x Z') : V mX1_nextWord k n0 0 [some (r_ a), some (r_ f), none, none, none, none] [] x Z Q := by
  have hpr := hp.rg
  have hdl : ∀ m j : Nat, 0 ≤ dgI p m j ∧ dgI p m j < p := fun m j => by
    have := dgt0_lt (p := p.toNat) (by omega) m j
    unfold dgI; omega
  -- the end
  have fin : ∀ (d : Nat → Int) (Z1 : Zt), (∀ j : Nat, j < r → d j = dgI p (n + 1) j) → (∀ i : Nat, i < len → Z1 (a + 111) i = lcw p B r d i) → (∀ j : Nat, j < r → Z1 (a + 112) j = d j) → Oth Z Z1 (fun q => q = a + 111 ∨ q = a + 112) → Q none x Z1 := fun d Z1 hd h1 h2 h3 => h Z1 ⟨fun i hi => by rw [h1 i hi]; exact lcw_ext (fun j hj => ⟨hd j hj, rfl⟩), fun j hj => by rw [h2 j hj, hd j hj], h3⟩
  have lp : ∀ (m j : Nat) (w : Int) (Z1 : Zt), w = j → j + m = r → (∀ i : Nat, i < j → dgI p n i + 1 = p) → (∀ i : Nat, i < len → Z1 (a + 111) i = lcw p B r (zd p n j) i) → (∀ i : Nat, i < r → Z1 (a + 112) i = zd p n j i) → Oth Z Z1 (fun q => q = a + 111 ∨ q = a + 112) → V mX1_nextWord k n0 4 [some (r_ a), some (r_ f), some (i_ 1), some (i_ w), none, none] [] x Z1 Q := by
    intro m
    induction m with
    | zero =>
      intro j w Z1 hw1 hj hc h1 h2 ho
      refine b_X1_nextWord_4 o ?_
      rw [ho a (by omega), hr.1]
      refine ⟨⟨by omega, by omega⟩, ⟨by omega, by omega⟩, fun _ => fin (zd p n j) Z1 (fun i hi => ?_) h1 h2 ho, fun c2 => by omega⟩
      have := dgt0_wrap (p := p.toNat) (by omega) r n (fun i hi => by have := hc i (by omega); unfold dgI at this; omega) i hi
      unfold zd dgI
      rw [if_pos (by omega), this]; rfl
    | succ m ih =>
      intro j w Z1 hw1 hj hc h1 h2 ho
      have hjr : j < r := by omega
      -- behind the figure
      have lp2 : ∀ (m2 i : Nat) (u : Int) (Z2 : Zt), u = i → i + m2 = len → (∀ q, q ≠ a + 111 → Z2 q = Z1 q) → (∀ q : Nat, q < len → Z2 (a + 111) q = if q < i then lcw p B r (upf (zd p n j) j (dgI p n j + 1)) q else lcw p B r (zd p n j) q) → V mX1_nextWord k n0 19 [some (r_ a), some (r_ f), none, some (i_ w), some (i_ u), none] [] x Z2 Q := by
        intro m2
        induction m2 with
        | zero =>
          intro i u Z2 hu hi ho2 hz2
          have hd := hdl n j
          have e112 : Z2 (a + 112) j = dgI p n j := by
            rw [ho2 _ (by omega), h2 j hjr]; unfold zd; rw [if_neg (by omega)]
          refine b_X1_nextWord_19 o of ?_
          rw [ho2 a (by omega), ho a (by omega), hl.1, show w.toNat = j by omega, e112]
          refine ⟨⟨by omega, by omega⟩, ⟨by omega, by omega⟩, fun _ => ⟨by omega, by omega, fun Z3 e3 => ?_⟩, fun c2 => by omega⟩
          have e3j : Z3 (a + 112) j = dgI p n j + 1 := by rw [e3, up_at, if_pos rfl]
          have e3f : Z3 f 0 = p := by rw [e3, up_row _ _ _ _ _ (by omega), ho2 f (by omega), ho f (by omega)]; exact hf
          have o3 : Oth Z Z3 (fun q => q = a + 111 ∨ q = a + 112) := fun q hq => by
            rw [e3, up_row _ _ _ _ _ (fun e => hq (Or.inr e)), ho2 q (fun e => hq (Or.inl e))]; exact ho q hq
          have w3 : ∀ q : Nat, q < len → Z3 (a + 111) q = lcw p B r (upf (zd p n j) j (dgI p n j + 1)) q := fun q hq => by
            rw [e3, up_row _ _ _ _ _ (by omega), hz2 q hq, if_pos (by omega)]
          have f3 : ∀ q : Nat, q < r → Z3 (a + 112) q = upf (zd p n j) j (dgI p n j + 1) q := fun q hq => by
            rw [e3, up_at]
            unfold upf
            by_cases c3 : q = j
            · rw [if_pos c3, if_pos c3]
            · rw [if_neg c3, if_neg c3, ho2 _ (by omega)]; exact h2 q hq
          rw [e3j, e3f]
          refine ⟨⟨by omega, by omega⟩, ⟨by omega, by omega⟩, fun c3 => b_X1_nextWord_109 o ⟨⟨by decide, by decide⟩, fun _ => ?_, fun c4 => absurd rfl c4⟩, fun c3 => b_X1_nextWord_109 o ⟨⟨by decide, by decide⟩, fun c4 => absurd c4 (by decide), fun _ => ?_⟩⟩
          · -- no carry
            rw [show w.toNat = j by omega, e3j]
            refine ⟨by omega, by omega, b_X1_nextWord_129 o.2.2.2.2.2.2.2.2.2.2.2.2.2.2.2.2.2.2.2.2.2.2.2 ⟨by omega, by omega, fun Z4 e4 => ?_⟩⟩
            have e4z : Z4 = Z3 := by
              rw [e4, show w.toNat = j by omega]
              funext q i
              by_cases c5 : q = a + 112 ∧ i = j
              · rw [c5.1, c5.2, up_self]; exact e3j.symm
              · rw [up_ne _ _ _ _ _ _ (by omega)]
            rw [e4z]
            refine b_X1_nextWord_4 o ?_
            rw [o3 a (by omega), hr.1]
            have hs := dgt0_succ (p := p.toNat) (by omega) j n (fun i hi => by have := hc i hi; unfold dgI at this; omega) (by unfold dgI at c3; omega)
            have hfin : Q none x Z3 := fin _ Z3 (fun i hi => by
              unfold upf zd dgI
              rw [hs i]
              by_cases c5 : i = j
              · rw [if_pos c5, if_neg (by omega), if_pos c5]; rfl
              · rw [if_neg c5]
                by_cases c6 : i < j
                · rw [if_pos c6, if_pos c6]; rfl
                · rw [if_neg c6, if_neg c6, if_neg c5]) w3 f3 o3
            exact ⟨⟨by omega, by omega⟩, ⟨by omega, by omega⟩, fun _ => hfin, fun _ => ⟨⟨by decide, by decide⟩, fun _ => hfin, fun c6 => absurd rfl c6⟩⟩
          · refine b_X1_nextWord_129 o.2.2.2.2.2.2.2.2.2.2.2.2.2.2.2.2.2.2.2.2.2.2.2 ⟨by omega, by omega, fun Z4 e4 => ?_⟩
            have hdp : dgI p n j + 1 = p := by omega
            refine ih (j + 1) (w + 1) Z4 (by omega) (by omega) (fun i hi => ?_) (fun i hi => ?_) (fun i hi => ?_) (fun q hq => ?_)
            · by_cases c5 : i = j
              · rw [c5]; exact hdp
              · exact hc i (by omega)
            · rw [e4, up_row _ _ _ _ _ (by omega), w3 i hi]
              exact lcw_wr (by omega) hjr hdp
            · rw [e4, show w.toNat = j by omega, up_at]
              unfold zd
              by_cases c5 : i = j
              · rw [if_pos c5, if_pos (by omega)]
              · rw [if_neg c5, f3 i hi]
                unfold upf zd
                rw [if_neg c5]
                by_cases c6 : i < j
                · rw [if_pos c6, if_pos (by omega)]
                · rw [if_neg c6, if_neg (by omega)]
            · rw [e4, up_row _ _ _ _ _ (fun e => hq (Or.inr e))]; exact o3 q hq
        | succ m2 ih2 =>
          intro i u Z2 hu hi ho2 hz2
          have hBj := hB j hjr i (by omega)
          have eB : Z2 (a + 83 + j) i = B j i := by rw [ho2 _ (by omega), ho _ (by omega)]; exact hBj.1
          have eW : Z2 (a + 111) i = lcw p B r (zd p n j) i := by rw [hz2 i (by omega), if_neg (by omega)]
          have eF : Z2 f 0 = p := by rw [ho2 f (by omega), ho f (by omega)]; exact hf
          have hW := lcw_rg (p := p) (by omega) B r (zd p n j) i
          have hzj : zd p n j j = dgI p n j := by unfold zd; rw [if_neg (by omega)]
          have tail : ∀ t : Int, t = (lcw p B r (zd p n j) i + B j i) % p → V mX1_nextWord k n0 74 [some (r_ a), some (r_ f), none, some (i_ w), some (i_ u), none] [i_ t, i_ u, r_ (a + 111)] x Z2 Q := fun t ht => by
            refine b_X1_nextWord_74 o.2.2.2.2.2.2.2.2.2.2.2.2.2.2.2.2.2.2.2.2.2.1 ⟨by omega, by omega, fun Z3 e3 => ih2 (i + 1) (u + 1) Z3 (by omega) (by omega) (fun q hq => ?_) (fun q hq => ?_)⟩
            · rw [e3, up_row _ _ _ _ _ hq]; exact ho2 q hq
            · rw [e3, show u.toNat = i by omega, up_at]
              by_cases c5 : q = i
              · rw [if_pos c5, if_pos (by omega), c5, ht, lcw_upf hjr, hzj, show dgI p n j + 1 - dgI p n j = 1 by omega, Int.one_mul]
              · rw [if_neg c5, hz2 q hq]
                by_cases c6 : q < i
                · rw [if_pos c6, if_pos (by omega)]
                · rw [if_neg c6, if_neg (by omega)]
          refine b_X1_nextWord_19 o of ?_
          rw [ho2 a (by omega), ho a (by omega), hl.1, show w.toNat = j by omega, show u.toNat = i by omega, eB, eW, eF]
          refine ⟨⟨by omega, by omega⟩, ⟨by omega, by omega⟩, fun c2 => by omega, fun _ => ⟨by omega, by omega, by omega, by omega, ⟨by omega, by omega⟩, ⟨by omega, by omega⟩, fun c3 => tail _ ?_, fun c3 => tail _ ?_⟩⟩
          · rw [Int.emod_eq_of_lt (by omega) c3]
          · rw [← Int.emod_eq_of_lt (a := lcw p B r (zd p n j) i + B j i - p) (b := p) (by omega) (by omega), Int.sub_emod_right]
      refine b_X1_nextWord_4 o ?_
      rw [ho a (by omega), hr.1]
      exact ⟨⟨by omega, by omega⟩, ⟨by omega, by omega⟩, fun c2 => by omega, fun _ => ⟨⟨by decide, by decide⟩, fun c3 => absurd c3 (by decide), fun _ => lp2 len 0 0 Z1 rfl (by omega) (fun _ _ => rfl) (fun q hq => by rw [if_neg (by omega)]; exact h1 q hq)⟩⟩
  have hz0 : zd p n 0 = dgI p n := funext fun i => by unfold zd; rw [if_neg (by omega)]
  exact b_X1_nextWord_0 (lp r 0 0 Z rfl (by omega) (fun i hi => absurd hi (Nat.not_lt_zero i)) (fun i hi => by rw [hz0]; exact hw i hi) (fun i hi => by rw [hz0]; exact hfg i hi) Oth.rf)
