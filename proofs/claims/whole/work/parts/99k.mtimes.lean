/-! ===== the reference: so many times a class ===== -/
theorem dX12_timesOf_0 : decode cX12_timesOf 0 = .ok (.aload_n 0, 1) := by decide +kernel
theorem dX12_timesOf_1 : decode cX12_timesOf 1 = .ok (.iload_n 1, 1) := by decide +kernel
theorem dX12_timesOf_2 : decode cX12_timesOf 2 = .ok (.sipush 2920, 3) := by decide +kernel
theorem dX12_timesOf_5 : decode cX12_timesOf 5 = .ok (.invokevirtual 375, 3) := by decide +kernel
theorem dX12_timesOf_8 : decode cX12_timesOf 8 = .ok (.iload_n 2, 1) := by decide +kernel
theorem dX12_timesOf_9 : decode cX12_timesOf 9 = .ok (.ifCond .ge 10, 3) := by decide +kernel
theorem dX12_timesOf_12 : decode cX12_timesOf 12 = .ok (.aload_n 0, 1) := by decide +kernel
theorem dX12_timesOf_13 : decode cX12_timesOf 13 = .ok (.sipush 2920, 3) := by decide +kernel
theorem dX12_timesOf_16 : decode cX12_timesOf 16 = .ok (.invokevirtual 378, 3) := by decide +kernel
theorem dX12_timesOf_19 : decode cX12_timesOf 19 = .ok (.iload_n 2, 1) := by decide +kernel
theorem dX12_timesOf_20 : decode cX12_timesOf 20 = .ok (.ifCond .ge 8, 3) := by decide +kernel
theorem dX12_timesOf_23 : decode cX12_timesOf 23 = .ok (.iload_n 2, 1) := by decide +kernel
theorem dX12_timesOf_24 : decode cX12_timesOf 24 = .ok (.ineg, 1) := by decide +kernel
theorem dX12_timesOf_25 : decode cX12_timesOf 25 = .ok (.goto 4, 3) := by decide +kernel
theorem dX12_timesOf_28 : decode cX12_timesOf 28 = .ok (.iload_n 2, 1) := by decide +kernel
theorem dX12_timesOf_29 : decode cX12_timesOf 29 = .ok (.istore 4, 2) := by decide +kernel
theorem dX12_timesOf_31 : decode cX12_timesOf 31 = .ok (.aload_n 0, 1) := by decide +kernel
theorem dX12_timesOf_32 : decode cX12_timesOf 32 = .ok (.sipush 2915, 3) := by decide +kernel
theorem dX12_timesOf_35 : decode cX12_timesOf 35 = .ok (.invokevirtual 360, 3) := by decide +kernel
theorem dX12_timesOf_38 : decode cX12_timesOf 38 = .ok (.iload 4, 2) := by decide +kernel
theorem dX12_timesOf_40 : decode cX12_timesOf 40 = .ok (.ifCond .le 46, 3) := by decide +kernel
theorem dX12_timesOf_43 : decode cX12_timesOf 43 = .ok (.iload 4, 2) := by decide +kernel
theorem dX12_timesOf_45 : decode cX12_timesOf 45 = .ok (.iconst 2, 1) := by decide +kernel
theorem dX12_timesOf_46 : decode cX12_timesOf 46 = .ok (.irem, 1) := by decide +kernel
theorem dX12_timesOf_47 : decode cX12_timesOf 47 = .ok (.iconst 1, 1) := by decide +kernel
theorem dX12_timesOf_48 : decode cX12_timesOf 48 = .ok (.if_icmp .ne 16, 3) := by decide +kernel
theorem dX12_timesOf_51 : decode cX12_timesOf 51 = .ok (.aload_n 0, 1) := by decide +kernel
theorem dX12_timesOf_52 : decode cX12_timesOf 52 = .ok (.sipush 2915, 3) := by decide +kernel
theorem dX12_timesOf_55 : decode cX12_timesOf 55 = .ok (.sipush 2920, 3) := by decide +kernel
theorem dX12_timesOf_58 : decode cX12_timesOf 58 = .ok (.sipush 2915, 3) := by decide +kernel
theorem dX12_timesOf_61 : decode cX12_timesOf 61 = .ok (.invokevirtual 381, 3) := by decide +kernel
theorem dX12_timesOf_64 : decode cX12_timesOf 64 = .ok (.aload_n 0, 1) := by decide +kernel
theorem dX12_timesOf_65 : decode cX12_timesOf 65 = .ok (.sipush 2920, 3) := by decide +kernel
theorem dX12_timesOf_68 : decode cX12_timesOf 68 = .ok (.sipush 2920, 3) := by decide +kernel
theorem dX12_timesOf_71 : decode cX12_timesOf 71 = .ok (.sipush 2920, 3) := by decide +kernel
theorem dX12_timesOf_74 : decode cX12_timesOf 74 = .ok (.invokevirtual 381, 3) := by decide +kernel
theorem dX12_timesOf_77 : decode cX12_timesOf 77 = .ok (.iload 4, 2) := by decide +kernel
theorem dX12_timesOf_79 : decode cX12_timesOf 79 = .ok (.iconst 2, 1) := by decide +kernel
theorem dX12_timesOf_80 : decode cX12_timesOf 80 = .ok (.idiv, 1) := by decide +kernel
theorem dX12_timesOf_81 : decode cX12_timesOf 81 = .ok (.istore 4, 2) := by decide +kernel
theorem dX12_timesOf_83 : decode cX12_timesOf 83 = .ok (.goto (-45), 3) := by decide +kernel
theorem dX12_timesOf_86 : decode cX12_timesOf 86 = .ok (.aload_n 0, 1) := by decide +kernel
theorem dX12_timesOf_87 : decode cX12_timesOf 87 = .ok (.sipush 2915, 3) := by decide +kernel
theorem dX12_timesOf_90 : decode cX12_timesOf 90 = .ok (.iload_n 3, 1) := by decide +kernel
theorem dX12_timesOf_91 : decode cX12_timesOf 91 = .ok (.invokevirtual 375, 3) := by decide +kernel
theorem dX12_timesOf_94 : decode cX12_timesOf 94 = .ok (.return_, 1) := by decide +kernel
set_option maxRecDepth 20000 in
theorem b_X12_timesOf_0 {k n : Nat} {x : Wx} {Z : Zt} {Q : Option Value → Wx → Zt → Prop} {a0 : Nat} {v1 : Int} {v2 : Int} {v3 : Int} (o_a0 : Is12 x a0)
    (h : ∃ g1 : UV, (((0 ≤ v1 ∧ v1 ≤ 2995) ∧ (0 ≤ (2920 : Int) ∧ (2920 : Int) ≤ 2995) ∧ (v1 + 5 ≤ (2920 : Int) ∨ (2920 : Int) + 5 ≤ v1)) ∧ KC Z a0 v1.toNat g1 ∧ (∀ (Z'1 : Zt), (KC Z'1 a0 (2920 : Int).toNat g1 ∧ KF a0 (2920 : Int).toNat Z Z'1) → (Rg v2 ∧ (((0 ≤ v2) → (V mX12_timesOf k n 19 [some (r_ a0), none, some (i_ v2), some (i_ v3), none] [] x Z'1 Q)) ∧ ((v2 < 0) → (∃ g2 : Int, (∃ g3 : Int, (∃ g4 : UV, (((IsP g2 ∧ Z'1 a0 11 = g2) ∧ g3 ≤ 2) ∧ RP g2 g3 g4 ∧ (0 ≤ (2920 : Int) ∧ (2920 : Int) ≤ 2995) ∧ KC Z'1 a0 (2920 : Int).toNat g4 ∧ (∀ (Z'2 : Zt), (KC Z'2 a0 (2920 : Int).toNat (cneg g2 g4) ∧ KF a0 (2920 : Int).toNat Z'1 Z'2) → (V mX12_timesOf k n 19 [some (r_ a0), none, some (i_ v2), some (i_ v3), none] [] x Z'2 Q)))))))))))) :
    V mX12_timesOf k n 0 [some (r_ a0), some (i_ v1), some (i_ v2), some (i_ v3), none] [] x Z Q :=
  V_aload_n dX12_timesOf_0 rfl (V_iload_n dX12_timesOf_1 rfl (V_sipush dX12_timesOf_2 rfl (Exists.elim h (fun g1 w1 => V_callV (k' := 0) (n' := 0) (t := 12) (q := (RX12, TX12, 46)) [i_ v1, i_ 2920] [] okX12_copiesClass o_a0.1 rfl rfl lm_12_375 liX12_copiesClass lqX12_copiesClass (Nat.le_of_ble_eq_true rfl) (Nat.le_of_ble_eq_true rfl) (Nat.le_of_ble_eq_true rfl) (cat_of rfl) (Nat.le_of_ble_eq_true rfl) (Nat.zero_le _) (Nat.zero_le _) rfl dX12_timesOf_5 (sp_X12_copiesClass o_a0 w1.1 w1.2.1 (fun Z'1 p1 => V_iload_n dX12_timesOf_8 rfl (V_if_ge (tgt := 19) dX12_timesOf_9 rfl (w1.2.2 Z'1 p1).1 (fun c1 => V_msk [true, false, true, true, false] rfl ((w1.2.2 Z'1 p1).2.1 c1)) (fun c1 => V_aload_n dX12_timesOf_12 rfl (V_sipush dX12_timesOf_13 rfl (Exists.elim ((w1.2.2 Z'1 p1).2.2 c1) (fun g2 w2 => Exists.elim w2 (fun g3 w3 => Exists.elim w3 (fun g4 w4 => V_callV (k' := 0) (n' := 0) (t := 12) (q := (RX12, TX12, 46)) [i_ 2920] [] okX12_turned o_a0.1 rfl rfl lm_12_378 liX12_turned lqX12_turned (Nat.le_of_ble_eq_true rfl) (Nat.le_of_ble_eq_true rfl) (Nat.le_of_ble_eq_true rfl) (cat_of rfl) (Nat.le_of_ble_eq_true rfl) (Nat.zero_le _) (Nat.zero_le _) rfl dX12_timesOf_16 (sp_X12_turned o_a0 w4.1 w4.2.1 w4.2.2.1 w4.2.2.2.1 (fun Z'2 p2 => V_msk [true, false, true, true, false] rfl (w4.2.2.2.2 Z'2 p2))))))))))))))))
set_option maxRecDepth 20000 in
theorem b_X12_timesOf_19 {k n : Nat} {x : Wx} {Z : Zt} {Q : Option Value → Wx → Zt → Prop} {a0 : Nat} {v2 : Int} {v3 : Int} 
    (h : Rg v2 ∧ (((0 ≤ v2) → (V mX12_timesOf k n 29 [some (r_ a0), none, none, some (i_ v3), none] [i_ v2] x Z Q)) ∧ ((v2 < 0) → (V mX12_timesOf k n 29 [some (r_ a0), none, none, some (i_ v3), none] [i_ (-v2)] x Z Q)))) :
    V mX12_timesOf k n 19 [some (r_ a0), none, some (i_ v2), some (i_ v3), none] [] x Z Q :=
  V_iload_n dX12_timesOf_19 rfl (V_if_ge (tgt := 28) dX12_timesOf_20 rfl h.1 (fun c1 => V_iload_n dX12_timesOf_28 rfl (V_msk [true, false, false, true, false] rfl (h.2.1 c1))) (fun c1 => V_iload_n dX12_timesOf_23 rfl (V_ineg dX12_timesOf_24 (V_goto (tgt := 29) dX12_timesOf_25 rfl (V_msk [true, false, false, true, false] rfl (h.2.2 c1))))))
set_option maxRecDepth 20000 in
theorem b_X12_timesOf_29 {k n : Nat} {x : Wx} {Z : Zt} {Q : Option Value → Wx → Zt → Prop} {a0 : Nat} {v3 : Int} {t0 : Int} (o_a0 : Is12 x a0)
    (h : (0 ≤ (2915 : Int) ∧ (2915 : Int) ≤ 2995) ∧ (∀ (Z'1 : Zt), ((∀ i : Nat, i < 5 → Z'1 (a0 + 20) ((2915 : Int).toNat + i) = 0) ∧ KF a0 (2915 : Int).toNat Z Z'1) → (V mX12_timesOf k n 38 [some (r_ a0), none, none, some (i_ v3), some (i_ t0)] [] x Z'1 Q))) :
    V mX12_timesOf k n 29 [some (r_ a0), none, none, some (i_ v3), none] [i_ t0] x Z Q :=
  V_istore (lv' := [some (r_ a0), none, none, some (i_ v3), some (i_ t0)]) dX12_timesOf_29 (Nat.le_of_ble_eq_true rfl) rfl (V_aload_n dX12_timesOf_31 rfl (V_sipush dX12_timesOf_32 rfl (V_callV (k' := 0) (n' := 0) (t := 12) (q := (RX12, TX12, 46)) [i_ 2915] [] okX12_noClass o_a0.1 rfl rfl lm_12_360 liX12_noClass lqX12_noClass (Nat.le_of_ble_eq_true rfl) (Nat.le_of_ble_eq_true rfl) (Nat.le_of_ble_eq_true rfl) (cat_of rfl) (Nat.le_of_ble_eq_true rfl) (Nat.zero_le _) (Nat.zero_le _) rfl dX12_timesOf_35 (sp_X12_noClass o_a0 h.1 (fun Z'1 p1 => V_msk [true, false, false, true, true] rfl (h.2 Z'1 p1))))))
set_option maxRecDepth 20000 in
theorem b_X12_timesOf_38 {k n : Nat} {x : Wx} {Z : Zt} {Q : Option Value → Wx → Zt → Prop} {a0 : Nat} {v3 : Int} {v4 : Int} (o_a0 : Is12 x a0)
    (h : Rg v4 ∧ (((v4 ≤ 0) → (∃ g1 : UV, (((0 ≤ (2915 : Int) ∧ (2915 : Int) ≤ 2995) ∧ (0 ≤ v3 ∧ v3 ≤ 2995) ∧ ((2915 : Int) + 5 ≤ v3 ∨ v3 + 5 ≤ (2915 : Int))) ∧ KC Z a0 (2915 : Int).toNat g1 ∧ (∀ (Z'1 : Zt), (KC Z'1 a0 v3.toNat g1 ∧ KF a0 v3.toNat Z Z'1) → (Q none x Z'1))))) ∧ ((0 < v4) → (Rg (Int.tmod v4 2) ∧ (((Int.tmod v4 2 ≠ 1) → (V mX12_timesOf k n 64 [some (r_ a0), none, none, some (i_ v3), some (i_ v4)] [] x Z Q)) ∧ ((Int.tmod v4 2 = 1) → (∃ g2 : Int, (∃ g3 : Nat → Int, (∃ g4 : UV, (∃ g5 : UV, (MF Z a0 g2 g3 ∧ (RP g2 (gen g3) g4 ∧ RP g2 (gen g3) g5) ∧ (((0 ≤ (2915 : Int) ∧ (2915 : Int) ≤ 2995) ∧ (0 ≤ (2920 : Int) ∧ (2920 : Int) ≤ 2995)) ∧ (0 ≤ (2915 : Int) ∧ (2915 : Int) ≤ 2995)) ∧ (KC Z a0 (2915 : Int).toNat g4 ∧ KC Z a0 (2920 : Int).toNat g5) ∧ (∀ (Z'2 : Zt), (KC Z'2 a0 (2915 : Int).toNat (cplus g2 g3 (gen g3) g4 g5) ∧ MF Z'2 a0 g2 g3 ∧ TgF a0 (2915 : Int).toNat Z Z'2) → (V mX12_timesOf k n 64 [some (r_ a0), none, none, some (i_ v3), some (i_ v4)] [] x Z'2 Q))))))))))))) :
    V mX12_timesOf k n 38 [some (r_ a0), none, none, some (i_ v3), some (i_ v4)] [] x Z Q :=
  V_iload dX12_timesOf_38 rfl (V_if_le (tgt := 86) dX12_timesOf_40 rfl h.1 (fun c1 => V_aload_n dX12_timesOf_86 rfl (V_sipush dX12_timesOf_87 rfl (V_iload_n dX12_timesOf_90 rfl (Exists.elim (h.2.1 c1) (fun g1 w1 => V_callV (k' := 0) (n' := 0) (t := 12) (q := (RX12, TX12, 46)) [i_ 2915, i_ v3] [] okX12_copiesClass o_a0.1 rfl rfl lm_12_375 liX12_copiesClass lqX12_copiesClass (Nat.le_of_ble_eq_true rfl) (Nat.le_of_ble_eq_true rfl) (Nat.le_of_ble_eq_true rfl) (cat_of rfl) (Nat.le_of_ble_eq_true rfl) (Nat.zero_le _) (Nat.zero_le _) rfl dX12_timesOf_91 (sp_X12_copiesClass o_a0 w1.1 w1.2.1 (fun Z'1 p1 => V_ret dX12_timesOf_94 rfl (w1.2.2 Z'1 p1)))))))) (fun c1 => V_iload dX12_timesOf_43 rfl (V_iconst dX12_timesOf_45 (V_irem dX12_timesOf_46 h.1 (rg_c rfl) (by decide) (V_iconst dX12_timesOf_47 (V_icmp_ne (tgt := 64) dX12_timesOf_48 rfl (h.2.2 c1).1 (rg_c rfl) (fun c2 => V_msk [true, false, false, true, true] rfl ((h.2.2 c1).2.1 c2)) (fun c2 => V_aload_n dX12_timesOf_51 rfl (V_sipush dX12_timesOf_52 rfl (V_sipush dX12_timesOf_55 rfl (V_sipush dX12_timesOf_58 rfl (Exists.elim ((h.2.2 c1).2.2 c2) (fun g2 w2 => Exists.elim w2 (fun g3 w3 => Exists.elim w3 (fun g4 w4 => Exists.elim w4 (fun g5 w5 => V_callV (k' := 0) (n' := 0) (t := 12) (q := (RX12, TX12, 46)) [i_ 2915, i_ 2920, i_ 2915] [] okX12_together o_a0.1 rfl rfl lm_12_381 liX12_together lqX12_together (Nat.le_of_ble_eq_true rfl) (Nat.le_of_ble_eq_true rfl) (Nat.le_of_ble_eq_true rfl) (cat_of rfl) (Nat.le_of_ble_eq_true rfl) (Nat.zero_le _) (Nat.zero_le _) rfl dX12_timesOf_61 (sp_X12_together o_a0 w5.1 w5.2.1 w5.2.2.1 w5.2.2.2.1 (fun Z'2 p2 => V_msk [true, false, false, true, true] rfl (w5.2.2.2.2 Z'2 p2))))))))))))))))))
set_option maxRecDepth 20000 in
theorem b_X12_timesOf_64 {k n : Nat} {x : Wx} {Z : Zt} {Q : Option Value → Wx → Zt → Prop} {a0 : Nat} {v3 : Int} {v4 : Int} (o_a0 : Is12 x a0)
    (h : ∃ g1 : Int, (∃ g2 : Nat → Int, (∃ g3 : UV, (∃ g4 : UV, (MF Z a0 g1 g2 ∧ (RP g1 (gen g2) g3 ∧ RP g1 (gen g2) g4) ∧ (((0 ≤ (2920 : Int) ∧ (2920 : Int) ≤ 2995) ∧ (0 ≤ (2920 : Int) ∧ (2920 : Int) ≤ 2995)) ∧ (0 ≤ (2920 : Int) ∧ (2920 : Int) ≤ 2995)) ∧ (KC Z a0 (2920 : Int).toNat g3 ∧ KC Z a0 (2920 : Int).toNat g4) ∧ (∀ (Z'1 : Zt), (KC Z'1 a0 (2920 : Int).toNat (cplus g1 g2 (gen g2) g3 g4) ∧ MF Z'1 a0 g1 g2 ∧ TgF a0 (2920 : Int).toNat Z Z'1) → (Rg v4 ∧ (V mX12_timesOf k n 38 [some (r_ a0), none, none, some (i_ v3), some (i_ (Int.tdiv v4 2))] [] x Z'1 Q)))))))) :
    V mX12_timesOf k n 64 [some (r_ a0), none, none, some (i_ v3), some (i_ v4)] [] x Z Q :=
  V_aload_n dX12_timesOf_64 rfl (V_sipush dX12_timesOf_65 rfl (V_sipush dX12_timesOf_68 rfl (V_sipush dX12_timesOf_71 rfl (Exists.elim h (fun g1 w1 => Exists.elim w1 (fun g2 w2 => Exists.elim w2 (fun g3 w3 => Exists.elim w3 (fun g4 w4 => V_callV (k' := 0) (n' := 0) (t := 12) (q := (RX12, TX12, 46)) [i_ 2920, i_ 2920, i_ 2920] [] okX12_together o_a0.1 rfl rfl lm_12_381 liX12_together lqX12_together (Nat.le_of_ble_eq_true rfl) (Nat.le_of_ble_eq_true rfl) (Nat.le_of_ble_eq_true rfl) (cat_of rfl) (Nat.le_of_ble_eq_true rfl) (Nat.zero_le _) (Nat.zero_le _) rfl dX12_timesOf_74 (sp_X12_together o_a0 w4.1 w4.2.1 w4.2.2.1 w4.2.2.2.1 (fun Z'1 p1 => V_iload dX12_timesOf_77 rfl (V_iconst dX12_timesOf_79 (V_idiv dX12_timesOf_80 (w4.2.2.2.2 Z'1 p1).1 (rg_c rfl) (by decide) (V_istore (lv' := [some (r_ a0), none, none, some (i_ v3), some (i_ (Int.tdiv v4 2))]) dX12_timesOf_81 (Nat.le_of_ble_eq_true rfl) rfl (V_goto (tgt := 38) dX12_timesOf_83 rfl (V_msk [true, false, false, true, true] rfl (w4.2.2.2.2 Z'1 p1).2)))))))))))))))
def CG (b : Nat) (P : Nat → Prop) (Z Z' : Zt) : Prop := (∀ d, d ≠ b + 4 → d ≠ b + 20 → Z' d = Z d) ∧ ∀ i : Nat, P i → Z' (b + 20) i = Z (b + 20) i
theorem CG.rf {b : Nat} {P : Nat → Prop} {Z : Zt} : CG b P Z Z := ⟨fun _ _ _ => rfl, fun _ _ => rfl⟩
theorem CG.tr {b : Nat} {P : Nat → Prop} {Z Z1 Z2 : Zt} (h : CG b P Z Z1) (g : CG b P Z1 Z2) : CG b P Z Z2 := ⟨fun d h1 h2 => (g.1 d h1 h2).trans (h.1 d h1 h2), fun i hi => (g.2 i hi).trans (h.2 i hi)⟩
theorem CG.mo {b : Nat} {P P' : Nat → Prop} {Z Z1 : Zt} (h : CG b P Z Z1) (hP : ∀ i : Nat, P' i → P i) : CG b P' Z Z1 := ⟨h.1, fun i hi => h.2 i (hP i hi)⟩
theorem KF.cg {b c : Nat} {P : Nat → Prop} {Z Z1 : Zt} (h : KF b c Z Z1) (hP : ∀ i : Nat, P i → i < c ∨ c + 5 ≤ i) : CG b P Z Z1 := ⟨fun d _ h2 => h.1 d h2, fun i hi => h.2 i (hP i hi)⟩
theorem TgF.cg {b c : Nat} {P : Nat → Prop} {Z Z1 : Zt} (h : TgF b c Z Z1) (hP : ∀ i : Nat, P i → i < c ∨ c + 5 ≤ i) : CG b P Z Z1 := ⟨h.1, fun i hi => h.2 i (hP i hi)⟩
theorem KC.cg {b d : Nat} {P : Nat → Prop} {Z Z1 : Zt} {A : UV} (h : KC Z b d A) (hf : CG b P Z Z1) (hd : ∀ i : Nat, i < 5 → P (d + i)) : KC Z1 b d A := fun i hi => by rw [hf.2 _ (hd i hi)]; exact h i hi
theorem MF.kf {b c : Nat} {Z Z1 : Zt} {p : Int} {F : Nat → Int} (h : MF Z b p F) (g : KF b c Z Z1) : MF Z1 b p F := by
  obtain ⟨h1, h2, P, h3, h4⟩ := h
  exact ⟨h1.kept ⟨by rw [g.1 b (by omega)], by rw [g.1 b (by omega)], by rw [g.1 b (by omega)]⟩ (g.1 _ (by omega)) (g.1 _ (by omega)), h2, P, h3.kept (g.1 _ (by omega)), h4⟩
theorem KC.z {b c : Nat} {Z : Zt} {p g : Int} (hp : IsP p) (hg : 1 ≤ g) (h : ∀ i : Nat, i < 5 → Z (b + 20) (c + i) = 0) : KC Z b c czero := fun i hi => by rw [h i hi, kcl_0 hp hg i hi]
/-- l times pw, and acc, as the reference goes: from the lowest bit -/
def tmF (p : Int) (F : Nat → Int) : Nat → Int → UV → UV → UV
  | 0, _, acc, _ => acc
  | m + 1, l, acc, pw => if l ≤ 0 then acc else tmF p F m (l / 2) (if l % 2 = 1 then cplus p F (gen F) acc pw else acc) (cplus p F (gen F) pw pw)
theorem tmF_0 (p : Int) (F : Nat → Int) (acc pw : UV) {l : Int} (h : l ≤ 0) : ∀ m : Nat, tmF p F m l acc pw = acc
  | 0 => rfl
  | m + 1 => by unfold tmF; rw [if_pos h]
theorem tmF_ok {p : Int} {F : Nat → Int} (hC : CF p (gen F) F) : ∀ (m : Nat) (l : Int) (acc pw : UV), RP p (gen F) acc → RP p (gen F) pw → RP p (gen F) (tmF p F m l acc pw)
  | 0, _, _, _, h, _ => h
  | m + 1, l, acc, pw, h1, h2 => by
    unfold tmF
    split
    · exact h1
    · refine tmF_ok hC m _ _ _ ?_ (cplus_ok hC h2 h2)
      split
      · exact cplus_ok hC h1 h2
      · exact h1
def tmT (p : Int) (F : Nat → Int) (A : UV) (m : Int) : UV := tmF p F 12 (m.natAbs : Int) czero (if m < 0 then cneg p A else A)
theorem tmT_ok {p : Int} {F : Nat → Int} (hC : CF p (gen F) F) {A : UV} (h : RP p (gen F) A) (m : Int) : RP p (gen F) (tmT p F A m) := by
  have hg := hC.2.2.2.2
  refine tmF_ok hC 12 _ _ _ (czero_ok hC.1 (by omega)) ?_
  split
  · exact cneg_ok hC.1 h
  · exact h
/-- what timesOf leaves -/
def TmP (to : Nat) (i : Nat) : Prop := (i < 2915 ∨ 2925 ≤ i) ∧ (i < to ∨ to + 5 ≤ i)
theorem sp_X12_timesOf {k n : Nat} {x : Wx} {Z : Zt} {Q : Option Value → Wx → Zt → Prop} {b : Nat} {c m e : Int} (o : Is12 x b) {p : Int} {F : Nat → Int} {A : UV} (hF : MF Z b p F) (hA : RP p (gen F) A) (hK : KC Z b c.toNat A) (hc : (0 ≤ c ∧ (c + 5 ≤ 2915 ∨ 2925 ≤ c) ∧ c ≤ 2995) ∧ (0 ≤ e ∧ (e + 5 ≤ 2915 ∨ 2925 ≤ e) ∧ e ≤ 2995)) (hm : -2000 ≤ m ∧ m ≤ 2000) (h : ∀ Z' : Zt, (KC Z' b e.toNat (tmT p F A m) ∧ MF Z' b p F ∧ CG b (TmP e.toNat) Z Z') → Q none x Z') : V mX12_timesOf k n 0 [some (r_ b), some (i_ c), some (i_ m), some (i_ e), none] [] x Z Q := by
  have hC := hF.2.1
  have hp := hC.1
  have hgn := hC.2.2.2.2
  have cz := czero_ok (p := p) (g := gen F) hp (by omega)
  obtain ⟨c', rfl⟩ : ∃ c' : Nat, c = (c' : Int) := ⟨c.toNat, by omega⟩
  obtain ⟨e', rfl⟩ : ∃ e' : Nat, e = (e' : Int) := ⟨e.toNat, by omega⟩
  rw [Int.toNat_natCast] at hK h
  have t15 : (2915 : Int).toNat = 2915 := rfl
  have t20 : (2920 : Int).toNat = 2920 := rfl
  have lp : ∀ (q : Nat) (l : Int) (acc pw : UV) (Z1 : Zt), 0 ≤ l → l < 2 ^ q → KC Z1 b 2915 acc → KC Z1 b 2920 pw → RP p (gen F) acc → RP p (gen F) pw → MF Z1 b p F → CG b (fun i => i < 2915 ∨ 2925 ≤ i) Z Z1 → tmF p F q l acc pw = tmT p F A m → l ≤ 2000 → V mX12_timesOf k n 38 [some (r_ b), none, none, some (i_ (e' : Int)), some (i_ l)] [] x Z1 Q := by
    intro q
    induction q with
    | zero =>
      intro l acc pw Z1 h0 h1 k1 k2 ra rp f1 g1 he _
      have h1 : l < 1 := h1
      have he : acc = tmT p F A m := he
      refine b_X12_timesOf_38 o ⟨⟨by omega, by omega⟩, fun _ => ⟨acc, ⟨by omega, by omega, by omega⟩, k1, fun Z2 hz2 => h Z2 ⟨?_, f1.kf hz2.2, ?_⟩⟩, fun cc => by omega⟩
      · rw [← he]; exact hz2.1
      · exact (g1.mo (fun i hi => hi.1)).tr (hz2.2.cg (fun i hi => hi.2))
    | succ q ih =>
      intro l acc pw Z1 h0 h1 k1 k2 ra rp f1 g1 he h20
      have h2 : (2 : Int) ^ (q + 1) = 2 ^ q * 2 := Int.pow_succ 2 q
      rw [h2] at h1
      have td : Int.tdiv l 2 = l / 2 := Int.tdiv_eq_ediv_of_nonneg h0
      have tm : Int.tmod l 2 = l % 2 := Int.tmod_eq_emod_of_nonneg h0
      refine b_X12_timesOf_38 o ⟨⟨by omega, by omega⟩, fun cc => ⟨acc, ⟨by omega, by omega, by omega⟩, k1, fun Z2 hz2 => h Z2 ⟨?_, f1.kf hz2.2, ?_⟩⟩, fun cc => ?_⟩
      · rw [tmF_0 p F acc pw cc] at he
        rw [← he]; exact hz2.1
      · exact (g1.mo (fun i hi => hi.1)).tr (hz2.2.cg (fun i hi => hi.2))
      unfold tmF at he
      rw [if_neg (by omega)] at he
      have nx : ∀ (acc2 : UV) (Z2 : Zt), KC Z2 b 2915 acc2 → KC Z2 b 2920 pw → RP p (gen F) acc2 → MF Z2 b p F → CG b (fun i => i < 2915 ∨ 2925 ≤ i) Z Z2 → acc2 = (if l % 2 = 1 then cplus p F (gen F) acc pw else acc) → V mX12_timesOf k n 64 [some (r_ b), none, none, some (i_ (e' : Int)), some (i_ l)] [] x Z2 Q := fun acc2 Z2 j1 j2 j3 j4 j5 j6 => by
        rw [← j6] at he
        refine b_X12_timesOf_64 o ⟨p, F, pw, pw, j4, ⟨rp, rp⟩, ⟨⟨by decide, by decide⟩, by decide⟩, ⟨j2, j2⟩, fun Z3 hz3 => ⟨⟨by omega, by omega⟩, ?_⟩⟩
        rw [td]
        exact ih (l / 2) acc2 (cplus p F (gen F) pw pw) Z3 (by omega) (by omega) (fun i hi => by rw [hz3.2.2.2 _ (by rw [t20]; omega)]; exact j1 i hi) hz3.1 j3 (cplus_ok hC rp rp) hz3.2.1 (j5.tr (hz3.2.2.cg (fun i hi => by rw [t20]; omega))) he (by omega)
      rw [tm]
      refine ⟨⟨by omega, by omega⟩, fun c1 => nx acc Z1 k1 k2 ra f1 g1 (by rw [if_neg c1]), fun c1 => ⟨p, F, acc, pw, f1, ⟨ra, rp⟩, ⟨⟨by decide, by decide⟩, by decide⟩, ⟨k1, k2⟩, fun Z2 hz2 => nx _ Z2 hz2.1 (fun i hi => by rw [hz2.2.2.2 _ (by rw [t15]; omega)]; exact k2 i hi) (cplus_ok hC ra rp) hz2.2.1 (g1.tr (hz2.2.2.cg (fun i hi => by rw [t15]; omega))) (by rw [if_pos c1])⟩⟩
  have st : ∀ (B : UV) (Z1 : Zt), KC Z1 b 2920 B → RP p (gen F) B → MF Z1 b p F → CG b (fun i => i < 2915 ∨ 2925 ≤ i) Z Z1 → B = (if m < 0 then cneg p A else A) → V mX12_timesOf k n 19 [some (r_ b), none, some (i_ m), some (i_ (e' : Int)), none] [] x Z1 Q := fun B Z1 k1 rB f1 g1 hB => by
    have h29 : ∀ l : Int, l = (m.natAbs : Int) → V mX12_timesOf k n 29 [some (r_ b), none, none, some (i_ (e' : Int)), none] [i_ l] x Z1 Q := fun l hl => by
      refine b_X12_timesOf_29 o ⟨⟨by decide, by decide⟩, fun Z2 hz2 => lp 12 l czero B Z2 (by omega) (by omega) (KC.z hp (g := gen F) (by omega) hz2.1) (k1.kf hz2.2 (by rw [t15]; omega)) cz rB (f1.kf hz2.2) (g1.tr (hz2.2.cg (fun i hi => by rw [t15]; omega))) ?_ (by omega)⟩
      unfold tmT
      rw [hB, hl]
    exact b_X12_timesOf_19 ⟨⟨by omega, by omega⟩, fun c1 => h29 m (by omega), fun c1 => h29 (-m) (by omega)⟩
  refine b_X12_timesOf_0 o ⟨A, ⟨by omega, by omega, by omega⟩, hK, fun Z1 hz1 => ⟨⟨by omega, by omega⟩, fun c1 => st A Z1 hz1.1 hA (hF.kf hz1.2) (hz1.2.cg (fun i hi => by rw [t20]; omega)) (by rw [if_neg (by omega)]), fun c1 => ⟨p, gen F, A, ⟨⟨hp, (hF.kf hz1.2).1.1.1⟩, by omega⟩, hA, by decide, hz1.1, fun Z2 hz2 => st (cneg p A) Z2 hz2.1 (cneg_ok hp hA) ((hF.kf hz1.2).kf hz2.2) ((hz1.2.cg (fun i hi => by rw [t20]; omega)).tr (hz2.2.cg (fun i hi => by rw [t20]; omega))) (by rw [if_pos c1])⟩⟩⟩
