theorem dX11_isSound_0 : decode cX11_isSound 0 = .ok (.aload_n 1, 1) := by decide +kernel
theorem dX11_isSound_1 : decode cX11_isSound 1 = .ok (.iconst 1, 1) := by decide +kernel
theorem dX11_isSound_2 : decode cX11_isSound 2 = .ok (.iaload, 1) := by decide +kernel
theorem dX11_isSound_3 : decode cX11_isSound 3 = .ok (.istore_n 2, 1) := by decide +kernel
theorem dX11_isSound_4 : decode cX11_isSound 4 = .ok (.aload_n 0, 1) := by decide +kernel
theorem dX11_isSound_5 : decode cX11_isSound 5 = .ok (.getfield 36, 3) := by decide +kernel
theorem dX11_isSound_8 : decode cX11_isSound 8 = .ok (.aload_n 1, 1) := by decide +kernel
theorem dX11_isSound_9 : decode cX11_isSound 9 = .ok (.iconst 0, 1) := by decide +kernel
theorem dX11_isSound_10 : decode cX11_isSound 10 = .ok (.iaload, 1) := by decide +kernel
theorem dX11_isSound_11 : decode cX11_isSound 11 = .ok (.invokevirtual 364, 3) := by decide +kernel
theorem dX11_isSound_14 : decode cX11_isSound 14 = .ok (.ifCond .eq 21, 3) := by decide +kernel
theorem dX11_isSound_17 : decode cX11_isSound 17 = .ok (.iload_n 2, 1) := by decide +kernel
theorem dX11_isSound_18 : decode cX11_isSound 18 = .ok (.iconst 1, 1) := by decide +kernel
theorem dX11_isSound_19 : decode cX11_isSound 19 = .ok (.if_icmp .lt 16, 3) := by decide +kernel
theorem dX11_isSound_22 : decode cX11_isSound 22 = .ok (.iload_n 2, 1) := by decide +kernel
theorem dX11_isSound_23 : decode cX11_isSound 23 = .ok (.iconst 5, 1) := by decide +kernel
theorem dX11_isSound_24 : decode cX11_isSound 24 = .ok (.if_icmp .gt 11, 3) := by decide +kernel
theorem dX11_isSound_27 : decode cX11_isSound 27 = .ok (.aload_n 1, 1) := by decide +kernel
theorem dX11_isSound_28 : decode cX11_isSound 28 = .ok (.iconst 2, 1) := by decide +kernel
theorem dX11_isSound_29 : decode cX11_isSound 29 = .ok (.iload_n 2, 1) := by decide +kernel
theorem dX11_isSound_30 : decode cX11_isSound 30 = .ok (.iadd, 1) := by decide +kernel
theorem dX11_isSound_31 : decode cX11_isSound 31 = .ok (.iaload, 1) := by decide +kernel
theorem dX11_isSound_32 : decode cX11_isSound 32 = .ok (.ifCond .ne 5, 3) := by decide +kernel
theorem dX11_isSound_35 : decode cX11_isSound 35 = .ok (.iconst 0, 1) := by decide +kernel
theorem dX11_isSound_36 : decode cX11_isSound 36 = .ok (.ireturn, 1) := by decide +kernel
theorem dX11_isSound_37 : decode cX11_isSound 37 = .ok (.iconst 0, 1) := by decide +kernel
theorem dX11_isSound_38 : decode cX11_isSound 38 = .ok (.istore_n 3, 1) := by decide +kernel
theorem dX11_isSound_39 : decode cX11_isSound 39 = .ok (.iload_n 3, 1) := by decide +kernel
theorem dX11_isSound_40 : decode cX11_isSound 40 = .ok (.iload_n 2, 1) := by decide +kernel
theorem dX11_isSound_41 : decode cX11_isSound 41 = .ok (.if_icmp .gt 26, 3) := by decide +kernel
theorem dX11_isSound_44 : decode cX11_isSound 44 = .ok (.aload_n 1, 1) := by decide +kernel
theorem dX11_isSound_45 : decode cX11_isSound 45 = .ok (.iconst 2, 1) := by decide +kernel
theorem dX11_isSound_46 : decode cX11_isSound 46 = .ok (.iload_n 3, 1) := by decide +kernel
theorem dX11_isSound_47 : decode cX11_isSound 47 = .ok (.iadd, 1) := by decide +kernel
theorem dX11_isSound_48 : decode cX11_isSound 48 = .ok (.iaload, 1) := by decide +kernel
theorem dX11_isSound_49 : decode cX11_isSound 49 = .ok (.aload_n 0, 1) := by decide +kernel
theorem dX11_isSound_50 : decode cX11_isSound 50 = .ok (.getfield 36, 3) := by decide +kernel
theorem dX11_isSound_53 : decode cX11_isSound 53 = .ok (.getfield 159, 3) := by decide +kernel
theorem dX11_isSound_56 : decode cX11_isSound 56 = .ok (.if_icmp .lt 5, 3) := by decide +kernel
theorem dX11_isSound_59 : decode cX11_isSound 59 = .ok (.iconst 0, 1) := by decide +kernel
theorem dX11_isSound_60 : decode cX11_isSound 60 = .ok (.ireturn, 1) := by decide +kernel
theorem dX11_isSound_61 : decode cX11_isSound 61 = .ok (.iinc 3 1, 3) := by decide +kernel
theorem dX11_isSound_64 : decode cX11_isSound 64 = .ok (.goto (-25), 3) := by decide +kernel
theorem dX11_isSound_67 : decode cX11_isSound 67 = .ok (.aload_n 0, 1) := by decide +kernel
theorem dX11_isSound_68 : decode cX11_isSound 68 = .ok (.getfield 50, 3) := by decide +kernel
theorem dX11_isSound_71 : decode cX11_isSound 71 = .ok (.aload_n 1, 1) := by decide +kernel
theorem dX11_isSound_72 : decode cX11_isSound 72 = .ok (.iconst 2, 1) := by decide +kernel
theorem dX11_isSound_73 : decode cX11_isSound 73 = .ok (.iload_n 2, 1) := by decide +kernel
theorem dX11_isSound_74 : decode cX11_isSound 74 = .ok (.aload_n 0, 1) := by decide +kernel
theorem dX11_isSound_75 : decode cX11_isSound 75 = .ok (.getfield 36, 3) := by decide +kernel
theorem dX11_isSound_78 : decode cX11_isSound 78 = .ok (.invokevirtual 306, 3) := by decide +kernel
theorem dX11_isSound_81 : decode cX11_isSound 81 = .ok (.aload_n 0, 1) := by decide +kernel
theorem dX11_isSound_82 : decode cX11_isSound 82 = .ok (.getfield 54, 3) := by decide +kernel
theorem dX11_isSound_85 : decode cX11_isSound 85 = .ok (.aload_n 0, 1) := by decide +kernel
theorem dX11_isSound_86 : decode cX11_isSound 86 = .ok (.getfield 36, 3) := by decide +kernel
theorem dX11_isSound_89 : decode cX11_isSound 89 = .ok (.aload_n 0, 1) := by decide +kernel
theorem dX11_isSound_90 : decode cX11_isSound 90 = .ok (.getfield 50, 3) := by decide +kernel
theorem dX11_isSound_93 : decode cX11_isSound 93 = .ok (.invokevirtual 367, 3) := by decide +kernel
theorem dX11_isSound_96 : decode cX11_isSound 96 = .ok (.aload_n 0, 1) := by decide +kernel
theorem dX11_isSound_97 : decode cX11_isSound 97 = .ok (.getfield 43, 3) := by decide +kernel
theorem dX11_isSound_100 : decode cX11_isSound 100 = .ok (.aload_n 0, 1) := by decide +kernel
theorem dX11_isSound_101 : decode cX11_isSound 101 = .ok (.getfield 36, 3) := by decide +kernel
theorem dX11_isSound_104 : decode cX11_isSound 104 = .ok (.aload_n 0, 1) := by decide +kernel
theorem dX11_isSound_105 : decode cX11_isSound 105 = .ok (.getfield 50, 3) := by decide +kernel
theorem dX11_isSound_108 : decode cX11_isSound 108 = .ok (.aload_n 0, 1) := by decide +kernel
theorem dX11_isSound_109 : decode cX11_isSound 109 = .ok (.getfield 54, 3) := by decide +kernel
theorem dX11_isSound_112 : decode cX11_isSound 112 = .ok (.invokevirtual 371, 3) := by decide +kernel
theorem dX11_isSound_115 : decode cX11_isSound 115 = .ok (.aload_n 0, 1) := by decide +kernel
theorem dX11_isSound_116 : decode cX11_isSound 116 = .ok (.getfield 43, 3) := by decide +kernel
theorem dX11_isSound_119 : decode cX11_isSound 119 = .ok (.getfield 375, 3) := by decide +kernel
theorem dX11_isSound_122 : decode cX11_isSound 122 = .ok (.getfield 165, 3) := by decide +kernel
theorem dX11_isSound_125 : decode cX11_isSound 125 = .ok (.ifCond .ne 7, 3) := by decide +kernel
theorem dX11_isSound_128 : decode cX11_isSound 128 = .ok (.iconst 1, 1) := by decide +kernel
theorem dX11_isSound_129 : decode cX11_isSound 129 = .ok (.goto 4, 3) := by decide +kernel
theorem dX11_isSound_132 : decode cX11_isSound 132 = .ok (.iconst 0, 1) := by decide +kernel
theorem dX11_isSound_133 : decode cX11_isSound 133 = .ok (.ireturn, 1) := by decide +kernel
set_option maxRecDepth 20000 in
theorem b_X11_isSound_0 {k n : Nat} {x : Wx} {Z : Zt} {Q : Option Value → Wx → Zt → Prop} {a0 : Nat} {a1 : Nat} (o_a0 : Is11 x a0) (s_a1 : x.1 a1 = some (100, 26))
    (h : (3 ≤ (Z a1 0) ∧ (Z a1 0) ≤ 13) ∧ (∀ (Z'1 : Zt), (FA Z'1 (a0 + 16) (Z a1 0) ∧ Oth Z Z'1 (fun b => b = (a0 + 16) ∨ b = (a0 + 16) + 1 ∨ b = (a0 + 16) + 2)) → (Rg (Z a1 1) ∧ (((Z a1 1 < 1) → (V mX11_isSound k n 35 [none, none, none, none] [] x Z'1 Q)) ∧ ((1 ≤ Z a1 1) → (((5 < Z a1 1) → (V mX11_isSound k n 35 [none, none, none, none] [] x Z'1 Q)) ∧ ((Z a1 1 ≤ 5) → (0 ≤ 2 + (Z a1 1) ∧ 2 + (Z a1 1) < 26 ∧ (Rg (Z'1 a1 (2 + (Z a1 1)).toNat) ∧ (((Z'1 a1 (2 + (Z a1 1)).toNat ≠ 0) → (V mX11_isSound k n 39 [some (r_ a0), some (r_ a1), some (i_ (Z a1 1)), some (i_ 0)] [] x Z'1 Q)) ∧ ((Z'1 a1 (2 + (Z a1 1)).toNat = 0) → (V mX11_isSound k n 35 [none, none, none, none] [] x Z'1 Q)))))))))))) :
    V mX11_isSound k n 0 [some (r_ a0), some (r_ a1), none, none] [] x Z Q :=
  V_aload_n dX11_isSound_0 rfl (V_iconst dX11_isSound_1 (V_iald (t := 100) s_a1 (by decide) rfl (by decide) (by decide) (Nat.le_of_ble_eq_true rfl) dX11_isSound_2 (V_istore_n (lv' := [some (r_ a0), some (r_ a1), some (i_ (Z a1 1)), none]) dX11_isSound_3 (Nat.le_of_ble_eq_true rfl) rfl (V_aload_n dX11_isSound_4 rfl (G_11_3 o_a0.1 o_a0.qR3 lf_11_36 dX11_isSound_5 (V_aload_n dX11_isSound_8 rfl (V_iconst dX11_isSound_9 (V_iald (t := 100) s_a1 (by decide) rfl (by decide) (by decide) (Nat.le_of_ble_eq_true rfl) dX11_isSound_10 (V_callV (k' := 0) (n' := 0) (t := 4) (q := (RX4, TX4, 4)) [i_ (Z a1 0)] [] okX4_choose o_a0.qK3.1 rfl rfl lm_11_364 liX4_choose lqX4_choose (Nat.le_of_ble_eq_true rfl) (Nat.le_of_ble_eq_true rfl) (Nat.le_of_ble_eq_true rfl) (cat_of rfl) (Nat.le_of_ble_eq_true rfl) (Nat.zero_le _) (Nat.zero_le _) rfl dX11_isSound_11 (sp_X4_choose o_a0.qK3 h.1 (fun Z'1 p1 => V_if_eq (tgt := 35) dX11_isSound_14 rfl (rg_c rfl) (fun h9 => absurd h9 (by decide)) (fun _ => V_iload_n dX11_isSound_17 rfl (V_iconst dX11_isSound_18 (V_icmp_lt (tgt := 35) dX11_isSound_19 rfl (h.2 Z'1 p1).1 (rg_c rfl) (fun c1 => V_msk [false, false, false, false] rfl ((h.2 Z'1 p1).2.1 c1)) (fun c1 => V_iload_n dX11_isSound_22 rfl (V_iconst dX11_isSound_23 (V_icmp_gt (tgt := 35) dX11_isSound_24 rfl (h.2 Z'1 p1).1 (rg_c rfl) (fun c2 => V_msk [false, false, false, false] rfl (((h.2 Z'1 p1).2.2 c1).1 c2)) (fun c2 => V_aload_n dX11_isSound_27 rfl (V_iconst dX11_isSound_28 (V_iload_n dX11_isSound_29 rfl (V_iadd dX11_isSound_30 (V_iald (t := 100) s_a1 (by decide) rfl (((h.2 Z'1 p1).2.2 c1).2 c2).1 (((h.2 Z'1 p1).2.2 c1).2 c2).2.1 (Nat.le_of_ble_eq_true rfl) dX11_isSound_31 (V_if_ne (tgt := 37) dX11_isSound_32 rfl (((h.2 Z'1 p1).2.2 c1).2 c2).2.2.1 (fun c3 => V_iconst dX11_isSound_37 (V_istore_n (lv' := [some (r_ a0), some (r_ a1), some (i_ (Z a1 1)), some (i_ 0)]) dX11_isSound_38 (Nat.le_of_ble_eq_true rfl) rfl (V_msk [true, true, true, true] rfl ((((h.2 Z'1 p1).2.2 c1).2 c2).2.2.2.1 c3)))) (fun c3 => V_msk [false, false, false, false] rfl ((((h.2 Z'1 p1).2.2 c1).2 c2).2.2.2.2 c3)))))))))))))))))))))))))
set_option maxRecDepth 20000 in
theorem b_X11_isSound_35 {k n : Nat} {x : Wx} {Z : Zt} {Q : Option Value → Wx → Zt → Prop}  
    (h : Q (some (i_ 0)) x Z) :
    V mX11_isSound k n 35 [none, none, none, none] [] x Z Q :=
  V_iconst dX11_isSound_35 (V_iret (ty := .boolean) dX11_isSound_36 rfl rfl h)
set_option maxRecDepth 20000 in
theorem b_X11_isSound_39 {k n : Nat} {x : Wx} {Z : Zt} {Q : Option Value → Wx → Zt → Prop} {a0 : Nat} {a1 : Nat} {v2 : Int} {v3 : Int} (o_a0 : Is11 x a0) (s_a1 : x.1 a1 = some (100, 26))
    (h : Rg v3 ∧ Rg v2 ∧ (((v2 < v3) → (∃ g1 : Int, (a1 ≠ (a0 + 36) + 1 ∧ 0 ≤ (2 : Int) ∧ (0 ≤ v2 ∧ v2 ≤ 9) ∧ (2 : Int) + v2 < 26 ∧ (∀ i : Nat, i < 26 → Rg (Z a1 i)) ∧ Z (a0 + 16) 0 = g1 ∧ (2 ≤ g1 ∧ g1 ≤ 13) ∧ (∀ (Z'1 : Zt), (PA Z'1 (a0 + 36) g1 (ptak g1 (Z a1) (Int.toNat (2 : Int)) (Int.toNat v2)) ∧ Oth Z Z'1 (At2 (a0 + 36))) → (∃ g2 : Int, (∃ g3 : Nat → Int, ((a0 + 38) ≠ (a0 + 36) ∧ PA Z'1 (a0 + 36) g2 g3 ∧ Z'1 (a0 + 16) 0 = g2 ∧ (2 ≤ g2 ∧ g2 ≤ 13) ∧ (∀ (Z'2 : Zt), (PA Z'2 (a0 + 38) g2 (pslo g2 g3) ∧ Oth Z'1 Z'2 (At2 (a0 + 38))) → (∃ g4 : Int, (∃ g5 : Nat → Int, (∃ g6 : Nat → Int, (PA Z'2 (a0 + 36) g4 g5 ∧ PA Z'2 (a0 + 38) g4 g6 ∧ FA Z'2 (a0 + 16) g4 ∧ (3 ≤ g4 ∧ g4 ≤ 13) ∧ ((a0 + 16) + 2 < (a0 + 19) ∨ (a0 + 19) + 16 < (a0 + 16)) ∧ ((a0 + 38) + 1 < (a0 + 19) ∨ (a0 + 19) + 16 < (a0 + 38)) ∧ 0 ≤ pd g5 ∧ (∀ (Z'3 : Zt), (PA Z'3 ((a0 + 19) + 1) g4 (eG g4 g5 g6) ∧ PA Z'3 ((a0 + 19) + 3) g4 (eS g4 g5 g6) ∧ PA Z'3 ((a0 + 19) + 5) g4 (eT g4 g5 g6) ∧ Oth Z'2 Z'3 (fun q => (a0 + 19) < q ∧ q ≤ (a0 + 19) + 16)) → (Rg (Z'3 (a0 + 20) 0) ∧ (((Z'3 (a0 + 20) 0 ≠ 0) → (Q (some (i_ 0)) x Z'3)) ∧ ((Z'3 (a0 + 20) 0 = 0) → (Q (some (i_ 1)) x Z'3))))))))))))))))) ∧ ((v3 ≤ v2) → (0 ≤ 2 + v3 ∧ 2 + v3 < 26 ∧ (Rg (Z a1 (2 + v3).toNat) ∧ Rg (Z (a0 + 16) 0) ∧ (((Z a1 (2 + v3).toNat < Z (a0 + 16) 0) → (V mX11_isSound k n 39 [some (r_ a0), some (r_ a1), some (i_ v2), some (i_ (v3 + 1))] [] x Z Q)) ∧ ((Z (a0 + 16) 0 ≤ Z a1 (2 + v3).toNat) → (Q (some (i_ 0)) x Z)))))))) :
    V mX11_isSound k n 39 [some (r_ a0), some (r_ a1), some (i_ v2), some (i_ v3)] [] x Z Q :=
  V_iload_n dX11_isSound_39 rfl (V_iload_n dX11_isSound_40 rfl (V_icmp_gt (tgt := 67) dX11_isSound_41 rfl h.1 h.2.1 (fun c1 => V_aload_n dX11_isSound_67 rfl (G_11_5 o_a0.1 o_a0.qR5 lf_11_50 dX11_isSound_68 (V_aload_n dX11_isSound_71 rfl (V_iconst dX11_isSound_72 (V_iload_n dX11_isSound_73 rfl (V_aload_n dX11_isSound_74 rfl (G_11_3 o_a0.1 o_a0.qR3 lf_11_36 dX11_isSound_75 (Exists.elim (h.2.2.1 c1) (fun g1 w1 => V_callV (k' := 0) (n' := 0) (t := 7) (q := (RX7, TX7, 2)) [r_ a1, i_ 2, i_ v2, r_ (a0 + 16)] [] okX7_take o_a0.qK5.1 rfl rfl lm_11_306 liX7_take lqX7_take (Nat.le_of_ble_eq_true rfl) (Nat.le_of_ble_eq_true rfl) (Nat.le_of_ble_eq_true rfl) (cat_of rfl) (Nat.le_of_ble_eq_true rfl) (Nat.zero_le _) (Nat.zero_le _) rfl dX11_isSound_78 (sp_X7_take o_a0.qK5 s_a1 (Nat.le_of_ble_eq_true rfl) o_a0.qK3 w1.1 w1.2.1 w1.2.2.1 w1.2.2.2.1 w1.2.2.2.2.1 w1.2.2.2.2.2.1 w1.2.2.2.2.2.2.1 (fun Z'1 p1 => V_aload_n dX11_isSound_81 rfl (G_11_6 o_a0.1 o_a0.qR6 lf_11_54 dX11_isSound_82 (V_aload_n dX11_isSound_85 rfl (G_11_3 o_a0.1 o_a0.qR3 lf_11_36 dX11_isSound_86 (V_aload_n dX11_isSound_89 rfl (G_11_5 o_a0.1 o_a0.qR5 lf_11_50 dX11_isSound_90 (Exists.elim (w1.2.2.2.2.2.2.2 Z'1 p1) (fun g2 w2 => Exists.elim w2 (fun g3 w3 => V_callV (k' := 0) (n' := 0) (t := 7) (q := (RX7, TX7, 2)) [r_ (a0 + 16), r_ (a0 + 36)] [] okX7_slope o_a0.qK6.1 rfl rfl lm_11_367 liX7_slope lqX7_slope (Nat.le_of_ble_eq_true rfl) (Nat.le_of_ble_eq_true rfl) (Nat.le_of_ble_eq_true rfl) (cat_of rfl) (Nat.le_of_ble_eq_true rfl) (Nat.zero_le _) (Nat.zero_le _) rfl dX11_isSound_93 (sp_X7_slope o_a0.qK6 o_a0.qK3 o_a0.qK5 w3.1 w3.2.1 w3.2.2.1 w3.2.2.2.1 (fun Z'2 p2 => V_aload_n dX11_isSound_96 rfl (G_11_4 o_a0.1 o_a0.qR4 lf_11_43 dX11_isSound_97 (V_aload_n dX11_isSound_100 rfl (G_11_3 o_a0.1 o_a0.qR3 lf_11_36 dX11_isSound_101 (V_aload_n dX11_isSound_104 rfl (G_11_5 o_a0.1 o_a0.qR5 lf_11_50 dX11_isSound_105 (V_aload_n dX11_isSound_108 rfl (G_11_6 o_a0.1 o_a0.qR6 lf_11_54 dX11_isSound_109 (Exists.elim (w3.2.2.2.2 Z'2 p2) (fun g4 w4 => Exists.elim w4 (fun g5 w5 => Exists.elim w5 (fun g6 w6 => V_callV (k' := 0) (n' := 0) (t := 3) (q := (RX3, TX3, 8)) [r_ (a0 + 16), r_ (a0 + 36), r_ (a0 + 38)] [] okX3_run o_a0.qK4.1 rfl rfl lm_11_371 liX3_run lqX3_run (Nat.le_of_ble_eq_true rfl) (Nat.le_of_ble_eq_true rfl) (Nat.le_of_ble_eq_true rfl) (cat_of rfl) (Nat.le_of_ble_eq_true rfl) (Nat.zero_le _) (Nat.zero_le _) rfl dX11_isSound_112 (sp_X3_run o_a0.qK4 o_a0.qK3 o_a0.qK5 o_a0.qK6 w6.1 w6.2.1 w6.2.2.1 w6.2.2.2.1 w6.2.2.2.2.1 w6.2.2.2.2.2.1 w6.2.2.2.2.2.2.1 (fun Z'3 p3 => V_aload_n dX11_isSound_115 rfl (G_11_4 o_a0.1 o_a0.qR4 lf_11_43 dX11_isSound_116 (G_3_0 o_a0.qK4.1 o_a0.qK4.2.1 lf_11_375 dX11_isSound_119 (G_7_0 o_a0.qK4.2.2.1.1 lf_11_165 dX11_isSound_122 (V_if_ne (tgt := 132) dX11_isSound_125 rfl (w6.2.2.2.2.2.2.2 Z'3 p3).1 (fun c2 => V_iconst dX11_isSound_132 (V_iret (ty := .boolean) dX11_isSound_133 rfl rfl ((w6.2.2.2.2.2.2.2 Z'3 p3).2.1 c2))) (fun c2 => V_iconst dX11_isSound_128 (V_goto (tgt := 133) dX11_isSound_129 rfl (V_iret (ty := .boolean) dX11_isSound_133 rfl rfl ((w6.2.2.2.2.2.2.2 Z'3 p3).2.2 c2)))))))))))))))))))))))))))))))))))))))))) (fun c1 => V_aload_n dX11_isSound_44 rfl (V_iconst dX11_isSound_45 (V_iload_n dX11_isSound_46 rfl (V_iadd dX11_isSound_47 (V_iald (t := 100) s_a1 (by decide) rfl (h.2.2.2 c1).1 (h.2.2.2 c1).2.1 (Nat.le_of_ble_eq_true rfl) dX11_isSound_48 (V_aload_n dX11_isSound_49 rfl (G_11_3 o_a0.1 o_a0.qR3 lf_11_36 dX11_isSound_50 (G_4_0 o_a0.qK3.1 lf_11_159 dX11_isSound_53 (V_icmp_lt (tgt := 61) dX11_isSound_56 rfl (h.2.2.2 c1).2.2.1 (h.2.2.2 c1).2.2.2.1 (fun c3 => V_iinc (lv' := [some (r_ a0), some (r_ a1), some (i_ v2), some (i_ (v3 + 1))]) dX11_isSound_61 rfl (Nat.le_of_ble_eq_true rfl) rfl (V_goto (tgt := 39) dX11_isSound_64 rfl (V_msk [true, true, true, true] rfl ((h.2.2.2 c1).2.2.2.2.1 c3)))) (fun c3 => V_iconst dX11_isSound_59 (V_iret (ty := .boolean) dX11_isSound_60 rfl rfl ((h.2.2.2 c1).2.2.2.2.2 c3))))))))))))))
/-! ===== CurveShares: text ===== -/
def PL (f : Nat → Int) : Prop := -1 ≤ f 2 ∧ f 2 ≤ 600
theorem PL.nx {s f : Nat → Int} (h : PL f) : PL (nxF s f) := by
  unfold PL
  have : nxF s f 2 = f 2 := by
    unfold nxF
    split
    · rfl
    · show nx3 f _ _ _ 2 = f 2
      unfold nx3
      rw [if_neg (by decide), if_neg (by decide), if_neg (by decide)]
  rw [this]; exact h
theorem PL.stop {s f : Nat → Int} (hi : RInv s f) (h : PL f) : PL (stopF f) := by
  have e : stopF f 2 = (if f 1 = 1 then f else upf (upf f 1 1) 2 (f 7)) 2 := rfl
  unfold PL
  rw [e]
  by_cases c : f 1 = 1
  · rw [if_pos c]; exact h
  · rw [if_neg c]
    have e2 : upf (upf f 1 1) 2 (f 7) 2 = f 7 := rfl
    rw [e2]; have := hi.1; have := hi.2.1; omega
theorem PL.note {s f : Nat → Int} {w : Int} (hi : RInv s f) (h : PL f) : PL (noteF w f) := by
  unfold noteF
  split
  · unfold PL
    have e2 : upf (upf f 1 w) 2 (f 7) 2 = f 7 := rfl
    rw [e2]; have := hi.1; have := hi.2.1; omega
  · exact h
theorem PL.num {s f : Nat → Int} {m : Int} (hi : RInv s f) (h : PL f) : PL (numF s m f) := by
  unfold numF
  split
  · split
    · exact h.nx
    · exact (h.note hi).nx
  · exact h.stop hi
theorem PL.prm {s f : Nat → Int} (hi : RInv s f) (h : PL f) : PL (prmF s f) := by
  unfold prmF
  split
  · split
    · exact h.nx
    · exact (h.note hi).nx
  · exact h.stop hi
theorem PL.cls {s f : Nat → Int} (hi : RInv s f) (h : PL f) : PL (clsF s f) := by
  unfold clsF
  split
  · exact h.nx
  · exact h.stop hi
theorem PL.sgn {s f : Nat → Int} {m : Int} (hi : RInv s f) (h : PL f) : PL (sgnF s m f) := by
  unfold sgnF
  split
  · exact h.nx.num hi.nx
  · exact h.num hi
theorem PL.cn {s : Nat → Int} : ∀ (m i : Nat) {q : Rq}, RInv s q.1 → PL q.1 → PL (cnN s m i q).1
  | 0, _, _, _, h => h
  | m + 1, i, q, hi, h => PL.cn m (i + 1) (q := cnI s i q) hi.num (h.num hi)
theorem PL.ln {s : Nat → Int} {t : Int} {q : Rq} (hi : RInv s q.1) (h : PL q.1) : PL (lnS s t q).1 := by
  unfold lnS
  split
  · have hcX : RInv s (clX s q).1 ∧ PL (clX s q).1 := by
      unfold clX
      split
      · exact ⟨hi.nx.prm, h.nx.prm hi.nx⟩
      · split
        · refine ⟨RInv.cnq (q := (_, _)) hi.nx, ?_⟩
          unfold cnS
          split
          · exact PL.cn 2 4 (RInv.cn 4 0 (q := (nxF s q.1, q.2)) hi.nx) (PL.cn 4 0 (q := (nxF s q.1, q.2)) hi.nx h.nx)
          · exact PL.cn 4 0 (q := (nxF s q.1, q.2)) hi.nx h.nx
        · exact ⟨hi.stop, h.stop hi⟩
    exact hcX.2.cls hcX.1
  · split
    · have hsX : RInv s (smX s q).1 ∧ PL (smX s q).1 := by
        unfold smX
        split
        · exact ⟨hi.nx.sgn, h.nx.sgn hi.nx⟩
        · split
          · refine ⟨RInv.enq hi, ?_⟩
            have i0 : RInv s (eN q) := RInv.en0 hi
            have p0 : PL (eN q) := by
              unfold eN
              split
              · exact h
              · exact h.note hi
            exact ((p0.nx.num i0.nx).num i0.nx.num).sgn i0.nx.num.num
          · exact ⟨hi.stop, h.stop hi⟩
      exact hsX.2.cls hsX.1
    · unfold fnS
      have hy : ∀ (m : Int) (b : Nat), PL (fnY s q m b).1 := fun m b => ((h.nx.num hi.nx).num hi.nx.num).cls hi.nx.num.num
      split
      · exact hy _ _
      · split
        · exact hy _ _
        · exact h.stop hi
theorem PL.rd {s : Nat → Int} {t : Int} : ∀ (m : Nat) {q : Rq}, LInv s t q → PL q.1 → PL (rdq s t m q).1
  | 0, _, _, h => h
  | m + 1, q, hi, h => by
    unfold rdq
    split
    · exact h
    · exact PL.rd m hi.ln (h.ln hi.1)
theorem rdS_all {s : Nat → Int} {t n : Int} (hn : 0 ≤ n ∧ n ≤ 600) (f r : Nat → Int) : PL (rdS s t n (f, r)).1 ∧ (0 ≤ (rdS s t n (f, r)).1 1 ∧ (rdS s t n (f, r)).1 1 ≤ 3) ∧ ((rdS s t n (f, r)).1 1 = 0 → RV t (rdS s t n (f, r)).2) := by
  have hN : NInv (f0 f n) := ⟨hn, ⟨by show (0 : Int) ≤ 0; decide, hn.1⟩, ⟨by show (0 : Int) ≤ 0; decide, by show (0 : Int) ≤ 3; decide⟩⟩
  have hi : RInv s (nxF s (f0 f n)) := hN.nx (by show (0 : Int) ≠ 1; decide)
  have hp : PL (f0 f n) := ⟨by show (-1 : Int) ≤ -1; decide, by show (-1 : Int) ≤ 600; decide⟩
  have hb := beg_v t r
  have hL : LInv s t (nxF s (f0 f n), begR t r) := ⟨hi, fun e => by
    unfold RV at hb
    rw [if_neg (by omega), if_pos e] at hb
    exact hb.1⟩
  exact ⟨PL.rd _ hL hp.nx, (LInv.rd (n.toNat + 1) hL).1.2.2.1, fun e => rd_v _ hL (fun _ => hb) e⟩
/-- the test of FAULT 4 -/
def sndB (r : Nat → Int) : Bool := decide (r (2 + (r 1).toNat) ≠ 0 ∧ (∀ i : Nat, i < (r 1).toNat + 1 → r (2 + i) < r 0) ∧ pd (eG (r 0) (crvF r) (pslo (r 0) (crvF r))) = 0)
theorem sp_X11_isSound {k n : Nat} {x : Wx} {Z : Zt} {Q : Option Value → Wx → Zt → Prop} {a b : Nat} (o : Is11 x a) (sb : x.1 b = some (100, 26)) (hb : b < a + 16) (hr : RV 0 (Z b)) (hg : ∀ i : Nat, i < 26 → Rg (Z b i)) (h : ∀ Z' : Zt, Oth Z Z' (fun q => a + 16 ≤ q ∧ q < a + 40) → Q (some (i_ (bI (sndB (Z b))))) x Z') : V mX11_isSound k n 0 [some (r_ a), some (r_ b), none, none] [] x Z Q := by
  obtain ⟨R, hR⟩ : ∃ R : Nat → Int, Z b = R := ⟨_, rfl⟩
  rw [hR] at hr hg h
  unfold RV at hr
  rw [if_pos rfl] at hr
  obtain ⟨hp, hd, hc, hz, _⟩ := hr
  have hpr := hp.rg
  obtain ⟨d, hd'⟩ : ∃ d : Nat, R 1 = (d : Int) := ⟨(R 1).toNat, by omega⟩
  unfold sndB at h
  rw [hd', Int.toNat_natCast] at h
  have no : ∀ Z' : Zt, Oth Z Z' (fun q => a + 16 ≤ q ∧ q < a + 40) → ¬ (R (2 + d) ≠ 0 ∧ (∀ i : Nat, i < d + 1 → R (2 + i) < R 0) ∧ pd (eG (R 0) (crvF R) (pslo (R 0) (crvF R))) = 0) → Q (some (i_ 0)) x Z' := fun Z' h1 h2 => by
    rw [decide_eq_false h2] at h; exact h Z' h1
  refine b_X11_isSound_0 o sb ?_
  rw [hR]
  refine ⟨hpr, fun Z1 hz1 => ?_⟩
  have eb : Z1 b = R := by rw [hz1.2 b (by omega)]; exact hR
  have o1 : Oth Z Z1 (fun q => a + 16 ≤ q ∧ q < a + 40) := hz1.2.wk (fun q hq => by omega)
  rw [eb, hd', show (2 + (d : Int)).toNat = 2 + d by omega]
  refine ⟨⟨by omega, by omega⟩, fun c => by omega, fun c => ⟨fun c2 => by omega, fun c2 => ⟨by omega, by omega, hg _ (by omega), fun c3 => ?_, fun c3 => b_X11_isSound_35 (no Z1 o1 (fun e => e.1 c3))⟩⟩⟩
  have hp7 : x.1 (a + 36) = some (7, 0) ∧ True := ⟨o.qK5.1, trivial⟩
  have lp : ∀ (m i : Nat) (w : Int), w = i → i + m = d + 1 → (∀ j : Nat, j < i → R (2 + j) < R 0) → V mX11_isSound k n 39 [some (r_ a), some (r_ b), some (i_ (d : Int)), some (i_ w)] [] x Z1 Q := by
    intro m
    induction m with
    | zero =>
      intro i w hw hi hl
      refine b_X11_isSound_39 o sb ⟨⟨by omega, by omega⟩, ⟨by omega, by omega⟩, fun _ => ⟨R 0, by omega, by decide, ⟨by omega, by omega⟩, by omega, fun j hj => by rw [eb]; exact hg j hj, hz1.1.1, ⟨by omega, by omega⟩, fun Z2 hz2 => ?_⟩, fun c4 => by omega⟩
      have hF : ptak (R 0) (Z1 b) (Int.toNat (2 : Int)) (Int.toNat (d : Int)) = crvF R := by
        rw [eb, Int.toNat_natCast]
        unfold crvF
        rw [hd', Int.toNat_natCast]; rfl
      rw [hF] at hz2
      have n2 : ∀ (t q : Nat), q < t ∨ t + 1 < q → ¬ At2 t q := fun t q hq hh => by rcases hh with hh | hh <;> omega
      refine ⟨R 0, crvF R, by omega, hz2.1, by rw [hz2.2 _ (n2 _ _ (by omega))]; exact hz1.1.1, ⟨by omega, by omega⟩, fun Z3 hz3 => ?_⟩
      have hFA : FA Z3 (a + 16) (R 0) := by
        have g1 := hz1.1.kept hz2.2 (n2 _ _ (by omega)) (n2 _ _ (by omega)) (n2 _ _ (by omega))
        exact g1.kept hz3.2 (n2 _ _ (by omega)) (n2 _ _ (by omega)) (n2 _ _ (by omega))
      have hpd : pd (crvF R) = (d : Int) := by
        have hv : crvF R d = R (2 + d) := by
          have := hc (2 + d) (by omega) (by omega)
          unfold crvF ptak
          rw [hd', Int.toNat_natCast, if_pos (Nat.le_refl d), Int.emod_eq_of_lt this.1 (hl d (by omega))]
        refine pd_eq (by omega) (by rw [hv]; exact c3) (fun j hj => ?_)
        unfold crvF ptak
        rw [hd', Int.toNat_natCast, if_neg (by omega)]
      refine ⟨R 0, crvF R, pslo (R 0) (crvF R), hz2.1.kept hz3.2 (n2 _ _ (by omega)) (n2 _ _ (by omega)), hz3.1, hFA, hpr, Or.inl (by omega), Or.inr (by omega), by omega, fun Z4 hz4 => ?_⟩
      have o4 : Oth Z Z4 (fun q => a + 16 ≤ q ∧ q < a + 40) := fun q hq => by
        rw [hz4.2.2.2 q (by omega), hz3.2 q (n2 _ _ (by omega)), hz2.2 q (n2 _ _ (by omega))]; exact o1 q hq
      have e20 : Z4 (a + 20) 0 = pd (eG (R 0) (crvF R) (pslo (R 0) (crvF R))) := hz4.1.deg
      have hge := pd_ge (eG (R 0) (crvF R) (pslo (R 0) (crvF R)))
      have hlt := pd_lt (eG (R 0) (crvF R) (pslo (R 0) (crvF R)))
      rw [e20]
      refine ⟨⟨by omega, by omega⟩, fun c5 => no Z4 o4 (fun e => c5 e.2.2), fun c5 => ?_⟩
      rw [decide_eq_true ⟨c3, fun j hj => hl j (by omega), c5⟩] at h
      exact h Z4 o4
    | succ m ih =>
      intro i w hw hi hl
      refine b_X11_isSound_39 o sb ?_
      rw [eb, show Z1 (a + 16) 0 = R 0 from hz1.1.1, show (2 + w).toNat = 2 + i by omega]
      refine ⟨⟨by omega, by omega⟩, ⟨by omega, by omega⟩, fun c4 => by omega, fun _ => ⟨by omega, by omega, hg _ (by omega), ⟨by omega, by omega⟩, fun c4 => ih (i + 1) (w + 1) (by omega) (by omega) (fun j hj => ?_), fun c4 => no Z1 o1 (fun e => by have := e.2.1 i (by omega); omega)⟩⟩
      by_cases cj : j = i
      · rw [cj]; exact c4
      · exact hl j (by omega)
  exact lp (d + 1) 0 0 rfl (by omega) (fun j hj => absurd hj (Nat.not_lt_zero j))
