/-! ===== the reference: feed, end, image, again ===== -/
theorem dX12_feed_0 : decode cX12_feed 0 = .ok (.aload_n 0, 1) := by decide +kernel
theorem dX12_feed_1 : decode cX12_feed 1 = .ok (.getfield 7, 3) := by decide +kernel
theorem dX12_feed_4 : decode cX12_feed 4 = .ok (.iconst 3, 1) := by decide +kernel
theorem dX12_feed_5 : decode cX12_feed 5 = .ok (.iaload, 1) := by decide +kernel
theorem dX12_feed_6 : decode cX12_feed 6 = .ok (.bipush 20, 2) := by decide +kernel
theorem dX12_feed_8 : decode cX12_feed 8 = .ok (.iadd, 1) := by decide +kernel
theorem dX12_feed_9 : decode cX12_feed 9 = .ok (.sipush 600, 3) := by decide +kernel
theorem dX12_feed_12 : decode cX12_feed 12 = .ok (.if_icmp .le 5, 3) := by decide +kernel
theorem dX12_feed_15 : decode cX12_feed 15 = .ok (.iconst (-1), 1) := by decide +kernel
theorem dX12_feed_16 : decode cX12_feed 16 = .ok (.ireturn, 1) := by decide +kernel
theorem dX12_feed_17 : decode cX12_feed 17 = .ok (.iconst 0, 1) := by decide +kernel
theorem dX12_feed_18 : decode cX12_feed 18 = .ok (.istore 6, 2) := by decide +kernel
theorem dX12_feed_20 : decode cX12_feed 20 = .ok (.iload 6, 2) := by decide +kernel
theorem dX12_feed_22 : decode cX12_feed 22 = .ok (.bipush 20, 2) := by decide +kernel
theorem dX12_feed_24 : decode cX12_feed 24 = .ok (.if_icmp .ge 98, 3) := by decide +kernel
theorem dX12_feed_27 : decode cX12_feed 27 = .ok (.iload 6, 2) := by decide +kernel
theorem dX12_feed_29 : decode cX12_feed 29 = .ok (.iconst 4, 1) := by decide +kernel
theorem dX12_feed_30 : decode cX12_feed 30 = .ok (.if_icmp .ge 7, 3) := by decide +kernel
theorem dX12_feed_33 : decode cX12_feed 33 = .ok (.iload_n 1, 1) := by decide +kernel
theorem dX12_feed_34 : decode cX12_feed 34 = .ok (.goto 39, 3) := by decide +kernel
theorem dX12_feed_37 : decode cX12_feed 37 = .ok (.iload 6, 2) := by decide +kernel
theorem dX12_feed_39 : decode cX12_feed 39 = .ok (.bipush 8, 2) := by decide +kernel
theorem dX12_feed_41 : decode cX12_feed 41 = .ok (.if_icmp .ge 7, 3) := by decide +kernel
theorem dX12_feed_44 : decode cX12_feed 44 = .ok (.iload_n 2, 1) := by decide +kernel
theorem dX12_feed_45 : decode cX12_feed 45 = .ok (.goto 28, 3) := by decide +kernel
theorem dX12_feed_48 : decode cX12_feed 48 = .ok (.iload 6, 2) := by decide +kernel
theorem dX12_feed_50 : decode cX12_feed 50 = .ok (.bipush 12, 2) := by decide +kernel
theorem dX12_feed_52 : decode cX12_feed 52 = .ok (.if_icmp .ge 7, 3) := by decide +kernel
theorem dX12_feed_55 : decode cX12_feed 55 = .ok (.iload_n 3, 1) := by decide +kernel
theorem dX12_feed_56 : decode cX12_feed 56 = .ok (.goto 17, 3) := by decide +kernel
theorem dX12_feed_59 : decode cX12_feed 59 = .ok (.iload 6, 2) := by decide +kernel
theorem dX12_feed_61 : decode cX12_feed 61 = .ok (.bipush 16, 2) := by decide +kernel
theorem dX12_feed_63 : decode cX12_feed 63 = .ok (.if_icmp .ge 8, 3) := by decide +kernel
theorem dX12_feed_66 : decode cX12_feed 66 = .ok (.iload 4, 2) := by decide +kernel
theorem dX12_feed_68 : decode cX12_feed 68 = .ok (.goto 5, 3) := by decide +kernel
theorem dX12_feed_71 : decode cX12_feed 71 = .ok (.iload 5, 2) := by decide +kernel
theorem dX12_feed_73 : decode cX12_feed 73 = .ok (.istore 7, 2) := by decide +kernel
theorem dX12_feed_75 : decode cX12_feed 75 = .ok (.aload_n 0, 1) := by decide +kernel
theorem dX12_feed_76 : decode cX12_feed 76 = .ok (.getfield 7, 3) := by decide +kernel
theorem dX12_feed_79 : decode cX12_feed 79 = .ok (.bipush 10, 2) := by decide +kernel
theorem dX12_feed_81 : decode cX12_feed 81 = .ok (.aload_n 0, 1) := by decide +kernel
theorem dX12_feed_82 : decode cX12_feed 82 = .ok (.getfield 7, 3) := by decide +kernel
theorem dX12_feed_85 : decode cX12_feed 85 = .ok (.iconst 3, 1) := by decide +kernel
theorem dX12_feed_86 : decode cX12_feed 86 = .ok (.iaload, 1) := by decide +kernel
theorem dX12_feed_87 : decode cX12_feed 87 = .ok (.iadd, 1) := by decide +kernel
theorem dX12_feed_88 : decode cX12_feed 88 = .ok (.iload 7, 2) := by decide +kernel
theorem dX12_feed_90 : decode cX12_feed 90 = .ok (.bipush 24, 2) := by decide +kernel
theorem dX12_feed_92 : decode cX12_feed 92 = .ok (.bipush 8, 2) := by decide +kernel
theorem dX12_feed_94 : decode cX12_feed 94 = .ok (.iload 6, 2) := by decide +kernel
theorem dX12_feed_96 : decode cX12_feed 96 = .ok (.iconst 4, 1) := by decide +kernel
theorem dX12_feed_97 : decode cX12_feed 97 = .ok (.irem, 1) := by decide +kernel
theorem dX12_feed_98 : decode cX12_feed 98 = .ok (.imul, 1) := by decide +kernel
theorem dX12_feed_99 : decode cX12_feed 99 = .ok (.isub, 1) := by decide +kernel
theorem dX12_feed_100 : decode cX12_feed 100 = .ok (.ishr, 1) := by decide +kernel
theorem dX12_feed_101 : decode cX12_feed 101 = .ok (.sipush 255, 3) := by decide +kernel
theorem dX12_feed_104 : decode cX12_feed 104 = .ok (.iand, 1) := by decide +kernel
theorem dX12_feed_105 : decode cX12_feed 105 = .ok (.iastore, 1) := by decide +kernel
theorem dX12_feed_106 : decode cX12_feed 106 = .ok (.aload_n 0, 1) := by decide +kernel
theorem dX12_feed_107 : decode cX12_feed 107 = .ok (.getfield 7, 3) := by decide +kernel
theorem dX12_feed_110 : decode cX12_feed 110 = .ok (.iconst 3, 1) := by decide +kernel
theorem dX12_feed_111 : decode cX12_feed 111 = .ok (.dup2, 1) := by decide +kernel
theorem dX12_feed_112 : decode cX12_feed 112 = .ok (.iaload, 1) := by decide +kernel
theorem dX12_feed_113 : decode cX12_feed 113 = .ok (.iconst 1, 1) := by decide +kernel
theorem dX12_feed_114 : decode cX12_feed 114 = .ok (.iadd, 1) := by decide +kernel
theorem dX12_feed_115 : decode cX12_feed 115 = .ok (.iastore, 1) := by decide +kernel
theorem dX12_feed_116 : decode cX12_feed 116 = .ok (.iinc 6 1, 3) := by decide +kernel
theorem dX12_feed_119 : decode cX12_feed 119 = .ok (.goto (-99), 3) := by decide +kernel
theorem dX12_feed_122 : decode cX12_feed 122 = .ok (.aload_n 0, 1) := by decide +kernel
theorem dX12_feed_123 : decode cX12_feed 123 = .ok (.getfield 7, 3) := by decide +kernel
theorem dX12_feed_126 : decode cX12_feed 126 = .ok (.iconst 3, 1) := by decide +kernel
theorem dX12_feed_127 : decode cX12_feed 127 = .ok (.iaload, 1) := by decide +kernel
theorem dX12_feed_128 : decode cX12_feed 128 = .ok (.ireturn, 1) := by decide +kernel
set_option maxRecDepth 20000 in
theorem b_X12_feed_0 {k n : Nat} {x : Wx} {Z : Zt} {Q : Option Value → Wx → Zt → Prop} {a0 : Nat} {v1 : Int} {v2 : Int} {v3 : Int} {v4 : Int} {v5 : Int} (o_a0 : Is12 x a0)
    (h : Rg ((Z (a0 + 1) 3) + 20) ∧ ((((Z (a0 + 1) 3) + 20 ≤ 600) → (V mX12_feed k n 20 [some (r_ a0), some (i_ v1), some (i_ v2), some (i_ v3), some (i_ v4), some (i_ v5), some (i_ 0), none] [] x Z Q)) ∧ ((600 < (Z (a0 + 1) 3) + 20) → (Q (some (i_ (-1))) x Z)))) :
    V mX12_feed k n 0 [some (r_ a0), some (i_ v1), some (i_ v2), some (i_ v3), some (i_ v4), some (i_ v5), none, none] [] x Z Q :=
  V_aload_n dX12_feed_0 rfl (G_12_0 o_a0.1 o_a0.qR0 lf_12_7 dX12_feed_1 (V_iconst dX12_feed_4 (V_iald (t := 100) o_a0.qK0 (by decide) rfl (by decide) (by decide) (Nat.le_of_ble_eq_true rfl) dX12_feed_5 (V_bipush dX12_feed_6 rfl (V_iadd dX12_feed_8 (V_sipush dX12_feed_9 rfl (V_icmp_le (tgt := 17) dX12_feed_12 rfl h.1 (rg_c rfl) (fun c1 => V_iconst dX12_feed_17 (V_istore (lv' := [some (r_ a0), some (i_ v1), some (i_ v2), some (i_ v3), some (i_ v4), some (i_ v5), some (i_ 0), none]) dX12_feed_18 (Nat.le_of_ble_eq_true rfl) rfl (V_msk [true, true, true, true, true, true, true, false] rfl (h.2.1 c1)))) (fun c1 => V_iconst dX12_feed_15 (V_iret (ty := .int) dX12_feed_16 rfl rfl (h.2.2 c1))))))))))
set_option maxRecDepth 20000 in
theorem b_X12_feed_20 {k n : Nat} {x : Wx} {Z : Zt} {Q : Option Value → Wx → Zt → Prop} {a0 : Nat} {v1 : Int} {v2 : Int} {v3 : Int} {v4 : Int} {v5 : Int} {v6 : Int} (o_a0 : Is12 x a0)
    (h : Rg v6 ∧ (((20 ≤ v6) → (Q (some (i_ (Z (a0 + 1) 3))) x Z)) ∧ ((v6 < 20) → (((4 ≤ v6) → (((8 ≤ v6) → (((12 ≤ v6) → (((16 ≤ v6) → (V mX12_feed k n 73 [some (r_ a0), some (i_ v1), some (i_ v2), some (i_ v3), some (i_ v4), some (i_ v5), some (i_ v6), none] [i_ v5] x Z Q)) ∧ ((v6 < 16) → (V mX12_feed k n 73 [some (r_ a0), some (i_ v1), some (i_ v2), some (i_ v3), some (i_ v4), some (i_ v5), some (i_ v6), none] [i_ v4] x Z Q)))) ∧ ((v6 < 12) → (V mX12_feed k n 73 [some (r_ a0), some (i_ v1), some (i_ v2), some (i_ v3), some (i_ v4), some (i_ v5), some (i_ v6), none] [i_ v3] x Z Q)))) ∧ ((v6 < 8) → (V mX12_feed k n 73 [some (r_ a0), some (i_ v1), some (i_ v2), some (i_ v3), some (i_ v4), some (i_ v5), some (i_ v6), none] [i_ v2] x Z Q)))) ∧ ((v6 < 4) → (V mX12_feed k n 73 [some (r_ a0), some (i_ v1), some (i_ v2), some (i_ v3), some (i_ v4), some (i_ v5), some (i_ v6), none] [i_ v1] x Z Q)))))) :
    V mX12_feed k n 20 [some (r_ a0), some (i_ v1), some (i_ v2), some (i_ v3), some (i_ v4), some (i_ v5), some (i_ v6), none] [] x Z Q :=
  V_iload dX12_feed_20 rfl (V_bipush dX12_feed_22 rfl (V_icmp_ge (tgt := 122) dX12_feed_24 rfl h.1 (rg_c rfl) (fun c1 => V_aload_n dX12_feed_122 rfl (G_12_0 o_a0.1 o_a0.qR0 lf_12_7 dX12_feed_123 (V_iconst dX12_feed_126 (V_iald (t := 100) o_a0.qK0 (by decide) rfl (by decide) (by decide) (Nat.le_of_ble_eq_true rfl) dX12_feed_127 (V_iret (ty := .int) dX12_feed_128 rfl rfl (h.2.1 c1)))))) (fun c1 => V_iload dX12_feed_27 rfl (V_iconst dX12_feed_29 (V_icmp_ge (tgt := 37) dX12_feed_30 rfl h.1 (rg_c rfl) (fun c2 => V_iload dX12_feed_37 rfl (V_bipush dX12_feed_39 rfl (V_icmp_ge (tgt := 48) dX12_feed_41 rfl h.1 (rg_c rfl) (fun c3 => V_iload dX12_feed_48 rfl (V_bipush dX12_feed_50 rfl (V_icmp_ge (tgt := 59) dX12_feed_52 rfl h.1 (rg_c rfl) (fun c4 => V_iload dX12_feed_59 rfl (V_bipush dX12_feed_61 rfl (V_icmp_ge (tgt := 71) dX12_feed_63 rfl h.1 (rg_c rfl) (fun c5 => V_iload dX12_feed_71 rfl (V_msk [true, true, true, true, true, true, true, false] rfl (((((h.2.2 c1).1 c2).1 c3).1 c4).1 c5))) (fun c5 => V_iload dX12_feed_66 rfl (V_goto (tgt := 73) dX12_feed_68 rfl (V_msk [true, true, true, true, true, true, true, false] rfl (((((h.2.2 c1).1 c2).1 c3).1 c4).2 c5))))))) (fun c4 => V_iload_n dX12_feed_55 rfl (V_goto (tgt := 73) dX12_feed_56 rfl (V_msk [true, true, true, true, true, true, true, false] rfl ((((h.2.2 c1).1 c2).1 c3).2 c4))))))) (fun c3 => V_iload_n dX12_feed_44 rfl (V_goto (tgt := 73) dX12_feed_45 rfl (V_msk [true, true, true, true, true, true, true, false] rfl (((h.2.2 c1).1 c2).2 c3))))))) (fun c2 => V_iload_n dX12_feed_33 rfl (V_goto (tgt := 73) dX12_feed_34 rfl (V_msk [true, true, true, true, true, true, true, false] rfl ((h.2.2 c1).2 c2)))))))))
set_option maxRecDepth 20000 in
theorem b_X12_feed_73 {k n : Nat} {x : Wx} {Z : Zt} {Q : Option Value → Wx → Zt → Prop} {a0 : Nat} {v1 : Int} {v2 : Int} {v3 : Int} {v4 : Int} {v5 : Int} {v6 : Int} {t0 : Int} (o_a0 : Is12 x a0)
    (h : Rg v6 ∧ (Rg t0 ∧ 0 ≤ 24 - (8 * (Int.tmod v6 4)) ∧ 24 - (8 * (Int.tmod v6 4)) < 32 ∧ (0 ≤ 10 + (Z (a0 + 1) 3) ∧ 10 + (Z (a0 + 1) 3) < 2912 ∧ (∀ Z1 : Zt, Z1 = up Z (a0 + 1) (10 + (Z (a0 + 1) 3)).toNat ((t0 / 2 ^ (24 - (8 * (Int.tmod v6 4))).toNat) % 256) → (∀ Z2 : Zt, Z2 = up Z1 (a0 + 1) 3 ((Z1 (a0 + 1) 3) + 1) → (V mX12_feed k n 20 [some (r_ a0), some (i_ v1), some (i_ v2), some (i_ v3), some (i_ v4), some (i_ v5), some (i_ (v6 + 1)), none] [] x Z2 Q)))))) :
    V mX12_feed k n 73 [some (r_ a0), some (i_ v1), some (i_ v2), some (i_ v3), some (i_ v4), some (i_ v5), some (i_ v6), none] [i_ t0] x Z Q :=
  V_istore (lv' := [some (r_ a0), some (i_ v1), some (i_ v2), some (i_ v3), some (i_ v4), some (i_ v5), some (i_ v6), some (i_ t0)]) dX12_feed_73 (Nat.le_of_ble_eq_true rfl) rfl (V_aload_n dX12_feed_75 rfl (G_12_0 o_a0.1 o_a0.qR0 lf_12_7 dX12_feed_76 (V_bipush dX12_feed_79 rfl (V_aload_n dX12_feed_81 rfl (G_12_0 o_a0.1 o_a0.qR0 lf_12_7 dX12_feed_82 (V_iconst dX12_feed_85 (V_iald (t := 100) o_a0.qK0 (by decide) rfl (by decide) (by decide) (Nat.le_of_ble_eq_true rfl) dX12_feed_86 (V_iadd dX12_feed_87 (V_iload dX12_feed_88 rfl (V_bipush dX12_feed_90 rfl (V_bipush dX12_feed_92 rfl (V_iload dX12_feed_94 rfl (V_iconst dX12_feed_96 (V_irem dX12_feed_97 h.1 (rg_c rfl) (by decide) (V_imul dX12_feed_98 (V_isub dX12_feed_99 (V_ishr dX12_feed_100 (shr_eq _ _ h.2.1 h.2.2.1 h.2.2.2.1) (V_sipush dX12_feed_101 rfl (V_iand dX12_feed_104 (and_255 _) (V_iast (t := 100) o_a0.qK0 (by decide) (by decide) rfl h.2.2.2.2.1 h.2.2.2.2.2.1 (Nat.le_of_ble_eq_true rfl) dX12_feed_105 (V_nmZ (fun Z1 eZ1 => V_aload_n dX12_feed_106 rfl (G_12_0 o_a0.1 o_a0.qR0 lf_12_7 dX12_feed_107 (V_iconst dX12_feed_110 (V_dup2 dX12_feed_111 rfl rfl (V_iald (t := 100) o_a0.qK0 (by decide) rfl (by decide) (by decide) (Nat.le_of_ble_eq_true rfl) dX12_feed_112 (V_iconst dX12_feed_113 (V_iadd dX12_feed_114 (V_iast (t := 100) o_a0.qK0 (by decide) (by decide) rfl (by decide) (by decide) (Nat.le_of_ble_eq_true rfl) dX12_feed_115 (V_nmZ (fun Z2 eZ2 => V_iinc (lv' := [some (r_ a0), some (i_ v1), some (i_ v2), some (i_ v3), some (i_ v4), some (i_ v5), some (i_ (v6 + 1)), some (i_ t0)]) dX12_feed_116 rfl (Nat.le_of_ble_eq_true rfl) rfl (V_goto (tgt := 20) dX12_feed_119 rfl (V_msk [true, true, true, true, true, true, true, false] rfl ((h.2.2.2.2.2.2 Z1 eZ1) Z2 eZ2))))))))))))))))))))))))))))))))))
theorem dX12_end_0 : decode cX12_end 0 = .ok (.iload_n 1, 1) := by decide +kernel
theorem dX12_end_1 : decode cX12_end 1 = .ok (.ifCond .lt 13, 3) := by decide +kernel
theorem dX12_end_4 : decode cX12_end 4 = .ok (.iload_n 1, 1) := by decide +kernel
theorem dX12_end_5 : decode cX12_end 5 = .ok (.aload_n 0, 1) := by decide +kernel
theorem dX12_end_6 : decode cX12_end 6 = .ok (.getfield 7, 3) := by decide +kernel
theorem dX12_end_9 : decode cX12_end 9 = .ok (.iconst 3, 1) := by decide +kernel
theorem dX12_end_10 : decode cX12_end 10 = .ok (.iaload, 1) := by decide +kernel
theorem dX12_end_11 : decode cX12_end 11 = .ok (.if_icmp .le 5, 3) := by decide +kernel
theorem dX12_end_14 : decode cX12_end 14 = .ok (.iconst (-1), 1) := by decide +kernel
theorem dX12_end_15 : decode cX12_end 15 = .ok (.ireturn, 1) := by decide +kernel
theorem dX12_end_16 : decode cX12_end 16 = .ok (.aload_n 0, 1) := by decide +kernel
theorem dX12_end_17 : decode cX12_end 17 = .ok (.getfield 7, 3) := by decide +kernel
theorem dX12_end_20 : decode cX12_end 20 = .ok (.iconst 3, 1) := by decide +kernel
theorem dX12_end_21 : decode cX12_end 21 = .ok (.iload_n 1, 1) := by decide +kernel
theorem dX12_end_22 : decode cX12_end 22 = .ok (.iastore, 1) := by decide +kernel
theorem dX12_end_23 : decode cX12_end 23 = .ok (.iload_n 1, 1) := by decide +kernel
theorem dX12_end_24 : decode cX12_end 24 = .ok (.ireturn, 1) := by decide +kernel
set_option maxRecDepth 20000 in
theorem b_X12_end_0 {k n : Nat} {x : Wx} {Z : Zt} {Q : Option Value → Wx → Zt → Prop} {a0 : Nat} {v1 : Int} (o_a0 : Is12 x a0)
    (h : Rg v1 ∧ (((v1 < 0) → (V mX12_end k n 14 [none, none] [] x Z Q)) ∧ ((0 ≤ v1) → (Rg (Z (a0 + 1) 3) ∧ (((v1 ≤ Z (a0 + 1) 3) → (∀ Z1 : Zt, Z1 = up Z (a0 + 1) 3 v1 → (Q (some (i_ v1)) x Z1))) ∧ ((Z (a0 + 1) 3 < v1) → (V mX12_end k n 14 [none, none] [] x Z Q))))))) :
    V mX12_end k n 0 [some (r_ a0), some (i_ v1)] [] x Z Q :=
  V_iload_n dX12_end_0 rfl (V_if_lt (tgt := 14) dX12_end_1 rfl h.1 (fun c1 => V_msk [false, false] rfl (h.2.1 c1)) (fun c1 => V_iload_n dX12_end_4 rfl (V_aload_n dX12_end_5 rfl (G_12_0 o_a0.1 o_a0.qR0 lf_12_7 dX12_end_6 (V_iconst dX12_end_9 (V_iald (t := 100) o_a0.qK0 (by decide) rfl (by decide) (by decide) (Nat.le_of_ble_eq_true rfl) dX12_end_10 (V_icmp_le (tgt := 16) dX12_end_11 rfl h.1 (h.2.2 c1).1 (fun c2 => V_aload_n dX12_end_16 rfl (G_12_0 o_a0.1 o_a0.qR0 lf_12_7 dX12_end_17 (V_iconst dX12_end_20 (V_iload_n dX12_end_21 rfl (V_iast (t := 100) o_a0.qK0 (by decide) (by decide) rfl (by decide) (by decide) (Nat.le_of_ble_eq_true rfl) dX12_end_22 (V_nmZ (fun Z1 eZ1 => V_iload_n dX12_end_23 rfl (V_iret (ty := .int) dX12_end_24 rfl rfl (((h.2.2 c1).2.1 c2) Z1 eZ1))))))))) (fun c2 => V_msk [false, false] rfl ((h.2.2 c1).2.2 c2)))))))))
set_option maxRecDepth 20000 in
theorem b_X12_end_14 {k n : Nat} {x : Wx} {Z : Zt} {Q : Option Value → Wx → Zt → Prop}  
    (h : Q (some (i_ (-1))) x Z) :
    V mX12_end k n 14 [none, none] [] x Z Q :=
  V_iconst dX12_end_14 (V_iret (ty := .int) dX12_end_15 rfl rfl h)
theorem dX12_image_0 : decode cX12_image 0 = .ok (.iload_n 1, 1) := by decide +kernel
theorem dX12_image_1 : decode cX12_image 1 = .ok (.iconst 0, 1) := by decide +kernel
theorem dX12_image_2 : decode cX12_image 2 = .ok (.iconst 2, 1) := by decide +kernel
theorem dX12_image_3 : decode cX12_image 3 = .ok (.invokestatic 129, 3) := by decide +kernel
theorem dX12_image_6 : decode cX12_image 6 = .ok (.ifCond .ne 5, 3) := by decide +kernel
theorem dX12_image_9 : decode cX12_image 9 = .ok (.iconst 0, 1) := by decide +kernel
theorem dX12_image_10 : decode cX12_image 10 = .ok (.ireturn, 1) := by decide +kernel
theorem dX12_image_11 : decode cX12_image 11 = .ok (.aload_n 0, 1) := by decide +kernel
theorem dX12_image_12 : decode cX12_image 12 = .ok (.getfield 13, 3) := by decide +kernel
theorem dX12_image_15 : decode cX12_image 15 = .ok (.iload_n 1, 1) := by decide +kernel
theorem dX12_image_16 : decode cX12_image 16 = .ok (.iconst 1, 1) := by decide +kernel
theorem dX12_image_17 : decode cX12_image 17 = .ok (.bastore, 1) := by decide +kernel
theorem dX12_image_18 : decode cX12_image 18 = .ok (.iconst 0, 1) := by decide +kernel
theorem dX12_image_19 : decode cX12_image 19 = .ok (.istore_n 2, 1) := by decide +kernel
theorem dX12_image_20 : decode cX12_image 20 = .ok (.iload_n 2, 1) := by decide +kernel
theorem dX12_image_21 : decode cX12_image 21 = .ok (.sipush 728, 3) := by decide +kernel
theorem dX12_image_24 : decode cX12_image 24 = .ok (.if_icmp .ge 29, 3) := by decide +kernel
theorem dX12_image_27 : decode cX12_image 27 = .ok (.aload_n 0, 1) := by decide +kernel
theorem dX12_image_28 : decode cX12_image 28 = .ok (.getfield 7, 3) := by decide +kernel
theorem dX12_image_31 : decode cX12_image 31 = .ok (.sipush 728, 3) := by decide +kernel
theorem dX12_image_34 : decode cX12_image 34 = .ok (.iload_n 1, 1) := by decide +kernel
theorem dX12_image_35 : decode cX12_image 35 = .ok (.iconst 1, 1) := by decide +kernel
theorem dX12_image_36 : decode cX12_image 36 = .ok (.iadd, 1) := by decide +kernel
theorem dX12_image_37 : decode cX12_image 37 = .ok (.imul, 1) := by decide +kernel
theorem dX12_image_38 : decode cX12_image 38 = .ok (.iload_n 2, 1) := by decide +kernel
theorem dX12_image_39 : decode cX12_image 39 = .ok (.iadd, 1) := by decide +kernel
theorem dX12_image_40 : decode cX12_image 40 = .ok (.aload_n 0, 1) := by decide +kernel
theorem dX12_image_41 : decode cX12_image 41 = .ok (.getfield 7, 3) := by decide +kernel
theorem dX12_image_44 : decode cX12_image 44 = .ok (.iload_n 2, 1) := by decide +kernel
theorem dX12_image_45 : decode cX12_image 45 = .ok (.iaload, 1) := by decide +kernel
theorem dX12_image_46 : decode cX12_image 46 = .ok (.iastore, 1) := by decide +kernel
theorem dX12_image_47 : decode cX12_image 47 = .ok (.iinc 2 1, 3) := by decide +kernel
theorem dX12_image_50 : decode cX12_image 50 = .ok (.goto (-30), 3) := by decide +kernel
theorem dX12_image_53 : decode cX12_image 53 = .ok (.iconst 1, 1) := by decide +kernel
theorem dX12_image_54 : decode cX12_image 54 = .ok (.ireturn, 1) := by decide +kernel
set_option maxRecDepth 20000 in
theorem b_X12_image_0 {k n : Nat} {x : Wx} {Z : Zt} {Q : Option Value → Wx → Zt → Prop} {a0 : Nat} {v1 : Int} (o_a0 : Is12 x a0)
    (h : (Rg v1 ∧ Rg (0 : Int) ∧ Rg (2 : Int)) ∧ (∀ (r1 : Int), (((r1 = 1 ∧ (0 : Int) ≤ v1 ∧ v1 ≤ (2 : Int)) ∨ (r1 = 0 ∧ (v1 < (0 : Int) ∨ (2 : Int) < v1)))) → (Rg r1 ∧ (((r1 ≠ 0) → (0 ≤ v1 ∧ v1 < 3 ∧ (∀ Z1 : Zt, Z1 = up Z (a0 + 2) v1.toNat 1 → (V mX12_image k n 20 [some (r_ a0), some (i_ v1), some (i_ 0)] [] x Z1 Q)))) ∧ ((r1 = 0) → (Q (some (i_ 0)) x Z)))))) :
    V mX12_image k n 0 [some (r_ a0), some (i_ v1), none] [] x Z Q :=
  V_iload_n dX12_image_0 rfl (V_iconst dX12_image_1 (V_iconst dX12_image_2 (V_callS (k' := 0) (n' := 0) [i_ v1, i_ 0, i_ 2] [] okX12_isIn lm_12_129 lsX12_isIn (Nat.le_of_ble_eq_true rfl) (Nat.le_of_ble_eq_true rfl) (Nat.le_of_ble_eq_true rfl) (cat_of rfl) (Nat.le_of_ble_eq_true rfl) (Nat.zero_le _) (Nat.zero_le _) rfl dX12_image_3 (sp_X12_isIn  h.1 (fun r1 p1 => V_if_ne (tgt := 11) dX12_image_6 rfl (h.2 r1 p1).1 (fun c1 => V_aload_n dX12_image_11 rfl (G_12_1 o_a0.1 o_a0.qR1 lf_12_13 dX12_image_12 (V_iload_n dX12_image_15 rfl (V_iconst dX12_image_16 (V_zast (t := 102) o_a0.qK1 (by decide) (by decide) rfl ((h.2 r1 p1).2.1 c1).1 ((h.2 r1 p1).2.1 c1).2.1 (Nat.le_of_ble_eq_true rfl) rfl dX12_image_17 (V_nmZ (fun Z1 eZ1 => V_iconst dX12_image_18 (V_istore_n (lv' := [some (r_ a0), some (i_ v1), some (i_ 0)]) dX12_image_19 (Nat.le_of_ble_eq_true rfl) rfl (V_msk [true, true, true] rfl (((h.2 r1 p1).2.1 c1).2.2 Z1 eZ1)))))))))) (fun c1 => V_iconst dX12_image_9 (V_iret (ty := .boolean) dX12_image_10 rfl rfl ((h.2 r1 p1).2.2 c1))))))))
set_option maxRecDepth 20000 in
theorem b_X12_image_20 {k n : Nat} {x : Wx} {Z : Zt} {Q : Option Value → Wx → Zt → Prop} {a0 : Nat} {v1 : Int} {v2 : Int} (o_a0 : Is12 x a0)
    (h : Rg v2 ∧ (((728 ≤ v2) → (Q (some (i_ 1)) x Z)) ∧ ((v2 < 728) → (0 ≤ v2 ∧ v2 < 2912 ∧ (0 ≤ (728 * (v1 + 1)) + v2 ∧ (728 * (v1 + 1)) + v2 < 2912 ∧ (∀ Z1 : Zt, Z1 = up Z (a0 + 1) ((728 * (v1 + 1)) + v2).toNat (Z (a0 + 1) v2.toNat) → (V mX12_image k n 20 [some (r_ a0), some (i_ v1), some (i_ (v2 + 1))] [] x Z1 Q))))))) :
    V mX12_image k n 20 [some (r_ a0), some (i_ v1), some (i_ v2)] [] x Z Q :=
  V_iload_n dX12_image_20 rfl (V_sipush dX12_image_21 rfl (V_icmp_ge (tgt := 53) dX12_image_24 rfl h.1 (rg_c rfl) (fun c1 => V_iconst dX12_image_53 (V_iret (ty := .boolean) dX12_image_54 rfl rfl (h.2.1 c1))) (fun c1 => V_aload_n dX12_image_27 rfl (G_12_0 o_a0.1 o_a0.qR0 lf_12_7 dX12_image_28 (V_sipush dX12_image_31 rfl (V_iload_n dX12_image_34 rfl (V_iconst dX12_image_35 (V_iadd dX12_image_36 (V_imul dX12_image_37 (V_iload_n dX12_image_38 rfl (V_iadd dX12_image_39 (V_aload_n dX12_image_40 rfl (G_12_0 o_a0.1 o_a0.qR0 lf_12_7 dX12_image_41 (V_iload_n dX12_image_44 rfl (V_iald (t := 100) o_a0.qK0 (by decide) rfl (h.2.2 c1).1 (h.2.2 c1).2.1 (Nat.le_of_ble_eq_true rfl) dX12_image_45 (V_iast (t := 100) o_a0.qK0 (by decide) (by decide) rfl (h.2.2 c1).2.2.1 (h.2.2 c1).2.2.2.1 (Nat.le_of_ble_eq_true rfl) dX12_image_46 (V_nmZ (fun Z1 eZ1 => V_iinc (lv' := [some (r_ a0), some (i_ v1), some (i_ (v2 + 1))]) dX12_image_47 rfl (Nat.le_of_ble_eq_true rfl) rfl (V_goto (tgt := 20) dX12_image_50 rfl (V_msk [true, true, true] rfl ((h.2.2 c1).2.2.2.2 Z1 eZ1)))))))))))))))))))))
theorem dX12_again_0 : decode cX12_again 0 = .ok (.iload_n 1, 1) := by decide +kernel
theorem dX12_again_1 : decode cX12_again 1 = .ok (.iconst 0, 1) := by decide +kernel
theorem dX12_again_2 : decode cX12_again 2 = .ok (.iconst 2, 1) := by decide +kernel
theorem dX12_again_3 : decode cX12_again 3 = .ok (.invokestatic 129, 3) := by decide +kernel
theorem dX12_again_6 : decode cX12_again 6 = .ok (.ifCond .eq 12, 3) := by decide +kernel
theorem dX12_again_9 : decode cX12_again 9 = .ok (.aload_n 0, 1) := by decide +kernel
theorem dX12_again_10 : decode cX12_again 10 = .ok (.getfield 13, 3) := by decide +kernel
theorem dX12_again_13 : decode cX12_again 13 = .ok (.iload_n 1, 1) := by decide +kernel
theorem dX12_again_14 : decode cX12_again 14 = .ok (.baload, 1) := by decide +kernel
theorem dX12_again_15 : decode cX12_again 15 = .ok (.ifCond .ne 5, 3) := by decide +kernel
theorem dX12_again_18 : decode cX12_again 18 = .ok (.iconst 0, 1) := by decide +kernel
theorem dX12_again_19 : decode cX12_again 19 = .ok (.ireturn, 1) := by decide +kernel
theorem dX12_again_20 : decode cX12_again 20 = .ok (.iconst 0, 1) := by decide +kernel
theorem dX12_again_21 : decode cX12_again 21 = .ok (.istore_n 2, 1) := by decide +kernel
theorem dX12_again_22 : decode cX12_again 22 = .ok (.iload_n 2, 1) := by decide +kernel
theorem dX12_again_23 : decode cX12_again 23 = .ok (.sipush 728, 3) := by decide +kernel
theorem dX12_again_26 : decode cX12_again 26 = .ok (.if_icmp .ge 29, 3) := by decide +kernel
theorem dX12_again_29 : decode cX12_again 29 = .ok (.aload_n 0, 1) := by decide +kernel
theorem dX12_again_30 : decode cX12_again 30 = .ok (.getfield 7, 3) := by decide +kernel
theorem dX12_again_33 : decode cX12_again 33 = .ok (.iload_n 2, 1) := by decide +kernel
theorem dX12_again_34 : decode cX12_again 34 = .ok (.aload_n 0, 1) := by decide +kernel
theorem dX12_again_35 : decode cX12_again 35 = .ok (.getfield 7, 3) := by decide +kernel
theorem dX12_again_38 : decode cX12_again 38 = .ok (.sipush 728, 3) := by decide +kernel
theorem dX12_again_41 : decode cX12_again 41 = .ok (.iload_n 1, 1) := by decide +kernel
theorem dX12_again_42 : decode cX12_again 42 = .ok (.iconst 1, 1) := by decide +kernel
theorem dX12_again_43 : decode cX12_again 43 = .ok (.iadd, 1) := by decide +kernel
theorem dX12_again_44 : decode cX12_again 44 = .ok (.imul, 1) := by decide +kernel
theorem dX12_again_45 : decode cX12_again 45 = .ok (.iload_n 2, 1) := by decide +kernel
theorem dX12_again_46 : decode cX12_again 46 = .ok (.iadd, 1) := by decide +kernel
theorem dX12_again_47 : decode cX12_again 47 = .ok (.iaload, 1) := by decide +kernel
theorem dX12_again_48 : decode cX12_again 48 = .ok (.iastore, 1) := by decide +kernel
theorem dX12_again_49 : decode cX12_again 49 = .ok (.iinc 2 1, 3) := by decide +kernel
theorem dX12_again_52 : decode cX12_again 52 = .ok (.goto (-30), 3) := by decide +kernel
theorem dX12_again_55 : decode cX12_again 55 = .ok (.iconst 1, 1) := by decide +kernel
theorem dX12_again_56 : decode cX12_again 56 = .ok (.ireturn, 1) := by decide +kernel
set_option maxRecDepth 20000 in
theorem b_X12_again_0 {k n : Nat} {x : Wx} {Z : Zt} {Q : Option Value → Wx → Zt → Prop} {a0 : Nat} {v1 : Int} (o_a0 : Is12 x a0)
    (h : (Rg v1 ∧ Rg (0 : Int) ∧ Rg (2 : Int)) ∧ (∀ (r1 : Int), (((r1 = 1 ∧ (0 : Int) ≤ v1 ∧ v1 ≤ (2 : Int)) ∨ (r1 = 0 ∧ (v1 < (0 : Int) ∨ (2 : Int) < v1)))) → (Rg r1 ∧ (((r1 = 0) → (V mX12_again k n 18 [none, none, none] [] x Z Q)) ∧ ((r1 ≠ 0) → (0 ≤ v1 ∧ v1 < 3 ∧ (Rg (Z (a0 + 2) v1.toNat) ∧ (((Z (a0 + 2) v1.toNat ≠ 0) → (V mX12_again k n 22 [some (r_ a0), some (i_ v1), some (i_ 0)] [] x Z Q)) ∧ ((Z (a0 + 2) v1.toNat = 0) → (V mX12_again k n 18 [none, none, none] [] x Z Q)))))))))) :
    V mX12_again k n 0 [some (r_ a0), some (i_ v1), none] [] x Z Q :=
  V_iload_n dX12_again_0 rfl (V_iconst dX12_again_1 (V_iconst dX12_again_2 (V_callS (k' := 0) (n' := 0) [i_ v1, i_ 0, i_ 2] [] okX12_isIn lm_12_129 lsX12_isIn (Nat.le_of_ble_eq_true rfl) (Nat.le_of_ble_eq_true rfl) (Nat.le_of_ble_eq_true rfl) (cat_of rfl) (Nat.le_of_ble_eq_true rfl) (Nat.zero_le _) (Nat.zero_le _) rfl dX12_again_3 (sp_X12_isIn  h.1 (fun r1 p1 => V_if_eq (tgt := 18) dX12_again_6 rfl (h.2 r1 p1).1 (fun c1 => V_msk [false, false, false] rfl ((h.2 r1 p1).2.1 c1)) (fun c1 => V_aload_n dX12_again_9 rfl (G_12_1 o_a0.1 o_a0.qR1 lf_12_13 dX12_again_10 (V_iload_n dX12_again_13 rfl (V_zald (t := 102) o_a0.qK1 (by decide) rfl ((h.2 r1 p1).2.2 c1).1 ((h.2 r1 p1).2.2 c1).2.1 (Nat.le_of_ble_eq_true rfl) dX12_again_14 (V_if_ne (tgt := 20) dX12_again_15 rfl ((h.2 r1 p1).2.2 c1).2.2.1 (fun c2 => V_iconst dX12_again_20 (V_istore_n (lv' := [some (r_ a0), some (i_ v1), some (i_ 0)]) dX12_again_21 (Nat.le_of_ble_eq_true rfl) rfl (V_msk [true, true, true] rfl (((h.2 r1 p1).2.2 c1).2.2.2.1 c2)))) (fun c2 => V_msk [false, false, false] rfl (((h.2 r1 p1).2.2 c1).2.2.2.2 c2))))))))))))
set_option maxRecDepth 20000 in
theorem b_X12_again_18 {k n : Nat} {x : Wx} {Z : Zt} {Q : Option Value → Wx → Zt → Prop}  
    (h : Q (some (i_ 0)) x Z) :
    V mX12_again k n 18 [none, none, none] [] x Z Q :=
  V_iconst dX12_again_18 (V_iret (ty := .boolean) dX12_again_19 rfl rfl h)
set_option maxRecDepth 20000 in
theorem b_X12_again_22 {k n : Nat} {x : Wx} {Z : Zt} {Q : Option Value → Wx → Zt → Prop} {a0 : Nat} {v1 : Int} {v2 : Int} (o_a0 : Is12 x a0)
    (h : Rg v2 ∧ (((728 ≤ v2) → (Q (some (i_ 1)) x Z)) ∧ ((v2 < 728) → (0 ≤ (728 * (v1 + 1)) + v2 ∧ (728 * (v1 + 1)) + v2 < 2912 ∧ (0 ≤ v2 ∧ v2 < 2912 ∧ (∀ Z1 : Zt, Z1 = up Z (a0 + 1) v2.toNat (Z (a0 + 1) ((728 * (v1 + 1)) + v2).toNat) → (V mX12_again k n 22 [some (r_ a0), some (i_ v1), some (i_ (v2 + 1))] [] x Z1 Q))))))) :
    V mX12_again k n 22 [some (r_ a0), some (i_ v1), some (i_ v2)] [] x Z Q :=
  V_iload_n dX12_again_22 rfl (V_sipush dX12_again_23 rfl (V_icmp_ge (tgt := 55) dX12_again_26 rfl h.1 (rg_c rfl) (fun c1 => V_iconst dX12_again_55 (V_iret (ty := .boolean) dX12_again_56 rfl rfl (h.2.1 c1))) (fun c1 => V_aload_n dX12_again_29 rfl (G_12_0 o_a0.1 o_a0.qR0 lf_12_7 dX12_again_30 (V_iload_n dX12_again_33 rfl (V_aload_n dX12_again_34 rfl (G_12_0 o_a0.1 o_a0.qR0 lf_12_7 dX12_again_35 (V_sipush dX12_again_38 rfl (V_iload_n dX12_again_41 rfl (V_iconst dX12_again_42 (V_iadd dX12_again_43 (V_imul dX12_again_44 (V_iload_n dX12_again_45 rfl (V_iadd dX12_again_46 (V_iald (t := 100) o_a0.qK0 (by decide) rfl (h.2.2 c1).1 (h.2.2 c1).2.1 (Nat.le_of_ble_eq_true rfl) dX12_again_47 (V_iast (t := 100) o_a0.qK0 (by decide) (by decide) rfl (h.2.2 c1).2.2.1 (h.2.2 c1).2.2.2.1 (Nat.le_of_ble_eq_true rfl) dX12_again_48 (V_nmZ (fun Z1 eZ1 => V_iinc (lv' := [some (r_ a0), some (i_ v1), some (i_ (v2 + 1))]) dX12_again_49 rfl (Nat.le_of_ble_eq_true rfl) rfl (V_goto (tgt := 22) dX12_again_52 rfl (V_msk [true, true, true] rfl ((h.2.2 c1).2.2.2.2 Z1 eZ1)))))))))))))))))))))
def Mw (b : Nat) (Z Z' : Zt) : Prop := ∀ c : Nat, (c < b ∨ b + 26 ≤ c) → Z' c = Z c
theorem MT.ext {g g' : Nat → Int} {T : Td} (h : MT g T) (hV : TdV T) (he : ∀ i : Nat, i < 728 → g' i = g i) : MT g' T := by
  obtain ⟨⟨h1, h2, h3⟩, ⟨h4, h5, h6⟩, h7, h8, h9, h10⟩ := h
  have c0 := hV.2.2.2.2.1
  have c1 := hV.2.2.2.2.2.1
  have c2 := hV.2.2.2.2.2.2.1
  refine ⟨⟨by rw [he 0 (by decide)]; exact h1, by rw [he 1 (by decide)]; exact h2, by rw [he 2 (by decide)]; exact h3⟩, ⟨by rw [he 3 (by decide)]; exact h4, by rw [he 4 (by decide)]; exact h5, by rw [he 5 (by decide)]; exact h6⟩, fun i hi => by rw [he _ (by omega)]; exact h7 i hi, fun q hq => ?_, fun q hq => ?_, fun q hq i hi => by rw [he _ (by omega)]; exact h10 q hq i hi⟩
  · have hd := (hV.2.2.2.2.2.2.2.1 q hq).2.1
    obtain ⟨a1, a2, a3⟩ := h8 q hq
    exact ⟨by rw [he _ (by omega)]; exact a1, by rw [he _ (by omega)]; exact a2, fun i hi => by rw [he _ (by omega)]; exact a3 i hi⟩
  · have hd : 0 ≤ T.rw (2 + q) 0 ∧ T.rw (2 + q) 0 ≤ 8 := (hV.2.2.2.2.2.2.2.2.1 q hq).1.1
    obtain ⟨a1, a2, a3⟩ := h9 q hq
    exact ⟨by rw [he _ (by omega)]; exact a1, by rw [he _ (by omega)]; exact a2, fun i hi => by rw [he _ (by omega)]; exact a3 i hi⟩
theorem bmod_mod (x : Int) : Int.bmod x 256 % 256 = x % 256 := by
  simp only [Int.bmod]
  split <;> omega
theorem byt_mod (v : Int) {j : Nat} (hj : j < 4) : byt v j % 256 = (v / 2 ^ (24 - 8 * j)) % 256 := by
  unfold byt
  rw [bmod_mod]
  have : j = 0 ∨ j = 1 ∨ j = 2 ∨ j = 3 := by omega
  rcases this with rfl | rfl | rfl | rfl
  · show v % 4294967296 / 16777216 % 256 = v / 16777216 % 256; omega
  · show v % 4294967296 / 65536 % 256 = v / 65536 % 256; omega
  · show v % 4294967296 / 256 % 256 = v / 256 % 256; omega
  · show v % 4294967296 / 1 % 256 = v / 1 % 256; omega
theorem sp_X12_feed {k n : Nat} {x : Wx} {Z : Zt} {Q : Option Value → Wx → Zt → Prop} {b : Nat} {v1 v2 v3 v4 v5 : Int} {S : Ab} (hI : MI x Z b S) (hV : AbV S) (hr : Rg v1 ∧ Rg v2 ∧ Rg v3 ∧ Rg v4 ∧ Rg v5) (h : ∀ Z' : Zt, MI x Z' b (nFeed S.nw v1 v2 v3 v4 v5, S.im) → Mw b Z Z' → Q (some (i_ (aFeed S.nw))) x Z') : V mX12_feed k n 0 [some (r_ b), some (i_ v1), some (i_ v2), some (i_ v3), some (i_ v4), some (i_ v5), none, none] [] x Z Q := by
  obtain ⟨o, hT, hi⟩ := id hI
  have hln := hV.1.2.1
  obtain ⟨m, hm⟩ : ∃ m : Nat, S.nw.ln = (m : Int) := ⟨S.nw.ln.toNat, by omega⟩
  have e3 : Z (b + 1) 3 = (m : Int) := by rw [hT.2.1.1, hm]
  unfold aFeed nFeed at h
  rw [hm, Int.toNat_natCast] at h
  refine b_X12_feed_0 o ⟨by rw [e3]; exact ⟨by omega, by omega⟩, fun c => ?_, fun c => ?_⟩
  · rw [e3] at c
    rw [if_pos (by omega), if_pos (by omega)] at h
    have lp : ∀ (r j : Nat) (Z1 : Zt), j + r = 20 → (∀ c, c ≠ b + 1 → Z1 c = Z c) → (∀ i : Nat, Z1 (b + 1) i = if i = 3 then (m : Int) + j else if 10 + m ≤ i ∧ i < 10 + m + j then fdB v1 v2 v3 v4 v5 (i - (10 + m)) % 256 else Z (b + 1) i) → V mX12_feed k n 20 [some (r_ b), some (i_ v1), some (i_ v2), some (i_ v3), some (i_ v4), some (i_ v5), some (i_ (j : Int)), none] [] x Z1 Q := by
      intro r
      induction r with
      | zero =>
        intro j Z1 hj hO hA
        have ej : j = 20 := by omega
        subst ej
        have e3' : Z1 (b + 1) 3 = (m : Int) + 20 := by rw [hA, if_pos rfl]; rfl
        refine b_X12_feed_20 o ⟨⟨by omega, by omega⟩, fun _ => ?_, fun c => by omega⟩
        rw [e3']
        refine h Z1 ⟨o, ?_, fun q hq => ?_⟩ (fun c hc => hO c (by omega))
        · obtain ⟨⟨h1, h2, h3⟩, ⟨h4, h5, h6⟩, h7, h8, h9, h10⟩ := hT
          have hct0 := hV.1.2.2.2.2.1
          have far : ∀ i : Nat, (i < 3 ∨ i = 4 ∨ i = 5 ∨ 610 ≤ i) → Z1 (b + 1) i = Z (b + 1) i := fun i hi => by rw [hA, if_neg (by omega), if_neg (by omega)]
          refine ⟨⟨by rw [far 0 (by omega)]; exact h1, by rw [far 1 (by omega)]; exact h2, by rw [far 2 (by omega)]; exact h3⟩, ⟨e3', by rw [far 4 (by omega)]; exact h5, by rw [far 5 (by omega)]; exact h6⟩, fun i hi => ?_, fun q hq => ?_, fun q hq => ?_, fun q hq i hi => by rw [far _ (by omega)]; exact h10 q hq i hi⟩
          · show _ = (if m ≤ i ∧ i < m + 20 then fdB v1 v2 v3 v4 v5 (i - m) else S.nw.tp i) % 256
            rw [hA, if_neg (by omega)]
            by_cases c2 : m ≤ i ∧ i < m + 20
            · rw [if_pos c2, if_pos (by omega), show 10 + i - (10 + m) = i - m from by omega]
            · rw [if_neg c2, if_neg (by omega)]; exact h7 i hi
          · obtain ⟨a1, a2, a3⟩ := h8 q hq
            exact ⟨by rw [far _ (by omega)]; exact a1, by rw [far _ (by omega)]; exact a2, fun i hi => by rw [far _ (by omega)]; exact a3 i hi⟩
          · obtain ⟨a1, a2, a3⟩ := h9 q hq
            exact ⟨by rw [far _ (by omega)]; exact a1, by rw [far _ (by omega)]; exact a2, fun i hi => by rw [far _ (by omega)]; exact a3 i hi⟩
        · rw [hO (b + 2) (by omega)]
          refine ⟨(hi q hq).1, fun T hT2 => ⟨((hi q hq).2 T hT2).1, ((hi q hq).2 T hT2).2.ext (hV.2 q hq T hT2) (fun i _ => ?_)⟩⟩
          show Z1 (b + 1) _ = Z (b + 1) _
          rw [hA, if_neg (by omega), if_neg (by omega)]
      | succ r ih =>
        intro j Z1 hj hO hA
        have e3' : Z1 (b + 1) 3 = (m : Int) + j := by rw [hA, if_pos rfl]
        have em : Int.tmod (j : Int) 4 = ((j % 4 : Nat) : Int) := by rw [Int.tmod_eq_emod_of_nonneg (by omega)]; omega
        have k73 : ∀ t : Int, Rg t → (t / 2 ^ (24 - 8 * (j % 4))) % 256 = fdB v1 v2 v3 v4 v5 j % 256 → V mX12_feed k n 73 [some (r_ b), some (i_ v1), some (i_ v2), some (i_ v3), some (i_ v4), some (i_ v5), some (i_ (j : Int)), none] [i_ t] x Z1 Q := fun t ht et => by
          refine b_X12_feed_73 o ⟨⟨by omega, by omega⟩, ht, by rw [em]; omega, by rw [em]; omega, by rw [e3']; omega, by rw [e3']; omega, fun Z2 f2 Z3 f3 => ?_⟩
          rw [e3', em, show (10 + ((m : Int) + j)).toNat = 10 + m + j from by omega, show (24 - 8 * ((j % 4 : Nat) : Int)).toNat = 24 - 8 * (j % 4) from by omega, et] at f2
          have g3 : Z2 (b + 1) 3 = (m : Int) + j := by rw [f2, up_at, if_neg (by omega)]; exact e3'
          rw [g3] at f3
          refine ih (j + 1) Z3 (by omega) (fun c hc => by rw [f3, up_row _ _ _ _ _ hc, f2, up_row _ _ _ _ _ hc]; exact hO c hc) (fun i => ?_)
          rw [f3, up_at]
          by_cases c0 : i = 3
          · rw [if_pos c0, if_pos c0]; omega
          · rw [if_neg c0, if_neg c0, f2, up_at]
            by_cases c1 : i = 10 + m + j
            · rw [if_pos c1, if_pos (by omega), c1, show 10 + m + j - (10 + m) = j from by omega]
            · rw [if_neg c1, hA, if_neg c0]
              by_cases c2 : 10 + m ≤ i ∧ i < 10 + m + j
              · rw [if_pos c2, if_pos (by omega)]
              · rw [if_neg c2, if_neg (by omega)]
        refine b_X12_feed_20 o ⟨⟨by omega, by omega⟩, fun c => by omega, fun _ => ⟨fun d1 => ⟨fun d2 => ⟨fun d3 => ⟨fun d4 => k73 v5 hr.2.2.2.2 ?_, fun d4 => k73 v4 hr.2.2.2.1 ?_⟩, fun d3 => k73 v3 hr.2.2.1 ?_⟩, fun d2 => k73 v2 hr.2.1 ?_⟩, fun d1 => k73 v1 hr.1 ?_⟩⟩
        · unfold fdB; rw [if_neg (by omega), if_neg (by omega), if_neg (by omega), if_neg (by omega), byt_mod _ (by omega), show j - 16 = j % 4 from by omega]
        · unfold fdB; rw [if_neg (by omega), if_neg (by omega), if_neg (by omega), if_pos (by omega), byt_mod _ (by omega), show j - 12 = j % 4 from by omega]
        · unfold fdB; rw [if_neg (by omega), if_neg (by omega), if_pos (by omega), byt_mod _ (by omega), show j - 8 = j % 4 from by omega]
        · unfold fdB; rw [if_neg (by omega), if_pos (by omega), byt_mod _ (by omega), show j - 4 = j % 4 from by omega]
        · unfold fdB; rw [if_pos (by omega), byt_mod _ (by omega), show j % 4 = j from by omega]
    refine lp 20 0 Z rfl (fun _ _ => rfl) (fun i => ?_)
    by_cases c0 : i = 3
    · rw [if_pos c0, c0, e3]; rfl
    · rw [if_neg c0, if_neg (by omega)]
  · rw [e3] at c
    rw [if_neg (by omega), if_neg (by omega)] at h
    exact h Z hI (fun _ _ => rfl)
theorem MI.one {x : Wx} {Z Z' : Zt} {b : Nat} {S : Ab} {T : Td} (hI : MI x Z b S) (hV : AbV S) (hO : ∀ c, c ≠ b + 1 → Z' c = Z c) (h7 : ∀ i : Nat, 728 ≤ i → Z' (b + 1) i = Z (b + 1) i) (hT : MT (Z' (b + 1)) T) : MI x Z' b (T, S.im) := by
  refine ⟨hI.1, hT, fun q hq => ?_⟩
  rw [hO (b + 2) (by omega)]
  refine ⟨(hI.2.2 q hq).1, fun T hT2 => ⟨((hI.2.2 q hq).2 T hT2).1, ((hI.2.2 q hq).2 T hT2).2.ext (hV.2 q hq T hT2) (fun i _ => ?_)⟩⟩
  show Z' (b + 1) _ = Z (b + 1) _
  exact h7 _ (by omega)
theorem sp_X12_end {k n : Nat} {x : Wx} {Z : Zt} {Q : Option Value → Wx → Zt → Prop} {b : Nat} {v : Int} {S : Ab} (hI : MI x Z b S) (hV : AbV S) (hv : Rg v) (h : ∀ Z' : Zt, MI x Z' b (nEnd S.nw v, S.im) → Mw b Z Z' → Q (some (i_ (aEnd S.nw v))) x Z') : V mX12_end k n 0 [some (r_ b), some (i_ v)] [] x Z Q := by
  unfold aEnd nEnd at h
  obtain ⟨o, hT, hi⟩ := id hI
  have hln := hV.1.2.1
  have e3 : Z (b + 1) 3 = S.nw.ln := hT.2.1.1
  refine b_X12_end_0 o ⟨hv, fun c => b_X12_end_14 ?_, fun c => ⟨by rw [e3]; exact ⟨by omega, by omega⟩, fun c2 Z1 e1 => ?_, fun c2 => b_X12_end_14 ?_⟩⟩
  · rw [if_neg (by omega), if_neg (by omega)] at h; exact h Z hI (fun _ _ => rfl)
  · rw [e3] at c2
    rw [if_pos ⟨c, c2⟩, if_pos ⟨c, c2⟩] at h
    have far : ∀ i : Nat, i ≠ 3 → Z1 (b + 1) i = Z (b + 1) i := fun i hi => by rw [e1, up_at, if_neg hi]
    refine h Z1 (hI.one hV (fun c hc => by rw [e1, up_row _ _ _ _ _ hc]) (fun i hi => far i (by omega)) ?_) (fun c hc => by rw [e1, up_row _ _ _ _ _ (by omega)])
    obtain ⟨⟨h1, h2, h3⟩, ⟨h4, h5, h6⟩, h7, h8, h9, h10⟩ := hT
    refine ⟨⟨by rw [far 0 (by omega)]; exact h1, by rw [far 1 (by omega)]; exact h2, by rw [far 2 (by omega)]; exact h3⟩, ⟨by rw [e1, up_self]; rfl, by rw [far 4 (by omega)]; exact h5, by rw [far 5 (by omega)]; exact h6⟩, fun i hi => by rw [far _ (by omega)]; exact h7 i hi, fun q hq => ?_, fun q hq => ?_, fun q hq i hi => by rw [far _ (by omega)]; exact h10 q hq i hi⟩
    · obtain ⟨a1, a2, a3⟩ := h8 q hq
      exact ⟨by rw [far _ (by omega)]; exact a1, by rw [far _ (by omega)]; exact a2, fun i hi => by rw [far _ (by omega)]; exact a3 i hi⟩
    · obtain ⟨a1, a2, a3⟩ := h9 q hq
      exact ⟨by rw [far _ (by omega)]; exact a1, by rw [far _ (by omega)]; exact a2, fun i hi => by rw [far _ (by omega)]; exact a3 i hi⟩
  · rw [e3] at c2
    rw [if_neg (by omega), if_neg (by omega)] at h; exact h Z hI (fun _ _ => rfl)
theorem sp_X12_image {k n : Nat} {x : Wx} {Z : Zt} {Q : Option Value → Wx → Zt → Prop} {b : Nat} {v : Int} {S : Ab} (hI : MI x Z b S) (hV : AbV S) (hv : Rg v) (h : ∀ Z' : Zt, MI x Z' b (nImg S v) → Mw b Z Z' → Q (some (i_ (aImg v))) x Z') : V mX12_image k n 0 [some (r_ b), some (i_ v), none] [] x Z Q := by
  unfold aImg nImg at h
  obtain ⟨o, hT, hi⟩ := id hI
  refine b_X12_image_0 o ⟨⟨hv, rg_z, ⟨by decide, by decide⟩⟩, fun r1 h1 => ⟨⟨by omega, by omega⟩, fun c => ⟨by omega, by omega, fun Z1 e1 => ?_⟩, fun c => ?_⟩⟩
  · have hv3 : 0 ≤ v ∧ v < 3 := by omega
    rw [if_pos hv3, if_pos hv3] at h
    obtain ⟨w, rfl⟩ : ∃ w : Nat, v = (w : Int) := ⟨v.toNat, by omega⟩
    rw [Int.toNat_natCast] at h e1
    have lp : ∀ (r j : Nat) (Z2 : Zt), j + r = 728 → (∀ c, c ≠ b + 1 → Z2 c = Z1 c) → (∀ i : Nat, Z2 (b + 1) i = if 728 * (w + 1) ≤ i ∧ i < 728 * (w + 1) + j then Z (b + 1) (i - 728 * (w + 1)) else Z (b + 1) i) → V mX12_image k n 20 [some (r_ b), some (i_ (w : Int)), some (i_ (j : Int))] [] x Z2 Q := by
      intro r
      induction r with
      | zero =>
        intro j Z2 hj hO hA
        have ej : j = 728 := by omega
        subst ej
        refine b_X12_image_20 o ⟨⟨by omega, by omega⟩, fun _ => h Z2 ⟨o, ?_, fun q hq => ?_⟩ (fun c hc => by rw [hO c (by omega), e1, up_row _ _ _ _ _ (by omega)]), fun c => by omega⟩
        · exact hT.ext hV.1 (fun i hi => by rw [hA, if_neg (by omega)])
        · rw [hO (b + 2) (by omega), e1, up_at]
          show ((if q = w then some S.nw else S.im q) = none → _) ∧ ∀ T : Td, (if q = w then some S.nw else S.im q) = some T → _
          by_cases c : q = w
          · rw [if_pos c, if_pos c]
            refine ⟨fun e => (by cases e), fun T eT => ?_⟩
            cases eT
            exact ⟨rfl, hT.ext hV.1 (fun i hi => by show Z2 (b + 1) _ = _; rw [hA, if_pos (by omega), show 728 * (q + 1) + i - 728 * (w + 1) = i from by omega])⟩
          · rw [if_neg c, if_neg c]
            refine ⟨(hi q hq).1, fun T eT => ⟨((hi q hq).2 T eT).1, ((hi q hq).2 T eT).2.ext (hV.2 q hq T eT) (fun i hi => ?_)⟩⟩
            show Z2 (b + 1) _ = Z (b + 1) _
            rw [hA, if_neg (by omega)]
      | succ r ih =>
        intro j Z2 hj hO hA
        refine b_X12_image_20 o ⟨⟨by omega, by omega⟩, fun c => by omega, fun _ => ⟨by omega, by omega, by omega, by omega, fun Z3 e3 => ?_⟩⟩
        rw [Int.toNat_natCast, show (728 * ((w : Int) + 1) + (j : Int)).toNat = 728 * (w + 1) + j from by omega, hA j, if_neg (by omega)] at e3
        refine ih (j + 1) Z3 (by omega) (fun c hc => by rw [e3, up_row _ _ _ _ _ hc]; exact hO c hc) (fun i => ?_)
        rw [e3, up_at]
        by_cases c1 : i = 728 * (w + 1) + j
        · rw [if_pos c1, if_pos (by omega), c1, show 728 * (w + 1) + j - 728 * (w + 1) = j from by omega]
        · rw [if_neg c1, hA]
          by_cases c2 : 728 * (w + 1) ≤ i ∧ i < 728 * (w + 1) + j
          · rw [if_pos c2, if_pos (by omega)]
          · rw [if_neg c2, if_neg (by omega)]
    refine lp 728 0 Z1 rfl (fun _ _ => rfl) (fun i => ?_)
    rw [if_neg (by omega), e1, up_row _ _ _ _ _ (by omega)]
  · rw [if_neg (by omega), if_neg (by omega)] at h
    exact h Z hI (fun _ _ => rfl)
theorem sp_X12_again {k n : Nat} {x : Wx} {Z : Zt} {Q : Option Value → Wx → Zt → Prop} {b : Nat} {v : Int} {S : Ab} (hI : MI x Z b S) (hV : AbV S) (hv : Rg v) (h : ∀ Z' : Zt, MI x Z' b (nAgain S v, S.im) → Mw b Z Z' → Q (some (i_ (aAgain S v))) x Z') : V mX12_again k n 0 [some (r_ b), some (i_ v), none] [] x Z Q := by
  unfold aAgain nAgain at h
  obtain ⟨o, hT, hi⟩ := id hI
  refine b_X12_again_0 o ⟨⟨hv, rg_z, ⟨by decide, by decide⟩⟩, fun r1 h1 => ⟨⟨by omega, by omega⟩, fun c => b_X12_again_18 ?_, fun c => ?_⟩⟩
  · rw [if_neg (by omega), if_neg (by omega)] at h
    exact h Z hI (fun _ _ => rfl)
  · have hv3 : 0 ≤ v ∧ v < 3 := by omega
    rw [if_pos hv3, if_pos hv3] at h
    obtain ⟨w, rfl⟩ : ∃ w : Nat, v = (w : Int) := ⟨v.toNat, by omega⟩
    rw [Int.toNat_natCast] at h ⊢
    cases hw : S.im w with
    | none =>
      have e := (hi w (by omega)).1 hw
      rw [hw] at h
      refine ⟨by omega, by omega, by rw [e]; exact rg_z, fun c2 => absurd e c2, fun _ => b_X12_again_18 (h Z hI (fun _ _ => rfl))⟩
    | some T =>
      obtain ⟨e, hT2⟩ := (hi w (by omega)).2 T hw
      rw [hw] at h
      have hVT := hV.2 w (by omega) T hw
      refine ⟨by omega, by omega, by rw [e]; exact ⟨by decide, by decide⟩, fun _ => ?_, fun c2 => by rw [e] at c2; omega⟩
      have lp : ∀ (r j : Nat) (Z2 : Zt), j + r = 728 → (∀ c, c ≠ b + 1 → Z2 c = Z c) → (∀ i : Nat, Z2 (b + 1) i = if i < j then Z (b + 1) (728 * (w + 1) + i) else Z (b + 1) i) → V mX12_again k n 22 [some (r_ b), some (i_ (w : Int)), some (i_ (j : Int))] [] x Z2 Q := by
        intro r
        induction r with
        | zero =>
          intro j Z2 hj hO hA
          have ej : j = 728 := by omega
          subst ej
          refine b_X12_again_22 o ⟨⟨by omega, by omega⟩, fun _ => h Z2 (hI.one hV hO (fun i hi => by rw [hA, if_neg (by omega)]) (hT2.ext hVT (fun i hi => by rw [hA, if_pos hi]))) (fun c hc => hO c (by omega)), fun c => by omega⟩
        | succ r ih =>
          intro j Z2 hj hO hA
          refine b_X12_again_22 o ⟨⟨by omega, by omega⟩, fun c => by omega, fun _ => ⟨by omega, by omega, by omega, by omega, fun Z3 e3 => ?_⟩⟩
          rw [Int.toNat_natCast, show (728 * ((w : Int) + 1) + (j : Int)).toNat = 728 * (w + 1) + j from by omega, hA, if_neg (by omega)] at e3
          refine ih (j + 1) Z3 (by omega) (fun c hc => by rw [e3, up_row _ _ _ _ _ hc]; exact hO c hc) (fun i => ?_)
          rw [e3, up_at]
          by_cases c1 : i = j
          · rw [if_pos c1, if_pos (by omega), c1]
          · rw [if_neg c1, hA]
            by_cases c2 : i < j
            · rw [if_pos c2, if_pos (by omega)]
            · rw [if_neg c2, if_neg (by omega)]
      exact lp 728 0 Z rfl (fun _ _ => rfl) (fun i => by rw [if_neg (by omega)])
