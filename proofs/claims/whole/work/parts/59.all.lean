theorem dX0_keepRoots_0 : decode cX0_keepRoots 0 = .ok (.aload_n 0, 1) := by decide +kernel
theorem dX0_keepRoots_1 : decode cX0_keepRoots 1 = .ok (.getfield 12, 3) := by decide +kernel
theorem dX0_keepRoots_4 : decode cX0_keepRoots 4 = .ok (.getfield 181, 3) := by decide +kernel
theorem dX0_keepRoots_7 : decode cX0_keepRoots 7 = .ok (.istore 5, 2) := by decide +kernel
theorem dX0_keepRoots_9 : decode cX0_keepRoots 9 = .ok (.iconst 1, 1) := by decide +kernel
theorem dX0_keepRoots_10 : decode cX0_keepRoots 10 = .ok (.iload 5, 2) := by decide +kernel
theorem dX0_keepRoots_12 : decode cX0_keepRoots 12 = .ok (.iload 5, 2) := by decide +kernel
theorem dX0_keepRoots_14 : decode cX0_keepRoots 14 = .ok (.imul, 1) := by decide +kernel
theorem dX0_keepRoots_15 : decode cX0_keepRoots 15 = .ok (.iadd, 1) := by decide +kernel
theorem dX0_keepRoots_16 : decode cX0_keepRoots 16 = .ok (.iload_n 1, 1) := by decide +kernel
theorem dX0_keepRoots_17 : decode cX0_keepRoots 17 = .ok (.iload 5, 2) := by decide +kernel
theorem dX0_keepRoots_19 : decode cX0_keepRoots 19 = .ok (.imul, 1) := by decide +kernel
theorem dX0_keepRoots_20 : decode cX0_keepRoots 20 = .ok (.iload_n 2, 1) := by decide +kernel
theorem dX0_keepRoots_21 : decode cX0_keepRoots 21 = .ok (.iadd, 1) := by decide +kernel
theorem dX0_keepRoots_22 : decode cX0_keepRoots 22 = .ok (.iload 5, 2) := by decide +kernel
theorem dX0_keepRoots_24 : decode cX0_keepRoots 24 = .ok (.imul, 1) := by decide +kernel
theorem dX0_keepRoots_25 : decode cX0_keepRoots 25 = .ok (.iload 5, 2) := by decide +kernel
theorem dX0_keepRoots_27 : decode cX0_keepRoots 27 = .ok (.imul, 1) := by decide +kernel
theorem dX0_keepRoots_28 : decode cX0_keepRoots 28 = .ok (.iadd, 1) := by decide +kernel
theorem dX0_keepRoots_29 : decode cX0_keepRoots 29 = .ok (.istore 6, 2) := by decide +kernel
theorem dX0_keepRoots_31 : decode cX0_keepRoots 31 = .ok (.iconst 0, 1) := by decide +kernel
theorem dX0_keepRoots_32 : decode cX0_keepRoots 32 = .ok (.istore 7, 2) := by decide +kernel
theorem dX0_keepRoots_34 : decode cX0_keepRoots 34 = .ok (.iload 7, 2) := by decide +kernel
theorem dX0_keepRoots_36 : decode cX0_keepRoots 36 = .ok (.iload 5, 2) := by decide +kernel
theorem dX0_keepRoots_38 : decode cX0_keepRoots 38 = .ok (.if_icmp .ge 39, 3) := by decide +kernel
theorem dX0_keepRoots_41 : decode cX0_keepRoots 41 = .ok (.iload 4, 2) := by decide +kernel
theorem dX0_keepRoots_43 : decode cX0_keepRoots 43 = .ok (.ifCond .ne 34, 3) := by decide +kernel
theorem dX0_keepRoots_46 : decode cX0_keepRoots 46 = .ok (.aload_n 0, 1) := by decide +kernel
theorem dX0_keepRoots_47 : decode cX0_keepRoots 47 = .ok (.getfield 12, 3) := by decide +kernel
theorem dX0_keepRoots_50 : decode cX0_keepRoots 50 = .ok (.iload 7, 2) := by decide +kernel
theorem dX0_keepRoots_52 : decode cX0_keepRoots 52 = .ok (.iload 7, 2) := by decide +kernel
theorem dX0_keepRoots_54 : decode cX0_keepRoots 54 = .ok (.imul, 1) := by decide +kernel
theorem dX0_keepRoots_55 : decode cX0_keepRoots 55 = .ok (.invokevirtual 184, 3) := by decide +kernel
theorem dX0_keepRoots_58 : decode cX0_keepRoots 58 = .ok (.iload_n 3, 1) := by decide +kernel
theorem dX0_keepRoots_59 : decode cX0_keepRoots 59 = .ok (.if_icmp .ne 12, 3) := by decide +kernel
theorem dX0_keepRoots_62 : decode cX0_keepRoots 62 = .ok (.aload_n 0, 1) := by decide +kernel
theorem dX0_keepRoots_63 : decode cX0_keepRoots 63 = .ok (.iload 6, 2) := by decide +kernel
theorem dX0_keepRoots_65 : decode cX0_keepRoots 65 = .ok (.iload 7, 2) := by decide +kernel
theorem dX0_keepRoots_67 : decode cX0_keepRoots 67 = .ok (.iadd, 1) := by decide +kernel
theorem dX0_keepRoots_68 : decode cX0_keepRoots 68 = .ok (.invokevirtual 177, 3) := by decide +kernel
theorem dX0_keepRoots_71 : decode cX0_keepRoots 71 = .ok (.iinc 7 1, 3) := by decide +kernel
theorem dX0_keepRoots_74 : decode cX0_keepRoots 74 = .ok (.goto (-40), 3) := by decide +kernel
theorem dX0_keepRoots_77 : decode cX0_keepRoots 77 = .ok (.iconst 1, 1) := by decide +kernel
theorem dX0_keepRoots_78 : decode cX0_keepRoots 78 = .ok (.istore 7, 2) := by decide +kernel
theorem dX0_keepRoots_80 : decode cX0_keepRoots 80 = .ok (.iload 7, 2) := by decide +kernel
theorem dX0_keepRoots_82 : decode cX0_keepRoots 82 = .ok (.iload 5, 2) := by decide +kernel
theorem dX0_keepRoots_84 : decode cX0_keepRoots 84 = .ok (.if_icmp .ge 94, 3) := by decide +kernel
theorem dX0_keepRoots_87 : decode cX0_keepRoots 87 = .ok (.aload_n 0, 1) := by decide +kernel
theorem dX0_keepRoots_88 : decode cX0_keepRoots 88 = .ok (.getfield 12, 3) := by decide +kernel
theorem dX0_keepRoots_91 : decode cX0_keepRoots 91 = .ok (.iload 7, 2) := by decide +kernel
theorem dX0_keepRoots_93 : decode cX0_keepRoots 93 = .ok (.iload 7, 2) := by decide +kernel
theorem dX0_keepRoots_95 : decode cX0_keepRoots 95 = .ok (.imul, 1) := by decide +kernel
theorem dX0_keepRoots_96 : decode cX0_keepRoots 96 = .ok (.invokevirtual 184, 3) := by decide +kernel
theorem dX0_keepRoots_99 : decode cX0_keepRoots 99 = .ok (.istore 8, 2) := by decide +kernel
theorem dX0_keepRoots_101 : decode cX0_keepRoots 101 = .ok (.aload_n 0, 1) := by decide +kernel
theorem dX0_keepRoots_102 : decode cX0_keepRoots 102 = .ok (.getfield 12, 3) := by decide +kernel
theorem dX0_keepRoots_105 : decode cX0_keepRoots 105 = .ok (.iload 4, 2) := by decide +kernel
theorem dX0_keepRoots_107 : decode cX0_keepRoots 107 = .ok (.iload 8, 2) := by decide +kernel
theorem dX0_keepRoots_109 : decode cX0_keepRoots 109 = .ok (.iload_n 2, 1) := by decide +kernel
theorem dX0_keepRoots_110 : decode cX0_keepRoots 110 = .ok (.imul, 1) := by decide +kernel
theorem dX0_keepRoots_111 : decode cX0_keepRoots 111 = .ok (.iadd, 1) := by decide +kernel
theorem dX0_keepRoots_112 : decode cX0_keepRoots 112 = .ok (.aload_n 0, 1) := by decide +kernel
theorem dX0_keepRoots_113 : decode cX0_keepRoots 113 = .ok (.getfield 12, 3) := by decide +kernel
theorem dX0_keepRoots_116 : decode cX0_keepRoots 116 = .ok (.aload_n 0, 1) := by decide +kernel
theorem dX0_keepRoots_117 : decode cX0_keepRoots 117 = .ok (.getfield 12, 3) := by decide +kernel
theorem dX0_keepRoots_120 : decode cX0_keepRoots 120 = .ok (.iconst 2, 1) := by decide +kernel
theorem dX0_keepRoots_121 : decode cX0_keepRoots 121 = .ok (.iload 7, 2) := by decide +kernel
theorem dX0_keepRoots_123 : decode cX0_keepRoots 123 = .ok (.imul, 1) := by decide +kernel
theorem dX0_keepRoots_124 : decode cX0_keepRoots 124 = .ok (.invokevirtual 184, 3) := by decide +kernel
theorem dX0_keepRoots_127 : decode cX0_keepRoots 127 = .ok (.invokevirtual 152, 3) := by decide +kernel
theorem dX0_keepRoots_130 : decode cX0_keepRoots 130 = .ok (.imul, 1) := by decide +kernel
theorem dX0_keepRoots_131 : decode cX0_keepRoots 131 = .ok (.invokevirtual 184, 3) := by decide +kernel
theorem dX0_keepRoots_134 : decode cX0_keepRoots 134 = .ok (.istore 9, 2) := by decide +kernel
theorem dX0_keepRoots_136 : decode cX0_keepRoots 136 = .ok (.aload_n 0, 1) := by decide +kernel
theorem dX0_keepRoots_137 : decode cX0_keepRoots 137 = .ok (.getfield 12, 3) := by decide +kernel
theorem dX0_keepRoots_140 : decode cX0_keepRoots 140 = .ok (.iload 9, 2) := by decide +kernel
theorem dX0_keepRoots_142 : decode cX0_keepRoots 142 = .ok (.iload 9, 2) := by decide +kernel
theorem dX0_keepRoots_144 : decode cX0_keepRoots 144 = .ok (.imul, 1) := by decide +kernel
theorem dX0_keepRoots_145 : decode cX0_keepRoots 145 = .ok (.iload 8, 2) := by decide +kernel
theorem dX0_keepRoots_147 : decode cX0_keepRoots 147 = .ok (.iload_n 1, 1) := by decide +kernel
theorem dX0_keepRoots_148 : decode cX0_keepRoots 148 = .ok (.imul, 1) := by decide +kernel
theorem dX0_keepRoots_149 : decode cX0_keepRoots 149 = .ok (.isub, 1) := by decide +kernel
theorem dX0_keepRoots_150 : decode cX0_keepRoots 150 = .ok (.invokevirtual 184, 3) := by decide +kernel
theorem dX0_keepRoots_153 : decode cX0_keepRoots 153 = .ok (.iload_n 3, 1) := by decide +kernel
theorem dX0_keepRoots_154 : decode cX0_keepRoots 154 = .ok (.if_icmp .ne 18, 3) := by decide +kernel
theorem dX0_keepRoots_157 : decode cX0_keepRoots 157 = .ok (.aload_n 0, 1) := by decide +kernel
theorem dX0_keepRoots_158 : decode cX0_keepRoots 158 = .ok (.iload 6, 2) := by decide +kernel
theorem dX0_keepRoots_160 : decode cX0_keepRoots 160 = .ok (.iload 7, 2) := by decide +kernel
theorem dX0_keepRoots_162 : decode cX0_keepRoots 162 = .ok (.iload 5, 2) := by decide +kernel
theorem dX0_keepRoots_164 : decode cX0_keepRoots 164 = .ok (.imul, 1) := by decide +kernel
theorem dX0_keepRoots_165 : decode cX0_keepRoots 165 = .ok (.iadd, 1) := by decide +kernel
theorem dX0_keepRoots_166 : decode cX0_keepRoots 166 = .ok (.iload 9, 2) := by decide +kernel
theorem dX0_keepRoots_168 : decode cX0_keepRoots 168 = .ok (.iadd, 1) := by decide +kernel
theorem dX0_keepRoots_169 : decode cX0_keepRoots 169 = .ok (.invokevirtual 177, 3) := by decide +kernel
theorem dX0_keepRoots_172 : decode cX0_keepRoots 172 = .ok (.iinc 7 1, 3) := by decide +kernel
theorem dX0_keepRoots_175 : decode cX0_keepRoots 175 = .ok (.goto (-95), 3) := by decide +kernel
theorem dX0_keepRoots_178 : decode cX0_keepRoots 178 = .ok (.return_, 1) := by decide +kernel
set_option maxRecDepth 20000 in
theorem b_X0_keepRoots_0 {k n : Nat} {x : Wx} {Z : Zt} {Q : Option Value → Wx → Zt → Prop} {a0 : Nat} {v1 : Int} {v2 : Int} {v3 : Int} {v4 : Int} {a0_field : Nat} (r_a0_field : x.2.1 a0 1 = some a0_field) (o_a0 : Is0 x a0) (o_a0_field : Is4 x a0_field)
    (h : ∀ i1 : Int, i1 = (1 + ((Z a0_field 0) * (Z a0_field 0))) + ((((v1 * (Z a0_field 0)) + v2) * (Z a0_field 0)) * (Z a0_field 0)) → (V mX0_keepRoots k n 34 [some (r_ a0), some (i_ v1), some (i_ v2), some (i_ v3), some (i_ v4), some (i_ (Z a0_field 0)), some (i_ i1), some (i_ 0), none, none] [] x Z Q)) :
    V mX0_keepRoots k n 0 [some (r_ a0), some (i_ v1), some (i_ v2), some (i_ v3), some (i_ v4), none, none, none, none, none] [] x Z Q :=
  V_aload_n dX0_keepRoots_0 rfl (G_0_1 o_a0.1 r_a0_field lf_0_12 dX0_keepRoots_1 (G_4_0 o_a0_field.1 lf_0_181 dX0_keepRoots_4 (V_istore (lv' := [some (r_ a0), some (i_ v1), some (i_ v2), some (i_ v3), some (i_ v4), some (i_ (Z a0_field 0)), none, none, none, none]) dX0_keepRoots_7 (Nat.le_of_ble_eq_true rfl) rfl (V_iconst dX0_keepRoots_9 (V_iload dX0_keepRoots_10 rfl (V_iload dX0_keepRoots_12 rfl (V_imul dX0_keepRoots_14 (V_iadd dX0_keepRoots_15 (V_iload_n dX0_keepRoots_16 rfl (V_iload dX0_keepRoots_17 rfl (V_imul dX0_keepRoots_19 (V_iload_n dX0_keepRoots_20 rfl (V_iadd dX0_keepRoots_21 (V_iload dX0_keepRoots_22 rfl (V_imul dX0_keepRoots_24 (V_iload dX0_keepRoots_25 rfl (V_imul dX0_keepRoots_27 (V_iadd dX0_keepRoots_28 (V_nmi (fun i1 ei1 => V_istore (lv' := [some (r_ a0), some (i_ v1), some (i_ v2), some (i_ v3), some (i_ v4), some (i_ (Z a0_field 0)), some (i_ i1), none, none, none]) dX0_keepRoots_29 (Nat.le_of_ble_eq_true rfl) rfl (V_iconst dX0_keepRoots_31 (V_istore (lv' := [some (r_ a0), some (i_ v1), some (i_ v2), some (i_ v3), some (i_ v4), some (i_ (Z a0_field 0)), some (i_ i1), some (i_ 0), none, none]) dX0_keepRoots_32 (Nat.le_of_ble_eq_true rfl) rfl (V_msk [true, true, true, true, true, true, true, true, false, false] rfl (h i1 ei1))))))))))))))))))))))))
set_option maxRecDepth 20000 in
theorem b_X0_keepRoots_34 {k n : Nat} {x : Wx} {Z : Zt} {Q : Option Value → Wx → Zt → Prop} {a0 : Nat} {v1 : Int} {v2 : Int} {v3 : Int} {v4 : Int} {v5 : Int} {v6 : Int} {v7 : Int} {a0_field : Nat} (r_a0_field : x.2.1 a0 1 = some a0_field) (o_a0 : Is0 x a0) (o_a0_field : Is4 x a0_field)
    (h : Rg v7 ∧ Rg v5 ∧ (((v5 ≤ v7) → (V mX0_keepRoots k n 77 [some (r_ a0), some (i_ v1), some (i_ v2), some (i_ v3), some (i_ v4), some (i_ v5), some (i_ v6), none, none, none] [] x Z Q)) ∧ ((v7 < v5) → (Rg v4 ∧ (((v4 ≠ 0) → (V mX0_keepRoots k n 77 [some (r_ a0), some (i_ v1), some (i_ v2), some (i_ v3), some (i_ v4), some (i_ v5), some (i_ v6), none, none, none] [] x Z Q)) ∧ ((v4 = 0) → (Rg (v7 * v7) ∧ 2 ≤ Z a0_field 0 ∧ Z a0_field 0 ≤ 13 ∧ (Rg ((v7 * v7) % Z a0_field 0) ∧ Rg v3 ∧ ((((v7 * v7) % Z a0_field 0 ≠ v3) → (V mX0_keepRoots k n 71 [some (r_ a0), some (i_ v1), some (i_ v2), some (i_ v3), some (i_ v4), some (i_ v5), some (i_ v6), some (i_ v7), none, none] [] x Z Q)) ∧ (((v7 * v7) % Z a0_field 0 = v3) → (∃ g1 : Int, (∃ g2 : List UV, (∃ g3 : UV, (KyA Z a0 g1 g2 ∧ (v6 + v7) = kyF g1 g3 ∧ (∀ (Z'1 : Zt), (KyA Z'1 a0 g1 (g2 ++ [g3]) ∧ (∀ i : Nat, i ≠ 14 → Z'1 a0 i = Z a0 i) ∧ Oth Z Z'1 (fun b => b = a0 ∨ b = a0 + 50)) → (V mX0_keepRoots k n 71 [some (r_ a0), some (i_ v1), some (i_ v2), some (i_ v3), some (i_ v4), some (i_ v5), some (i_ v6), some (i_ v7), none, none] [] x Z'1 Q)))))))))))))))) :
    V mX0_keepRoots k n 34 [some (r_ a0), some (i_ v1), some (i_ v2), some (i_ v3), some (i_ v4), some (i_ v5), some (i_ v6), some (i_ v7), none, none] [] x Z Q :=
  V_iload dX0_keepRoots_34 rfl (V_iload dX0_keepRoots_36 rfl (V_icmp_ge (tgt := 77) dX0_keepRoots_38 rfl h.1 h.2.1 (fun c1 => V_msk [true, true, true, true, true, true, true, false, false, false] rfl (h.2.2.1 c1)) (fun c1 => V_iload dX0_keepRoots_41 rfl (V_if_ne (tgt := 77) dX0_keepRoots_43 rfl (h.2.2.2 c1).1 (fun c2 => V_msk [true, true, true, true, true, true, true, false, false, false] rfl ((h.2.2.2 c1).2.1 c2)) (fun c2 => V_aload_n dX0_keepRoots_46 rfl (G_0_1 o_a0.1 r_a0_field lf_0_12 dX0_keepRoots_47 (V_iload dX0_keepRoots_50 rfl (V_iload dX0_keepRoots_52 rfl (V_imul dX0_keepRoots_54 (V_callV (k' := 0) (n' := 0) (t := 4) (q := (RX4, TX4, 4)) [i_ (v7 * v7)] [] okX4_rem o_a0_field.1 rfl rfl lm_0_184 liX4_rem lqX4_rem (Nat.le_of_ble_eq_true rfl) (Nat.le_of_ble_eq_true rfl) (Nat.le_of_ble_eq_true rfl) (cat_of rfl) (Nat.le_of_ble_eq_true rfl) (Nat.zero_le _) (Nat.zero_le _) rfl dX0_keepRoots_55 (sp_X4_rem o_a0_field ((h.2.2.2 c1).2.2 c2).1 ((h.2.2.2 c1).2.2 c2).2.1 ((h.2.2.2 c1).2.2 c2).2.2.1 (V_iload_n dX0_keepRoots_58 rfl (V_icmp_ne (tgt := 71) dX0_keepRoots_59 rfl ((h.2.2.2 c1).2.2 c2).2.2.2.1 ((h.2.2.2 c1).2.2 c2).2.2.2.2.1 (fun c3 => V_msk [true, true, true, true, true, true, true, true, false, false] rfl (((h.2.2.2 c1).2.2 c2).2.2.2.2.2.1 c3)) (fun c3 => V_aload_n dX0_keepRoots_62 rfl (V_iload dX0_keepRoots_63 rfl (V_iload dX0_keepRoots_65 rfl (V_iadd dX0_keepRoots_67 (Exists.elim (((h.2.2.2 c1).2.2 c2).2.2.2.2.2.2 c3) (fun g1 w1 => Exists.elim w1 (fun g2 w2 => Exists.elim w2 (fun g3 w3 => V_callV (k' := 0) (n' := 0) (t := 0) (q := (RX0, TX0, 18)) [i_ (v6 + v7)] [] okX0_keep o_a0.1 rfl rfl lm_0_177 liX0_keep lqX0_keep (Nat.le_of_ble_eq_true rfl) (Nat.le_of_ble_eq_true rfl) (Nat.le_of_ble_eq_true rfl) (cat_of rfl) (Nat.le_of_ble_eq_true rfl) (Nat.zero_le _) (Nat.zero_le _) rfl dX0_keepRoots_68 (sp_X0_keep o_a0 w3.1 w3.2.1 (fun Z'1 p1 => V_msk [true, true, true, true, true, true, true, true, false, false] rfl (w3.2.2 Z'1 p1))))))))))))))))))))))))
set_option maxRecDepth 20000 in
theorem b_X0_keepRoots_71 {k n : Nat} {x : Wx} {Z : Zt} {Q : Option Value → Wx → Zt → Prop} {a0 : Nat} {v1 : Int} {v2 : Int} {v3 : Int} {v4 : Int} {v5 : Int} {v6 : Int} {v7 : Int} 
    (h : V mX0_keepRoots k n 34 [some (r_ a0), some (i_ v1), some (i_ v2), some (i_ v3), some (i_ v4), some (i_ v5), some (i_ v6), some (i_ (v7 + 1)), none, none] [] x Z Q) :
    V mX0_keepRoots k n 71 [some (r_ a0), some (i_ v1), some (i_ v2), some (i_ v3), some (i_ v4), some (i_ v5), some (i_ v6), some (i_ v7), none, none] [] x Z Q :=
  V_iinc (lv' := [some (r_ a0), some (i_ v1), some (i_ v2), some (i_ v3), some (i_ v4), some (i_ v5), some (i_ v6), some (i_ (v7 + 1)), none, none]) dX0_keepRoots_71 rfl (Nat.le_of_ble_eq_true rfl) rfl (V_goto (tgt := 34) dX0_keepRoots_74 rfl (V_msk [true, true, true, true, true, true, true, true, false, false] rfl h))
set_option maxRecDepth 20000 in
theorem b_X0_keepRoots_77 {k n : Nat} {x : Wx} {Z : Zt} {Q : Option Value → Wx → Zt → Prop} {a0 : Nat} {v1 : Int} {v2 : Int} {v3 : Int} {v4 : Int} {v5 : Int} {v6 : Int} 
    (h : V mX0_keepRoots k n 80 [some (r_ a0), some (i_ v1), some (i_ v2), some (i_ v3), some (i_ v4), some (i_ v5), some (i_ v6), some (i_ 1), none, none] [] x Z Q) :
    V mX0_keepRoots k n 77 [some (r_ a0), some (i_ v1), some (i_ v2), some (i_ v3), some (i_ v4), some (i_ v5), some (i_ v6), none, none, none] [] x Z Q :=
  V_iconst dX0_keepRoots_77 (V_istore (lv' := [some (r_ a0), some (i_ v1), some (i_ v2), some (i_ v3), some (i_ v4), some (i_ v5), some (i_ v6), some (i_ 1), none, none]) dX0_keepRoots_78 (Nat.le_of_ble_eq_true rfl) rfl (V_msk [true, true, true, true, true, true, true, true, false, false] rfl h))
set_option maxRecDepth 20000 in
theorem b_X0_keepRoots_80 {k n : Nat} {x : Wx} {Z : Zt} {Q : Option Value → Wx → Zt → Prop} {a0 : Nat} {v1 : Int} {v2 : Int} {v3 : Int} {v4 : Int} {v5 : Int} {v6 : Int} {v7 : Int} {a0_field : Nat} (r_a0_field : x.2.1 a0 1 = some a0_field) (o_a0 : Is0 x a0) (o_a0_field : Is4 x a0_field)
    (h : Rg v7 ∧ Rg v5 ∧ (((v5 ≤ v7) → (Q none x Z)) ∧ ((v7 < v5) → (Rg (v7 * v7) ∧ 2 ≤ Z a0_field 0 ∧ Z a0_field 0 ≤ 13 ∧ (Rg (2 * v7) ∧ (0 ≤ ((2 * v7) % Z a0_field 0) ∧ ((2 * v7) % Z a0_field 0) < 13 ∧ (Rg ((v4 + (((v7 * v7) % Z a0_field 0) * v2)) * (Z (a0_field + 1) (Int.toNat ((2 * v7) % Z a0_field 0)))) ∧ (∀ i1 : Int, i1 = ((v4 + (((v7 * v7) % Z a0_field 0) * v2)) * (Z (a0_field + 1) (Int.toNat ((2 * v7) % Z a0_field 0)))) % Z a0_field 0 → (Rg ((i1 * i1) - (((v7 * v7) % Z a0_field 0) * v1)) ∧ (Rg (((i1 * i1) - (((v7 * v7) % Z a0_field 0) * v1)) % Z a0_field 0) ∧ Rg v3 ∧ (((((i1 * i1) - (((v7 * v7) % Z a0_field 0) * v1)) % Z a0_field 0 ≠ v3) → (V mX0_keepRoots k n 172 [some (r_ a0), some (i_ v1), some (i_ v2), some (i_ v3), some (i_ v4), some (i_ v5), some (i_ v6), some (i_ v7), none, none] [] x Z Q)) ∧ ((((i1 * i1) - (((v7 * v7) % Z a0_field 0) * v1)) % Z a0_field 0 = v3) → (∃ g1 : Int, (∃ g2 : List UV, (∃ g3 : UV, (KyA Z a0 g1 g2 ∧ ((v6 + (v7 * v5)) + i1) = kyF g1 g3 ∧ (∀ (Z'1 : Zt), (KyA Z'1 a0 g1 (g2 ++ [g3]) ∧ (∀ i : Nat, i ≠ 14 → Z'1 a0 i = Z a0 i) ∧ Oth Z Z'1 (fun b => b = a0 ∨ b = a0 + 50)) → (V mX0_keepRoots k n 172 [some (r_ a0), some (i_ v1), some (i_ v2), some (i_ v3), some (i_ v4), some (i_ v5), some (i_ v6), some (i_ v7), none, none] [] x Z'1 Q)))))))))))))))))) :
    V mX0_keepRoots k n 80 [some (r_ a0), some (i_ v1), some (i_ v2), some (i_ v3), some (i_ v4), some (i_ v5), some (i_ v6), some (i_ v7), none, none] [] x Z Q :=
  V_iload dX0_keepRoots_80 rfl (V_iload dX0_keepRoots_82 rfl (V_icmp_ge (tgt := 178) dX0_keepRoots_84 rfl h.1 h.2.1 (fun c1 => V_ret dX0_keepRoots_178 rfl (h.2.2.1 c1)) (fun c1 => V_aload_n dX0_keepRoots_87 rfl (G_0_1 o_a0.1 r_a0_field lf_0_12 dX0_keepRoots_88 (V_iload dX0_keepRoots_91 rfl (V_iload dX0_keepRoots_93 rfl (V_imul dX0_keepRoots_95 (V_callV (k' := 0) (n' := 0) (t := 4) (q := (RX4, TX4, 4)) [i_ (v7 * v7)] [] okX4_rem o_a0_field.1 rfl rfl lm_0_184 liX4_rem lqX4_rem (Nat.le_of_ble_eq_true rfl) (Nat.le_of_ble_eq_true rfl) (Nat.le_of_ble_eq_true rfl) (cat_of rfl) (Nat.le_of_ble_eq_true rfl) (Nat.zero_le _) (Nat.zero_le _) rfl dX0_keepRoots_96 (sp_X4_rem o_a0_field (h.2.2.2 c1).1 (h.2.2.2 c1).2.1 (h.2.2.2 c1).2.2.1 (V_istore (lv' := [some (r_ a0), some (i_ v1), some (i_ v2), some (i_ v3), some (i_ v4), some (i_ v5), some (i_ v6), some (i_ v7), some (i_ ((v7 * v7) % Z a0_field 0)), none]) dX0_keepRoots_99 (Nat.le_of_ble_eq_true rfl) rfl (V_aload_n dX0_keepRoots_101 rfl (G_0_1 o_a0.1 r_a0_field lf_0_12 dX0_keepRoots_102 (V_iload dX0_keepRoots_105 rfl (V_iload dX0_keepRoots_107 rfl (V_iload_n dX0_keepRoots_109 rfl (V_imul dX0_keepRoots_110 (V_iadd dX0_keepRoots_111 (V_aload_n dX0_keepRoots_112 rfl (G_0_1 o_a0.1 r_a0_field lf_0_12 dX0_keepRoots_113 (V_aload_n dX0_keepRoots_116 rfl (G_0_1 o_a0.1 r_a0_field lf_0_12 dX0_keepRoots_117 (V_iconst dX0_keepRoots_120 (V_iload dX0_keepRoots_121 rfl (V_imul dX0_keepRoots_123 (V_callV (k' := 0) (n' := 0) (t := 4) (q := (RX4, TX4, 4)) [i_ (2 * v7)] [r_ a0_field, i_ (v4 + (((v7 * v7) % Z a0_field 0) * v2)), r_ a0_field] okX4_rem o_a0_field.1 rfl rfl lm_0_184 liX4_rem lqX4_rem (Nat.le_of_ble_eq_true rfl) (Nat.le_of_ble_eq_true rfl) (Nat.le_of_ble_eq_true rfl) (cat_of rfl) (Nat.le_of_ble_eq_true rfl) (Nat.zero_le _) (Nat.zero_le _) rfl dX0_keepRoots_124 (sp_X4_rem o_a0_field (h.2.2.2 c1).2.2.2.1 (h.2.2.2 c1).2.1 (h.2.2.2 c1).2.2.1 (V_callV (k' := 0) (n' := 0) (t := 4) (q := (RX4, TX4, 4)) [i_ ((2 * v7) % Z a0_field 0)] [i_ (v4 + (((v7 * v7) % Z a0_field 0) * v2)), r_ a0_field] okX4_inverse o_a0_field.1 rfl rfl lm_0_152 liX4_inverse lqX4_inverse (Nat.le_of_ble_eq_true rfl) (Nat.le_of_ble_eq_true rfl) (Nat.le_of_ble_eq_true rfl) (cat_of rfl) (Nat.le_of_ble_eq_true rfl) (Nat.zero_le _) (Nat.zero_le _) rfl dX0_keepRoots_127 (sp_X4_inverse o_a0_field (h.2.2.2 c1).2.2.2.2.1 (h.2.2.2 c1).2.2.2.2.2.1 (V_imul dX0_keepRoots_130 (V_callV (k' := 0) (n' := 0) (t := 4) (q := (RX4, TX4, 4)) [i_ ((v4 + (((v7 * v7) % Z a0_field 0) * v2)) * (Z (a0_field + 1) (Int.toNat ((2 * v7) % Z a0_field 0))))] [] okX4_rem o_a0_field.1 rfl rfl lm_0_184 liX4_rem lqX4_rem (Nat.le_of_ble_eq_true rfl) (Nat.le_of_ble_eq_true rfl) (Nat.le_of_ble_eq_true rfl) (cat_of rfl) (Nat.le_of_ble_eq_true rfl) (Nat.zero_le _) (Nat.zero_le _) rfl dX0_keepRoots_131 (sp_X4_rem o_a0_field (h.2.2.2 c1).2.2.2.2.2.2.1 (h.2.2.2 c1).2.1 (h.2.2.2 c1).2.2.1 (V_nmi (fun i1 ei1 => V_istore (lv' := [some (r_ a0), some (i_ v1), some (i_ v2), some (i_ v3), some (i_ v4), some (i_ v5), some (i_ v6), some (i_ v7), some (i_ ((v7 * v7) % Z a0_field 0)), some (i_ i1)]) dX0_keepRoots_134 (Nat.le_of_ble_eq_true rfl) rfl (V_aload_n dX0_keepRoots_136 rfl (G_0_1 o_a0.1 r_a0_field lf_0_12 dX0_keepRoots_137 (V_iload dX0_keepRoots_140 rfl (V_iload dX0_keepRoots_142 rfl (V_imul dX0_keepRoots_144 (V_iload dX0_keepRoots_145 rfl (V_iload_n dX0_keepRoots_147 rfl (V_imul dX0_keepRoots_148 (V_isub dX0_keepRoots_149 (V_callV (k' := 0) (n' := 0) (t := 4) (q := (RX4, TX4, 4)) [i_ ((i1 * i1) - (((v7 * v7) % Z a0_field 0) * v1))] [] okX4_rem o_a0_field.1 rfl rfl lm_0_184 liX4_rem lqX4_rem (Nat.le_of_ble_eq_true rfl) (Nat.le_of_ble_eq_true rfl) (Nat.le_of_ble_eq_true rfl) (cat_of rfl) (Nat.le_of_ble_eq_true rfl) (Nat.zero_le _) (Nat.zero_le _) rfl dX0_keepRoots_150 (sp_X4_rem o_a0_field ((h.2.2.2 c1).2.2.2.2.2.2.2 i1 ei1).1 (h.2.2.2 c1).2.1 (h.2.2.2 c1).2.2.1 (V_iload_n dX0_keepRoots_153 rfl (V_icmp_ne (tgt := 172) dX0_keepRoots_154 rfl ((h.2.2.2 c1).2.2.2.2.2.2.2 i1 ei1).2.1 ((h.2.2.2 c1).2.2.2.2.2.2.2 i1 ei1).2.2.1 (fun c2 => V_msk [true, true, true, true, true, true, true, true, false, false] rfl (((h.2.2.2 c1).2.2.2.2.2.2.2 i1 ei1).2.2.2.1 c2)) (fun c2 => V_aload_n dX0_keepRoots_157 rfl (V_iload dX0_keepRoots_158 rfl (V_iload dX0_keepRoots_160 rfl (V_iload dX0_keepRoots_162 rfl (V_imul dX0_keepRoots_164 (V_iadd dX0_keepRoots_165 (V_iload dX0_keepRoots_166 rfl (V_iadd dX0_keepRoots_168 (Exists.elim (((h.2.2.2 c1).2.2.2.2.2.2.2 i1 ei1).2.2.2.2 c2) (fun g1 w1 => Exists.elim w1 (fun g2 w2 => Exists.elim w2 (fun g3 w3 => V_callV (k' := 0) (n' := 0) (t := 0) (q := (RX0, TX0, 18)) [i_ ((v6 + (v7 * v5)) + i1)] [] okX0_keep o_a0.1 rfl rfl lm_0_177 liX0_keep lqX0_keep (Nat.le_of_ble_eq_true rfl) (Nat.le_of_ble_eq_true rfl) (Nat.le_of_ble_eq_true rfl) (cat_of rfl) (Nat.le_of_ble_eq_true rfl) (Nat.zero_le _) (Nat.zero_le _) rfl dX0_keepRoots_169 (sp_X0_keep o_a0 w3.1 w3.2.1 (fun Z'1 p1 => V_msk [true, true, true, true, true, true, true, true, false, false] rfl (w3.2.2 Z'1 p1)))))))))))))))))))))))))))))))))))))))))))))))))))))))))))))
set_option maxRecDepth 20000 in
theorem b_X0_keepRoots_172 {k n : Nat} {x : Wx} {Z : Zt} {Q : Option Value → Wx → Zt → Prop} {a0 : Nat} {v1 : Int} {v2 : Int} {v3 : Int} {v4 : Int} {v5 : Int} {v6 : Int} {v7 : Int} 
    (h : V mX0_keepRoots k n 80 [some (r_ a0), some (i_ v1), some (i_ v2), some (i_ v3), some (i_ v4), some (i_ v5), some (i_ v6), some (i_ (v7 + 1)), none, none] [] x Z Q) :
    V mX0_keepRoots k n 172 [some (r_ a0), some (i_ v1), some (i_ v2), some (i_ v3), some (i_ v4), some (i_ v5), some (i_ v6), some (i_ v7), none, none] [] x Z Q :=
  V_iinc (lv' := [some (r_ a0), some (i_ v1), some (i_ v2), some (i_ v3), some (i_ v4), some (i_ v5), some (i_ v6), some (i_ (v7 + 1)), none, none]) dX0_keepRoots_172 rfl (Nat.le_of_ble_eq_true rfl) rfl (V_goto (tgt := 80) dX0_keepRoots_175 rfl (V_msk [true, true, true, true, true, true, true, true, false, false] rfl h))
def kr1 (p f0 u0 u1 : Int) : Nat → Nat → List UV
  | 0, _ => []
  | m + 1, v => (if ((v : Int) * v) % p = f0 then [uv2 u0 u1 v 0] else []) ++ kr1 p f0 u0 u1 m (v + 1)
def krV (p f1 u1 : Int) (v : Nat) : Int := ((f1 + ((v : Int) * v) % p * u1) * inv p ((2 * (v : Int)) % p)) % p
def kr2 (p f0 f1 u0 u1 : Int) : Nat → Nat → List UV
  | 0, _ => []
  | m + 1, v => (if (krV p f1 u1 v * krV p f1 u1 v - ((v : Int) * v) % p * u0) % p = f0 then [uv2 u0 u1 (krV p f1 u1 v) v] else []) ++ kr2 p f0 f1 u0 u1 m (v + 1)
/-- the classes whose U is x x + u1 x + u0 -/
def krA (p f0 f1 u0 u1 : Int) : List UV := (if f1 = 0 then kr1 p f0 u0 u1 p.toNat 0 else []) ++ kr2 p f0 f1 u0 u1 (p.toNat - 1) 1
theorem KyA.kept {Z Z' : Zt} {a : Nat} {p : Int} {L : List UV} (h : KyA Z a p L) (h1 : Z' a = Z a) (h2 : Z' (a + 50) = Z (a + 50)) : KyA Z' a p L := by
  unfold KyA; rw [h1, h2]; exact h
theorem sp_X0_keepRoots {k n : Nat} {x : Wx} {Z : Zt} {Q : Option Value → Wx → Zt → Prop} {a fl : Nat} {u0 u1 f0 f1 : Int} (r1 : x.2.1 a 1 = some fl) (o : Is0 x a) (ofl : Is4 x fl) {p : Int} {L : List UV} (hp : IsP p) (hf : FA Z fl p) (hl : fl + 2 < a) (hK : KyA Z a p L) (h0 : 0 ≤ u0 ∧ u0 < p) (h1 : 0 ≤ u1 ∧ u1 < p) (g0 : 0 ≤ f0 ∧ f0 < p) (g1 : 0 ≤ f1 ∧ f1 < p) (h : ∀ Z' : Zt, (KyA Z' a p (L ++ krA p f0 f1 u0 u1) ∧ (∀ i : Nat, i ≠ 14 → Z' a i = Z a i) ∧ Oth Z Z' (fun b => b = a ∨ b = a + 50)) → Q none x Z') : V mX0_keepRoots k n 0 [some (r_ a), some (i_ u0), some (i_ u1), some (i_ f0), some (i_ f1), none, none, none, none, none] [] x Z Q := by
  have hpr := hp.rg
  have hP : ((p.toNat : Nat) : Int) = p := by omega
  obtain ⟨B, hB⟩ : ∃ B : Int, 1 + p * p + (u0 * p + u1) * p * p = B := ⟨_, rfl⟩
  have lp2 : ∀ (m v : Nat) (w : Int) (M : List UV) (Z1 : Zt), w = v → 1 ≤ v → v + m = p.toNat → M ++ kr2 p f0 f1 u0 u1 m v = L ++ krA p f0 f1 u0 u1 → KyA Z1 a p M → (∀ i : Nat, i ≠ 14 → Z1 a i = Z a i) → Oth Z Z1 (fun b => b = a ∨ b = a + 50) → V mX0_keepRoots k n 80 [some (r_ a), some (i_ u0), some (i_ u1), some (i_ f0), some (i_ f1), some (i_ p), some (i_ B), some (i_ w), none, none] [] x Z1 Q := by
    intro m
    induction m with
    | zero =>
      intro v w M Z1 hw hv hm he hk ha ho
      have he' : M = L ++ krA p f0 f1 u0 u1 := by rw [← he]; exact (List.append_nil M).symm
      refine b_X0_keepRoots_80 r1 o ofl ⟨⟨by omega, by omega⟩, ⟨by omega, by omega⟩, fun _ => h Z1 ⟨he' ▸ hk, ha, ho⟩, fun c => by omega⟩
    | succ m ih =>
      intro v w M Z1 hw hv hm he hk ha ho
      have e0 : Z1 fl 0 = p := by rw [ho fl (by omega)]; exact hf.1
      have hsq := emr ((v : Int) * v) (p := p) (by omega)
      have h2v := emr (2 * (v : Int)) (p := p) (by omega)
      have hiv : Z1 (fl + 1) (Int.toNat ((2 * (v : Int)) % p)) = inv p ((2 * (v : Int)) % p) := by
        rw [ho (fl + 1) (by omega), hf.2.2.1 ((2 * (v : Int)) % p).toNat (by omega), show ((((2 * (v : Int)) % p).toNat : Nat) : Int) = (2 * (v : Int)) % p by omega]
      have hir := inv_lt hp ((2 * (v : Int)) % p)
      have hvv := mul13 (a := (v : Int)) (b := (v : Int)) ⟨by omega, by omega⟩ ⟨by omega, by omega⟩
      have m1 := mul13 (a := ((v : Int) * v) % p) (b := u1) ⟨by omega, by omega⟩ ⟨by omega, by omega⟩
      have m2 := mul13 (a := ((v : Int) * v) % p) (b := u0) ⟨by omega, by omega⟩ ⟨by omega, by omega⟩
      have m3 : 0 ≤ (f1 + ((v : Int) * v) % p * u1) * inv p ((2 * (v : Int)) % p) ∧ (f1 + ((v : Int) * v) % p * u1) * inv p ((2 * (v : Int)) % p) ≤ 200 * 13 := ⟨Int.mul_nonneg (by omega) (by omega), Int.mul_le_mul (by omega) (by omega) hir.1 (by decide)⟩
      have he' : M ++ ((if (krV p f1 u1 v * krV p f1 u1 v - ((v : Int) * v) % p * u0) % p = f0 then [uv2 u0 u1 (krV p f1 u1 v) v] else []) ++ kr2 p f0 f1 u0 u1 m (v + 1)) = L ++ krA p f0 f1 u0 u1 := he
      have hkv : ((f1 + ((v : Int) * v) % p * u1) * inv p ((2 * (v : Int)) % p)) % p = krV p f1 u1 v := rfl
      have hkr : 0 ≤ krV p f1 u1 v ∧ krV p f1 u1 v < p := emr _ (by omega)
      have hk2 := mul13 (a := krV p f1 u1 v) (b := krV p f1 u1 v) ⟨by omega, by omega⟩ ⟨by omega, by omega⟩
      have hrr := emr (krV p f1 u1 v * krV p f1 u1 v - ((v : Int) * v) % p * u0) (p := p) (by omega)
      refine b_X0_keepRoots_80 r1 o ofl ?_
      rw [e0, hw, hiv, hkv]
      generalize krV p f1 u1 v = K at he' hkr hk2 hrr ⊢
      refine ⟨⟨by omega, by omega⟩, ⟨by omega, by omega⟩, fun c => by omega, fun _ => ⟨⟨by omega, by omega⟩, by omega, by omega, ⟨by omega, by omega⟩, by omega, by omega, ⟨by omega, by omega⟩, fun i1 ei => ?_⟩⟩
      rw [ei]
      refine ⟨⟨by omega, by omega⟩, ⟨by omega, by omega⟩, ⟨by omega, by omega⟩, fun c2 => b_X0_keepRoots_172 (ih (v + 1) _ M Z1 (by omega) (by omega) (by omega) ?_ hk ha ho), fun c2 => ⟨p, M, uv2 u0 u1 K v, hk, ?_, fun Z2 hz2 => b_X0_keepRoots_172 (ih (v + 1) _ (M ++ [uv2 u0 u1 K v]) Z2 (by omega) (by omega) (by omega) ?_ hz2.1 (fun i hi => (hz2.2.1 i hi).trans (ha i hi)) (ho.tr hz2.2.2))⟩⟩
      · rw [if_neg c2] at he'; exact he'
      · rw [ky_uv2 hp h0 h1 hkr ⟨by omega, by omega⟩, hB]
      · rw [if_pos c2] at he'
        rw [List.append_assoc]; exact he'
  have st77 : ∀ (M : List UV) (Z1 : Zt), M ++ kr2 p f0 f1 u0 u1 (p.toNat - 1) 1 = L ++ krA p f0 f1 u0 u1 → KyA Z1 a p M → (∀ i : Nat, i ≠ 14 → Z1 a i = Z a i) → Oth Z Z1 (fun b => b = a ∨ b = a + 50) → V mX0_keepRoots k n 77 [some (r_ a), some (i_ u0), some (i_ u1), some (i_ f0), some (i_ f1), some (i_ p), some (i_ B), none, none, none] [] x Z1 Q := fun M Z1 e1 e2 e3 e4 => b_X0_keepRoots_77 (lp2 (p.toNat - 1) 1 1 M Z1 rfl (by omega) (by omega) e1 e2 e3 e4)
  have lp1 : ∀ (m v : Nat) (w : Int) (M : List UV) (Z1 : Zt), w = v → v + m = p.toNat → f1 = 0 → M ++ kr1 p f0 u0 u1 m v = L ++ kr1 p f0 u0 u1 p.toNat 0 → KyA Z1 a p M → (∀ i : Nat, i ≠ 14 → Z1 a i = Z a i) → Oth Z Z1 (fun b => b = a ∨ b = a + 50) → V mX0_keepRoots k n 34 [some (r_ a), some (i_ u0), some (i_ u1), some (i_ f0), some (i_ f1), some (i_ p), some (i_ B), some (i_ w), none, none] [] x Z1 Q := by
    intro m
    induction m with
    | zero =>
      intro v w M Z1 hw hm hf1 he hk ha ho
      have he' : M = L ++ kr1 p f0 u0 u1 p.toNat 0 := by rw [← he]; exact (List.append_nil M).symm
      refine b_X0_keepRoots_34 r1 o ofl ⟨⟨by omega, by omega⟩, ⟨by omega, by omega⟩, fun _ => st77 M Z1 ?_ hk ha ho, fun c => by omega⟩
      unfold krA
      rw [if_pos hf1, he', List.append_assoc]
    | succ m ih =>
      intro v w M Z1 hw hm hf1 he hk ha ho
      have e0 : Z1 fl 0 = p := by rw [ho fl (by omega)]; exact hf.1
      have hsq := emr ((v : Int) * v) (p := p) (by omega)
      have hvv := mul13 (a := (v : Int)) (b := (v : Int)) ⟨by omega, by omega⟩ ⟨by omega, by omega⟩
      have he' : M ++ ((if ((v : Int) * v) % p = f0 then [uv2 u0 u1 v 0] else []) ++ kr1 p f0 u0 u1 m (v + 1)) = L ++ kr1 p f0 u0 u1 p.toNat 0 := he
      refine b_X0_keepRoots_34 r1 o ofl ?_
      rw [e0, hw]
      refine ⟨⟨by omega, by omega⟩, ⟨by omega, by omega⟩, fun c => by omega, fun _ => ⟨⟨by omega, by omega⟩, fun c => absurd hf1 c, fun _ => ⟨⟨by omega, by omega⟩, by omega, by omega, ⟨by omega, by omega⟩, ⟨by omega, by omega⟩, fun c2 => b_X0_keepRoots_71 (ih (v + 1) _ M Z1 (by omega) (by omega) hf1 ?_ hk ha ho), fun c2 => ⟨p, M, uv2 u0 u1 v 0, hk, ?_, fun Z2 hz2 => b_X0_keepRoots_71 (ih (v + 1) _ (M ++ [uv2 u0 u1 v 0]) Z2 (by omega) (by omega) hf1 ?_ hz2.1 (fun i hi => (hz2.2.1 i hi).trans (ha i hi)) (ho.tr hz2.2.2))⟩⟩⟩⟩
      · rw [if_neg c2] at he'; exact he'
      · rw [ky_uv2 hp h0 h1 ⟨by omega, by omega⟩ ⟨by omega, by omega⟩, hB]; omega
      · rw [if_pos c2] at he'
        rw [List.append_assoc]; exact he'
  refine b_X0_keepRoots_0 r1 o ofl fun i1 e1 => ?_
  rw [hf.1] at e1 ⊢
  rw [e1, hB]
  by_cases cf : f1 = 0
  · exact lp1 p.toNat 0 0 L Z rfl (by omega) cf rfl hK (fun _ _ => rfl) Oth.rf
  · refine b_X0_keepRoots_34 r1 o ofl ⟨⟨by decide, by decide⟩, ⟨by omega, by omega⟩, fun c => by omega, fun _ => ⟨⟨by omega, by omega⟩, fun _ => st77 L Z ?_ hK (fun _ _ => rfl) Oth.rf, fun c => absurd c cf⟩⟩
    unfold krA
    rw [if_neg cf]; rfl
theorem dX0_listGreater_0 : decode cX0_listGreater 0 = .ok (.aload_n 0, 1) := by decide +kernel
theorem dX0_listGreater_1 : decode cX0_listGreater 1 = .ok (.getfield 12, 3) := by decide +kernel
theorem dX0_listGreater_4 : decode cX0_listGreater 4 = .ok (.getfield 181, 3) := by decide +kernel
theorem dX0_listGreater_7 : decode cX0_listGreater 7 = .ok (.istore_n 1, 1) := by decide +kernel
theorem dX0_listGreater_8 : decode cX0_listGreater 8 = .ok (.aload_n 0, 1) := by decide +kernel
theorem dX0_listGreater_9 : decode cX0_listGreater 9 = .ok (.getfield 57, 3) := by decide +kernel
theorem dX0_listGreater_12 : decode cX0_listGreater 12 = .ok (.getfield 130, 3) := by decide +kernel
theorem dX0_listGreater_15 : decode cX0_listGreater 15 = .ok (.invokevirtual 202, 3) := by decide +kernel
theorem dX0_listGreater_18 : decode cX0_listGreater 18 = .ok (.aload_n 0, 1) := by decide +kernel
theorem dX0_listGreater_19 : decode cX0_listGreater 19 = .ok (.getfield 57, 3) := by decide +kernel
theorem dX0_listGreater_22 : decode cX0_listGreater 22 = .ok (.getfield 130, 3) := by decide +kernel
theorem dX0_listGreater_25 : decode cX0_listGreater 25 = .ok (.iconst 2, 1) := by decide +kernel
theorem dX0_listGreater_26 : decode cX0_listGreater 26 = .ok (.iconst 1, 1) := by decide +kernel
theorem dX0_listGreater_27 : decode cX0_listGreater 27 = .ok (.invokevirtual 205, 3) := by decide +kernel
theorem dX0_listGreater_30 : decode cX0_listGreater 30 = .ok (.iconst 0, 1) := by decide +kernel
theorem dX0_listGreater_31 : decode cX0_listGreater 31 = .ok (.istore_n 2, 1) := by decide +kernel
theorem dX0_listGreater_32 : decode cX0_listGreater 32 = .ok (.iload_n 2, 1) := by decide +kernel
theorem dX0_listGreater_33 : decode cX0_listGreater 33 = .ok (.iload_n 1, 1) := by decide +kernel
theorem dX0_listGreater_34 : decode cX0_listGreater 34 = .ok (.if_icmp .ge 101, 3) := by decide +kernel
theorem dX0_listGreater_37 : decode cX0_listGreater 37 = .ok (.iconst 0, 1) := by decide +kernel
theorem dX0_listGreater_38 : decode cX0_listGreater 38 = .ok (.istore_n 3, 1) := by decide +kernel
theorem dX0_listGreater_39 : decode cX0_listGreater 39 = .ok (.iload_n 3, 1) := by decide +kernel
theorem dX0_listGreater_40 : decode cX0_listGreater 40 = .ok (.iload_n 1, 1) := by decide +kernel
theorem dX0_listGreater_41 : decode cX0_listGreater 41 = .ok (.if_icmp .ge 88, 3) := by decide +kernel
theorem dX0_listGreater_44 : decode cX0_listGreater 44 = .ok (.aload_n 0, 1) := by decide +kernel
theorem dX0_listGreater_45 : decode cX0_listGreater 45 = .ok (.getfield 57, 3) := by decide +kernel
theorem dX0_listGreater_48 : decode cX0_listGreater 48 = .ok (.getfield 130, 3) := by decide +kernel
theorem dX0_listGreater_51 : decode cX0_listGreater 51 = .ok (.iconst 1, 1) := by decide +kernel
theorem dX0_listGreater_52 : decode cX0_listGreater 52 = .ok (.iload_n 3, 1) := by decide +kernel
theorem dX0_listGreater_53 : decode cX0_listGreater 53 = .ok (.invokevirtual 205, 3) := by decide +kernel
theorem dX0_listGreater_56 : decode cX0_listGreater 56 = .ok (.aload_n 0, 1) := by decide +kernel
theorem dX0_listGreater_57 : decode cX0_listGreater 57 = .ok (.getfield 57, 3) := by decide +kernel
theorem dX0_listGreater_60 : decode cX0_listGreater 60 = .ok (.getfield 130, 3) := by decide +kernel
theorem dX0_listGreater_63 : decode cX0_listGreater 63 = .ok (.iconst 0, 1) := by decide +kernel
theorem dX0_listGreater_64 : decode cX0_listGreater 64 = .ok (.iload_n 2, 1) := by decide +kernel
theorem dX0_listGreater_65 : decode cX0_listGreater 65 = .ok (.invokevirtual 205, 3) := by decide +kernel
theorem dX0_listGreater_68 : decode cX0_listGreater 68 = .ok (.aload_n 0, 1) := by decide +kernel
theorem dX0_listGreater_69 : decode cX0_listGreater 69 = .ok (.getfield 45, 3) := by decide +kernel
theorem dX0_listGreater_72 : decode cX0_listGreater 72 = .ok (.aload_n 0, 1) := by decide +kernel
theorem dX0_listGreater_73 : decode cX0_listGreater 73 = .ok (.getfield 21, 3) := by decide +kernel
theorem dX0_listGreater_76 : decode cX0_listGreater 76 = .ok (.invokevirtual 139, 3) := by decide +kernel
theorem dX0_listGreater_79 : decode cX0_listGreater 79 = .ok (.aload_n 0, 1) := by decide +kernel
theorem dX0_listGreater_80 : decode cX0_listGreater 80 = .ok (.getfield 45, 3) := by decide +kernel
theorem dX0_listGreater_83 : decode cX0_listGreater 83 = .ok (.aload_n 0, 1) := by decide +kernel
theorem dX0_listGreater_84 : decode cX0_listGreater 84 = .ok (.getfield 12, 3) := by decide +kernel
theorem dX0_listGreater_87 : decode cX0_listGreater 87 = .ok (.aload_n 0, 1) := by decide +kernel
theorem dX0_listGreater_88 : decode cX0_listGreater 88 = .ok (.getfield 57, 3) := by decide +kernel
theorem dX0_listGreater_91 : decode cX0_listGreater 91 = .ok (.getfield 130, 3) := by decide +kernel
theorem dX0_listGreater_94 : decode cX0_listGreater 94 = .ok (.aload_n 0, 1) := by decide +kernel
theorem dX0_listGreater_95 : decode cX0_listGreater 95 = .ok (.getfield 51, 3) := by decide +kernel
theorem dX0_listGreater_98 : decode cX0_listGreater 98 = .ok (.invokevirtual 146, 3) := by decide +kernel
theorem dX0_listGreater_101 : decode cX0_listGreater 101 = .ok (.aload_n 0, 1) := by decide +kernel
theorem dX0_listGreater_102 : decode cX0_listGreater 102 = .ok (.iload_n 2, 1) := by decide +kernel
theorem dX0_listGreater_103 : decode cX0_listGreater 103 = .ok (.iload_n 3, 1) := by decide +kernel
theorem dX0_listGreater_104 : decode cX0_listGreater 104 = .ok (.aload_n 0, 1) := by decide +kernel
theorem dX0_listGreater_105 : decode cX0_listGreater 105 = .ok (.getfield 45, 3) := by decide +kernel
theorem dX0_listGreater_108 : decode cX0_listGreater 108 = .ok (.iconst 0, 1) := by decide +kernel
theorem dX0_listGreater_109 : decode cX0_listGreater 109 = .ok (.invokevirtual 149, 3) := by decide +kernel
theorem dX0_listGreater_112 : decode cX0_listGreater 112 = .ok (.aload_n 0, 1) := by decide +kernel
theorem dX0_listGreater_113 : decode cX0_listGreater 113 = .ok (.getfield 45, 3) := by decide +kernel
theorem dX0_listGreater_116 : decode cX0_listGreater 116 = .ok (.iconst 1, 1) := by decide +kernel
theorem dX0_listGreater_117 : decode cX0_listGreater 117 = .ok (.invokevirtual 149, 3) := by decide +kernel
theorem dX0_listGreater_120 : decode cX0_listGreater 120 = .ok (.invokevirtual 209, 3) := by decide +kernel
theorem dX0_listGreater_123 : decode cX0_listGreater 123 = .ok (.iinc 3 1, 3) := by decide +kernel
theorem dX0_listGreater_126 : decode cX0_listGreater 126 = .ok (.goto (-87), 3) := by decide +kernel
theorem dX0_listGreater_129 : decode cX0_listGreater 129 = .ok (.iinc 2 1, 3) := by decide +kernel
theorem dX0_listGreater_132 : decode cX0_listGreater 132 = .ok (.goto (-100), 3) := by decide +kernel
theorem dX0_listGreater_135 : decode cX0_listGreater 135 = .ok (.return_, 1) := by decide +kernel
set_option maxRecDepth 20000 in
theorem b_X0_listGreater_0 {k n : Nat} {x : Wx} {Z : Zt} {Q : Option Value → Wx → Zt → Prop} {a0 : Nat} {a0_field : Nat} (r_a0_field : x.2.1 a0 1 = some a0_field) (o_a0 : Is0 x a0) (o_a0_field : Is4 x a0_field)
    (h : ∀ (Z'1 : Zt), (PA Z'1 (a0 + 36) 1 (fun _ => 0) ∧ Oth Z Z'1 (At2 (a0 + 36))) → (∃ g1 : Int, (∃ g2 : Nat → Int, (PA Z'1 (a0 + 36) g1 g2 ∧ 0 ≤ (2 : Int) ∧ (2 : Int) < 10 ∧ (0 ≤ (1 : Int) ∧ (1 : Int) < g1) ∧ g1 ≤ 13 ∧ (∀ (Z'2 : Zt), (PA Z'2 (a0 + 36) g1 (fun j => if j = (Int.toNat (2 : Int)) then (1 : Int) else g2 j) ∧ Oth Z'1 Z'2 (At2 (a0 + 36))) → (V mX0_listGreater k n 32 [some (r_ a0), some (i_ (Z a0_field 0)), some (i_ 0), none] [] x Z'2 Q)))))) :
    V mX0_listGreater k n 0 [some (r_ a0), none, none, none] [] x Z Q :=
  V_aload_n dX0_listGreater_0 rfl (G_0_1 o_a0.1 r_a0_field lf_0_12 dX0_listGreater_1 (G_4_0 o_a0_field.1 lf_0_181 dX0_listGreater_4 (V_istore_n (lv' := [some (r_ a0), some (i_ (Z a0_field 0)), none, none]) dX0_listGreater_7 (Nat.le_of_ble_eq_true rfl) rfl (V_aload_n dX0_listGreater_8 rfl (G_0_11 o_a0.1 o_a0.2.2.2.2.2.2.2.2.2.2.2.2.2.2.2.1 lf_0_57 dX0_listGreater_9 (G_6_0 o_a0.2.2.2.2.2.2.2.2.2.2.2.2.2.2.2.2.1.1 o_a0.2.2.2.2.2.2.2.2.2.2.2.2.2.2.2.2.1.2.1 lf_0_130 dX0_listGreater_12 (V_callV (k' := 0) (n' := 0) (t := 7) (q := (RX7, TX7, 2)) [] [] okX7_clear o_a0.2.2.2.2.2.2.2.2.2.2.2.2.2.2.2.2.1.2.2.1.1 rfl rfl lm_0_202 liX7_clear lqX7_clear (Nat.le_of_ble_eq_true rfl) (Nat.le_of_ble_eq_true rfl) (Nat.le_of_ble_eq_true rfl) (cat_of rfl) (Nat.le_of_ble_eq_true rfl) (Nat.zero_le _) (Nat.zero_le _) rfl dX0_listGreater_15 (sp_X7_clear o_a0.2.2.2.2.2.2.2.2.2.2.2.2.2.2.2.2.1.2.2.1  (fun Z'1 p1 => V_aload_n dX0_listGreater_18 rfl (G_0_11 o_a0.1 o_a0.2.2.2.2.2.2.2.2.2.2.2.2.2.2.2.1 lf_0_57 dX0_listGreater_19 (G_6_0 o_a0.2.2.2.2.2.2.2.2.2.2.2.2.2.2.2.2.1.1 o_a0.2.2.2.2.2.2.2.2.2.2.2.2.2.2.2.2.1.2.1 lf_0_130 dX0_listGreater_22 (V_iconst dX0_listGreater_25 (V_iconst dX0_listGreater_26 (Exists.elim (h Z'1 p1) (fun g1 w1 => Exists.elim w1 (fun g2 w2 => V_callV (k' := 0) (n' := 0) (t := 7) (q := (RX7, TX7, 2)) [i_ 2, i_ 1] [] okX7_put o_a0.2.2.2.2.2.2.2.2.2.2.2.2.2.2.2.2.1.2.2.1.1 rfl rfl lm_0_205 liX7_put lqX7_put (Nat.le_of_ble_eq_true rfl) (Nat.le_of_ble_eq_true rfl) (Nat.le_of_ble_eq_true rfl) (cat_of rfl) (Nat.le_of_ble_eq_true rfl) (Nat.zero_le _) (Nat.zero_le _) rfl dX0_listGreater_27 (sp_X7_put o_a0.2.2.2.2.2.2.2.2.2.2.2.2.2.2.2.2.1.2.2.1 w2.1 w2.2.1 w2.2.2.1 w2.2.2.2.1 w2.2.2.2.2.1 (fun Z'2 p2 => V_iconst dX0_listGreater_30 (V_istore_n (lv' := [some (r_ a0), some (i_ (Z a0_field 0)), some (i_ 0), none]) dX0_listGreater_31 (Nat.le_of_ble_eq_true rfl) rfl (V_msk [true, true, true, false] rfl (w2.2.2.2.2.2 Z'2 p2)))))))))))))))))))))
set_option maxRecDepth 20000 in
theorem b_X0_listGreater_32 {k n : Nat} {x : Wx} {Z : Zt} {Q : Option Value → Wx → Zt → Prop} {a0 : Nat} {v1 : Int} {v2 : Int} 
    (h : Rg v2 ∧ Rg v1 ∧ (((v1 ≤ v2) → (Q none x Z)) ∧ ((v2 < v1) → (V mX0_listGreater k n 39 [some (r_ a0), some (i_ v1), some (i_ v2), some (i_ 0)] [] x Z Q)))) :
    V mX0_listGreater k n 32 [some (r_ a0), some (i_ v1), some (i_ v2), none] [] x Z Q :=
  V_iload_n dX0_listGreater_32 rfl (V_iload_n dX0_listGreater_33 rfl (V_icmp_ge (tgt := 135) dX0_listGreater_34 rfl h.1 h.2.1 (fun c1 => V_ret dX0_listGreater_135 rfl (h.2.2.1 c1)) (fun c1 => V_iconst dX0_listGreater_37 (V_istore_n (lv' := [some (r_ a0), some (i_ v1), some (i_ v2), some (i_ 0)]) dX0_listGreater_38 (Nat.le_of_ble_eq_true rfl) rfl (V_msk [true, true, true, true] rfl (h.2.2.2 c1))))))
set_option maxRecDepth 20000 in
theorem b_X0_listGreater_39 {k n : Nat} {x : Wx} {Z : Zt} {Q : Option Value → Wx → Zt → Prop} {a0 : Nat} {v1 : Int} {v2 : Int} {v3 : Int} {a0_f : Nat} {a0_field : Nat} (r_a0_f : x.2.1 a0 2 = some a0_f) (r_a0_field : x.2.1 a0 1 = some a0_field) (o_a0 : Is0 x a0) (o_a0_f : Is7 x a0_f) (o_a0_field : Is4 x a0_field)
    (h : Rg v3 ∧ Rg v1 ∧ (((v1 ≤ v3) → (V mX0_listGreater k n 32 [some (r_ a0), some (i_ v1), some (i_ (v2 + 1)), none] [] x Z Q)) ∧ ((v3 < v1) → (∃ g1 : Int, (∃ g2 : Nat → Int, (PA Z (a0 + 36) g1 g2 ∧ 0 ≤ (1 : Int) ∧ (1 : Int) < 10 ∧ (0 ≤ v3 ∧ v3 < g1) ∧ g1 ≤ 13 ∧ (∀ (Z'1 : Zt), (PA Z'1 (a0 + 36) g1 (fun j => if j = (Int.toNat (1 : Int)) then v3 else g2 j) ∧ Oth Z Z'1 (At2 (a0 + 36))) → (∃ g3 : Int, (∃ g4 : Nat → Int, (PA Z'1 (a0 + 36) g3 g4 ∧ 0 ≤ (0 : Int) ∧ (0 : Int) < 10 ∧ (0 ≤ v2 ∧ v2 < g3) ∧ g3 ≤ 13 ∧ (∀ (Z'2 : Zt), (PA Z'2 (a0 + 36) g3 (fun j => if j = (Int.toNat (0 : Int)) then v2 else g4 j) ∧ Oth Z'1 Z'2 (At2 (a0 + 36))) → (∃ g5 : Int, (∃ g6 : Nat → Int, (PA Z'2 a0_f g5 g6 ∧ (∀ (Z'3 : Zt), (PA Z'3 (a0 + 29) g5 g6 ∧ Oth Z'2 Z'3 (At2 (a0 + 29))) → (∃ g7 : Int, (∃ g8 : Nat → Int, (∃ g9 : Nat → Int, ((a0 + 29) ≠ (a0 + 36) ∧ (a0 + 29) ≠ (a0 + 33) ∧ (a0 + 36) ≠ (a0 + 33) ∧ PA Z'3 (a0 + 29) g7 g8 ∧ PA Z'3 (a0 + 36) g7 g9 ∧ FA Z'3 a0_field g7 ∧ (3 ≤ g7 ∧ g7 ≤ 13) ∧ 0 ≤ pd g9 ∧ (∀ (Z'4 : Zt), (PA Z'4 (a0 + 29) g7 (dvR g7 g8 g9) ∧ PA Z'4 (a0 + 33) g7 (dvQ g7 g8 g9) ∧ Oth Z'3 Z'4 (fun q => At2 (a0 + 29) q ∨ At2 (a0 + 33) q)) → (0 ≤ (0 : Int) ∧ (0 : Int) < 10 ∧ (0 ≤ (1 : Int) ∧ (1 : Int) < 10 ∧ (∃ g10 : Int, (∃ g11 : List UV, (IsP g10 ∧ FA Z'4 a0_field g10 ∧ a0_field + 2 < a0 ∧ KyA Z'4 a0 g10 g11 ∧ (0 ≤ v2 ∧ v2 < g10) ∧ (0 ≤ v3 ∧ v3 < g10) ∧ (0 ≤ (Z'4 ((a0 + 29) + 1) (Int.toNat (0 : Int))) ∧ (Z'4 ((a0 + 29) + 1) (Int.toNat (0 : Int))) < g10) ∧ (0 ≤ (Z'4 ((a0 + 29) + 1) (Int.toNat (1 : Int))) ∧ (Z'4 ((a0 + 29) + 1) (Int.toNat (1 : Int))) < g10) ∧ (∀ (Z'5 : Zt), (KyA Z'5 a0 g10 (g11 ++ krA g10 (Z'4 ((a0 + 29) + 1) (Int.toNat (0 : Int))) (Z'4 ((a0 + 29) + 1) (Int.toNat (1 : Int))) v2 v3) ∧ (∀ i : Nat, i ≠ 14 → Z'5 a0 i = Z'4 a0 i) ∧ Oth Z'4 Z'5 (fun b => b = a0 ∨ b = a0 + 50)) → (V mX0_listGreater k n 39 [some (r_ a0), some (i_ v1), some (i_ v2), some (i_ (v3 + 1))] [] x Z'5 Q))))))))))))))))))))))))))) :
    V mX0_listGreater k n 39 [some (r_ a0), some (i_ v1), some (i_ v2), some (i_ v3)] [] x Z Q :=
  V_iload_n dX0_listGreater_39 rfl (V_iload_n dX0_listGreater_40 rfl (V_icmp_ge (tgt := 129) dX0_listGreater_41 rfl h.1 h.2.1 (fun c1 => V_iinc (lv' := [some (r_ a0), some (i_ v1), some (i_ (v2 + 1)), some (i_ v3)]) dX0_listGreater_129 rfl (Nat.le_of_ble_eq_true rfl) rfl (V_goto (tgt := 32) dX0_listGreater_132 rfl (V_msk [true, true, true, false] rfl (h.2.2.1 c1)))) (fun c1 => V_aload_n dX0_listGreater_44 rfl (G_0_11 o_a0.1 o_a0.2.2.2.2.2.2.2.2.2.2.2.2.2.2.2.1 lf_0_57 dX0_listGreater_45 (G_6_0 o_a0.2.2.2.2.2.2.2.2.2.2.2.2.2.2.2.2.1.1 o_a0.2.2.2.2.2.2.2.2.2.2.2.2.2.2.2.2.1.2.1 lf_0_130 dX0_listGreater_48 (V_iconst dX0_listGreater_51 (V_iload_n dX0_listGreater_52 rfl (Exists.elim (h.2.2.2 c1) (fun g1 w1 => Exists.elim w1 (fun g2 w2 => V_callV (k' := 0) (n' := 0) (t := 7) (q := (RX7, TX7, 2)) [i_ 1, i_ v3] [] okX7_put o_a0.2.2.2.2.2.2.2.2.2.2.2.2.2.2.2.2.1.2.2.1.1 rfl rfl lm_0_205 liX7_put lqX7_put (Nat.le_of_ble_eq_true rfl) (Nat.le_of_ble_eq_true rfl) (Nat.le_of_ble_eq_true rfl) (cat_of rfl) (Nat.le_of_ble_eq_true rfl) (Nat.zero_le _) (Nat.zero_le _) rfl dX0_listGreater_53 (sp_X7_put o_a0.2.2.2.2.2.2.2.2.2.2.2.2.2.2.2.2.1.2.2.1 w2.1 w2.2.1 w2.2.2.1 w2.2.2.2.1 w2.2.2.2.2.1 (fun Z'1 p1 => V_aload_n dX0_listGreater_56 rfl (G_0_11 o_a0.1 o_a0.2.2.2.2.2.2.2.2.2.2.2.2.2.2.2.1 lf_0_57 dX0_listGreater_57 (G_6_0 o_a0.2.2.2.2.2.2.2.2.2.2.2.2.2.2.2.2.1.1 o_a0.2.2.2.2.2.2.2.2.2.2.2.2.2.2.2.2.1.2.1 lf_0_130 dX0_listGreater_60 (V_iconst dX0_listGreater_63 (V_iload_n dX0_listGreater_64 rfl (Exists.elim (w2.2.2.2.2.2 Z'1 p1) (fun g3 w3 => Exists.elim w3 (fun g4 w4 => V_callV (k' := 0) (n' := 0) (t := 7) (q := (RX7, TX7, 2)) [i_ 0, i_ v2] [] okX7_put o_a0.2.2.2.2.2.2.2.2.2.2.2.2.2.2.2.2.1.2.2.1.1 rfl rfl lm_0_205 liX7_put lqX7_put (Nat.le_of_ble_eq_true rfl) (Nat.le_of_ble_eq_true rfl) (Nat.le_of_ble_eq_true rfl) (cat_of rfl) (Nat.le_of_ble_eq_true rfl) (Nat.zero_le _) (Nat.zero_le _) rfl dX0_listGreater_65 (sp_X7_put o_a0.2.2.2.2.2.2.2.2.2.2.2.2.2.2.2.2.1.2.2.1 w4.1 w4.2.1 w4.2.2.1 w4.2.2.2.1 w4.2.2.2.2.1 (fun Z'2 p2 => V_aload_n dX0_listGreater_68 rfl (G_0_8 o_a0.1 o_a0.2.2.2.2.2.2.2.2.2.1 lf_0_45 dX0_listGreater_69 (V_aload_n dX0_listGreater_72 rfl (G_0_2 o_a0.1 r_a0_f lf_0_21 dX0_listGreater_73 (Exists.elim (w4.2.2.2.2.2 Z'2 p2) (fun g5 w5 => Exists.elim w5 (fun g6 w6 => V_callV (k' := 0) (n' := 0) (t := 7) (q := (RX7, TX7, 2)) [r_ a0_f] [] okX7_copy o_a0.2.2.2.2.2.2.2.2.2.2.1.1 rfl rfl lm_0_139 liX7_copy lqX7_copy (Nat.le_of_ble_eq_true rfl) (Nat.le_of_ble_eq_true rfl) (Nat.le_of_ble_eq_true rfl) (cat_of rfl) (Nat.le_of_ble_eq_true rfl) (Nat.zero_le _) (Nat.zero_le _) rfl dX0_listGreater_76 (sp_X7_copy o_a0.2.2.2.2.2.2.2.2.2.2.1 o_a0_f w6.1 (fun Z'3 p3 => V_aload_n dX0_listGreater_79 rfl (G_0_8 o_a0.1 o_a0.2.2.2.2.2.2.2.2.2.1 lf_0_45 dX0_listGreater_80 (V_aload_n dX0_listGreater_83 rfl (G_0_1 o_a0.1 r_a0_field lf_0_12 dX0_listGreater_84 (V_aload_n dX0_listGreater_87 rfl (G_0_11 o_a0.1 o_a0.2.2.2.2.2.2.2.2.2.2.2.2.2.2.2.1 lf_0_57 dX0_listGreater_88 (G_6_0 o_a0.2.2.2.2.2.2.2.2.2.2.2.2.2.2.2.2.1.1 o_a0.2.2.2.2.2.2.2.2.2.2.2.2.2.2.2.2.1.2.1 lf_0_130 dX0_listGreater_91 (V_aload_n dX0_listGreater_94 rfl (G_0_10 o_a0.1 o_a0.2.2.2.2.2.2.2.2.2.2.2.2.2.1 lf_0_51 dX0_listGreater_95 (Exists.elim (w6.2 Z'3 p3) (fun g7 w7 => Exists.elim w7 (fun g8 w8 => Exists.elim w8 (fun g9 w9 => V_callV (k' := 0) (n' := 0) (t := 7) (q := (RX7, TX7, 2)) [r_ a0_field, r_ (a0 + 36), r_ (a0 + 33)] [] okX7_divide o_a0.2.2.2.2.2.2.2.2.2.2.1.1 rfl rfl lm_0_146 liX7_divide lqX7_divide (Nat.le_of_ble_eq_true rfl) (Nat.le_of_ble_eq_true rfl) (Nat.le_of_ble_eq_true rfl) (cat_of rfl) (Nat.le_of_ble_eq_true rfl) (Nat.zero_le _) (Nat.zero_le _) rfl dX0_listGreater_98 (sp_X7_divide o_a0.2.2.2.2.2.2.2.2.2.2.1 o_a0_field o_a0.2.2.2.2.2.2.2.2.2.2.2.2.2.2.2.2.1.2.2.1 o_a0.2.2.2.2.2.2.2.2.2.2.2.2.2.2.1 w9.1 w9.2.1 w9.2.2.1 w9.2.2.2.1 w9.2.2.2.2.1 w9.2.2.2.2.2.1 w9.2.2.2.2.2.2.1 w9.2.2.2.2.2.2.2.1 (fun Z'4 p4 => V_aload_n dX0_listGreater_101 rfl (V_iload_n dX0_listGreater_102 rfl (V_iload_n dX0_listGreater_103 rfl (V_aload_n dX0_listGreater_104 rfl (G_0_8 o_a0.1 o_a0.2.2.2.2.2.2.2.2.2.1 lf_0_45 dX0_listGreater_105 (V_iconst dX0_listGreater_108 (V_callV (k' := 0) (n' := 0) (t := 7) (q := (RX7, TX7, 2)) [i_ 0] [i_ v3, i_ v2, r_ a0] okX7_at o_a0.2.2.2.2.2.2.2.2.2.2.1.1 rfl rfl lm_0_149 liX7_at lqX7_at (Nat.le_of_ble_eq_true rfl) (Nat.le_of_ble_eq_true rfl) (Nat.le_of_ble_eq_true rfl) (cat_of rfl) (Nat.le_of_ble_eq_true rfl) (Nat.zero_le _) (Nat.zero_le _) rfl dX0_listGreater_109 (sp_X7_at o_a0.2.2.2.2.2.2.2.2.2.2.1 (w9.2.2.2.2.2.2.2.2 Z'4 p4).1 (w9.2.2.2.2.2.2.2.2 Z'4 p4).2.1 (V_aload_n dX0_listGreater_112 rfl (G_0_8 o_a0.1 o_a0.2.2.2.2.2.2.2.2.2.1 lf_0_45 dX0_listGreater_113 (V_iconst dX0_listGreater_116 (V_callV (k' := 0) (n' := 0) (t := 7) (q := (RX7, TX7, 2)) [i_ 1] [i_ (Z'4 ((a0 + 29) + 1) (Int.toNat (0 : Int))), i_ v3, i_ v2, r_ a0] okX7_at o_a0.2.2.2.2.2.2.2.2.2.2.1.1 rfl rfl lm_0_149 liX7_at lqX7_at (Nat.le_of_ble_eq_true rfl) (Nat.le_of_ble_eq_true rfl) (Nat.le_of_ble_eq_true rfl) (cat_of rfl) (Nat.le_of_ble_eq_true rfl) (Nat.zero_le _) (Nat.zero_le _) rfl dX0_listGreater_117 (sp_X7_at o_a0.2.2.2.2.2.2.2.2.2.2.1 (w9.2.2.2.2.2.2.2.2 Z'4 p4).2.2.1 (w9.2.2.2.2.2.2.2.2 Z'4 p4).2.2.2.1 (Exists.elim (w9.2.2.2.2.2.2.2.2 Z'4 p4).2.2.2.2 (fun g10 w10 => Exists.elim w10 (fun g11 w11 => V_callV (k' := 0) (n' := 0) (t := 0) (q := (RX0, TX0, 18)) [i_ v2, i_ v3, i_ (Z'4 ((a0 + 29) + 1) (Int.toNat (0 : Int))), i_ (Z'4 ((a0 + 29) + 1) (Int.toNat (1 : Int)))] [] okX0_keepRoots o_a0.1 rfl rfl lm_0_209 liX0_keepRoots lqX0_keepRoots (Nat.le_of_ble_eq_true rfl) (Nat.le_of_ble_eq_true rfl) (Nat.le_of_ble_eq_true rfl) (cat_of rfl) (Nat.le_of_ble_eq_true rfl) (Nat.zero_le _) (Nat.zero_le _) rfl dX0_listGreater_120 (sp_X0_keepRoots r_a0_field o_a0 o_a0_field w11.1 w11.2.1 w11.2.2.1 w11.2.2.2.1 w11.2.2.2.2.1 w11.2.2.2.2.2.1 w11.2.2.2.2.2.2.1 w11.2.2.2.2.2.2.2.1 (fun Z'5 p5 => V_iinc (lv' := [some (r_ a0), some (i_ v1), some (i_ v2), some (i_ (v3 + 1))]) dX0_listGreater_123 rfl (Nat.le_of_ble_eq_true rfl) rfl (V_goto (tgt := 39) dX0_listGreater_126 rfl (V_msk [true, true, true, true] rfl (w11.2.2.2.2.2.2.2.2 Z'5 p5)))))))))))))))))))))))))))))))))))))))))))))))))))))))))))))))
def uqd (u0 u1 : Int) : Nat → Int := fun j => if j = 0 then u0 else if j = 1 then u1 else if j = 2 then 1 else 0
theorem uqd_pd (u0 u1 : Int) : pd (uqd u0 u1) = 2 := pd_eq (m := 2) (by decide) (by show (1 : Int) ≠ 0; decide) (fun i hi => by unfold uqd; rw [if_neg (by omega), if_neg (by omega), if_neg (by omega)])
def lgX (p : Int) (F : Nat → Int) (u0 : Nat) : Nat → Nat → List UV
  | 0, _ => []
  | m + 1, u1 => krA p (dvR p F (uqd u0 u1) 0) (dvR p F (uqd u0 u1) 1) u0 u1 ++ lgX p F u0 m (u1 + 1)
def lgA (p : Int) (F : Nat → Int) : Nat → Nat → List UV
  | 0, _ => []
  | m + 1, u0 => lgX p F u0 p.toNat 0 ++ lgA p F m (u0 + 1)
theorem sp_X0_listGreater {k n : Nat} {x : Wx} {Z : Zt} {Q : Option Value → Wx → Zt → Prop} {a fl ff : Nat} (r1 : x.2.1 a 1 = some fl) (r2 : x.2.1 a 2 = some ff) (o : Is0 x a) (ofl : Is4 x fl) (off : Is7 x ff) {p g : Int} {F : Nat → Int} {L : List UV} (hl : fl + 2 < a ∧ ff + 1 < a) (hZ : CZ Z a fl ff p g F) (hK : KyA Z a p L) (h : ∀ Z' : Zt, (KyA Z' a p (L ++ lgA p F p.toNat 0) ∧ (∀ i : Nat, i ≠ 14 → Z' a i = Z a i) ∧ Oth Z Z' (fun b => b = a ∨ (a + 6 < b ∧ b < a + 40) ∨ b = a + 50)) → Q none x Z') : V mX0_listGreater k n 0 [some (r_ a), none, none, none] [] x Z Q := by
  have hp := hZ.1.1
  have hpr := hp.rg
  have hFi := hZ.1.2.1
  have hP : ((p.toNat : Nat) : Int) = p := by omega
  have n2 : ∀ (t q : Nat), q < t ∨ t + 1 < q → ¬ At2 t q := fun t q hq hh => by rcases hh with hh | hh <;> omega
  have lp1 : ∀ (m u0 : Nat) (w : Int) (M : List UV) (U : Nat → Int) (Z1 : Zt), w = u0 → u0 + m = p.toNat → M ++ lgA p F m u0 = L ++ lgA p F p.toNat 0 → KyA Z1 a p M → PA Z1 (a + 36) p U → (∀ j : Nat, 2 ≤ j → U j = if j = 2 then 1 else 0) → (∀ i : Nat, i ≠ 14 → Z1 a i = Z a i) → Oth Z Z1 (fun b => b = a ∨ (a + 6 < b ∧ b < a + 40) ∨ b = a + 50) → V mX0_listGreater k n 32 [some (r_ a), some (i_ p), some (i_ w), none] [] x Z1 Q := by
    intro m
    induction m with
    | zero =>
      intro u0 w M U Z1 hw hm he hk hU hUj ha ho
      have he' : M = L ++ lgA p F p.toNat 0 := by rw [← he]; exact (List.append_nil M).symm
      exact b_X0_listGreater_32 ⟨⟨by omega, by omega⟩, ⟨by omega, by omega⟩, fun _ => h Z1 ⟨he' ▸ hk, ha, ho⟩, fun c => by omega⟩
    | succ m ih =>
      intro u0 w M U Z1 hw hm he hk hU hUj ha ho
      have he' : M ++ (lgX p F u0 p.toNat 0 ++ lgA p F m (u0 + 1)) = L ++ lgA p F p.toNat 0 := he
      have lp2 : ∀ (m2 u1 : Nat) (y : Int) (M2 : List UV) (U2 : Nat → Int) (Z2 : Zt), y = u1 → u1 + m2 = p.toNat → M2 ++ lgX p F u0 m2 u1 = M ++ lgX p F u0 p.toNat 0 → KyA Z2 a p M2 → PA Z2 (a + 36) p U2 → (∀ j : Nat, 2 ≤ j → U2 j = if j = 2 then 1 else 0) → (∀ i : Nat, i ≠ 14 → Z2 a i = Z a i) → Oth Z Z2 (fun b => b = a ∨ (a + 6 < b ∧ b < a + 40) ∨ b = a + 50) → V mX0_listGreater k n 39 [some (r_ a), some (i_ p), some (i_ w), some (i_ y)] [] x Z2 Q := by
        intro m2
        induction m2 with
        | zero =>
          intro u1 y M2 U2 Z2 hy hm2 he2 hk2 hU2 hUj2 ha2 ho2
          have he3 : M2 = M ++ lgX p F u0 p.toNat 0 := by rw [← he2]; exact (List.append_nil M2).symm
          refine b_X0_listGreater_39 r2 r1 o off ofl ⟨⟨by omega, by omega⟩, ⟨by omega, by omega⟩, fun _ => ih (u0 + 1) (w + 1) M2 U2 Z2 (by omega) (by omega) ?_ hk2 hU2 hUj2 ha2 ho2, fun c => by omega⟩
          rw [he3, List.append_assoc]; exact he'
        | succ m2 ih2 =>
          intro u1 y M2 U2 Z2 hy hm2 he2 hk2 hU2 hUj2 ha2 ho2
          have he3 : M2 ++ (krA p (dvR p F (uqd u0 u1) 0) (dvR p F (uqd u0 u1) 1) u0 u1 ++ lgX p F u0 m2 (u1 + 1)) = M ++ lgX p F u0 p.toNat 0 := he2
          have eF : PA Z2 ff p F := hZ.2.1.kept ho2 (by omega) (by omega)
          have eL : FA Z2 fl p := by
            unfold FA; rw [ho2 fl (by omega), ho2 (fl + 1) (by omega), ho2 (fl + 2) (by omega)]; exact hZ.2.2.1
          refine b_X0_listGreater_39 r2 r1 o off ofl ⟨⟨by omega, by omega⟩, ⟨by omega, by omega⟩, fun c => by omega, fun _ => ⟨p, U2, hU2, by decide, by decide, ⟨by omega, by omega⟩, by omega, fun Z3 hz3 => ⟨p, _, hz3.1, by decide, by decide, ⟨by omega, by omega⟩, by omega, fun Z4 hz4 => ⟨p, F, (eF.kept hz3.2 (n2 _ _ (by omega)) (n2 _ _ (by omega))).kept hz4.2 (n2 _ _ (by omega)) (n2 _ _ (by omega)), fun Z5 hz5 => ?_⟩⟩⟩⟩
          have hUe : PA Z4 (a + 36) p (uqd u0 u1) := hz4.1.put2 (funext fun j => by
            show (if j = 0 then w else if j = 1 then y else U2 j) = if j = 0 then (u0 : Int) else if j = 1 then (u1 : Int) else if j = 2 then 1 else 0
            by_cases j0 : j = 0
            · rw [if_pos j0, if_pos j0, hw]
            · rw [if_neg j0, if_neg j0]
              by_cases j1 : j = 1
              · rw [if_pos j1, if_pos j1, hy]
              · rw [if_neg j1, if_neg j1]; exact hUj2 j (by omega))
          have hU5 : PA Z5 (a + 36) p (uqd u0 u1) := hUe.kept hz5.2 (n2 _ _ (by omega)) (n2 _ _ (by omega))
          have eL5 : FA Z5 fl p := by
            unfold FA
            rw [hz5.2 fl (n2 _ _ (by omega)), hz5.2 (fl + 1) (n2 _ _ (by omega)), hz5.2 (fl + 2) (n2 _ _ (by omega)), hz4.2 fl (n2 _ _ (by omega)), hz4.2 (fl + 1) (n2 _ _ (by omega)), hz4.2 (fl + 2) (n2 _ _ (by omega)), hz3.2 fl (n2 _ _ (by omega)), hz3.2 (fl + 1) (n2 _ _ (by omega)), hz3.2 (fl + 2) (n2 _ _ (by omega))]
            exact eL
          have hpd := uqd_pd u0 u1
          refine ⟨p, F, uqd u0 u1, by omega, by omega, by omega, hz5.1, hU5, eL5, ⟨by omega, by omega⟩, by omega, fun Z6 hz6 => ?_⟩
          obtain ⟨q1, q2, q3⟩ := hz6
          have q3' : ∀ b, ¬ (a + 28 < b ∧ b < a + 35) → Z6 b = Z5 b := fun b hb => q3 b (by intro hh; apply hb; rcases hh with hh | hh <;> rcases hh with hh | hh <;> constructor <;> omega)
          have z6o : ∀ b, ¬ (a + 28 < b ∧ b < a + 38) → Z6 b = Z2 b := fun b hb => by
            rw [q3' b (by omega), hz5.2 b (n2 _ _ (by omega)), hz4.2 b (n2 _ _ (by omega)), hz3.2 b (n2 _ _ (by omega))]
          have d0 : Z6 (a + 29 + 1) (Int.toNat (0 : Int)) = dvR p F (uqd u0 u1) 0 := q1.1 0 (by decide)
          have d1 : Z6 (a + 29 + 1) (Int.toNat (1 : Int)) = dvR p F (uqd u0 u1) 1 := q1.1 1 (by decide)
          have b0 := q1.2.2.1 0
          have b1 := q1.2.2.1 1
          have eL6 : FA Z6 fl p := by
            unfold FA; rw [z6o fl (by omega), z6o (fl + 1) (by omega), z6o (fl + 2) (by omega)]; exact eL
          rw [d0, d1]
          refine ⟨by decide, by decide, by decide, by decide, p, M2, hp, eL6, hl.1, hk2.kept (z6o a (by omega)) (z6o (a + 50) (by omega)), ⟨by omega, by omega⟩, ⟨by omega, by omega⟩, b0, b1, fun Z7 hz7 => ?_⟩
          rw [hw, hy] at hz7
          obtain ⟨k1, k2, k3⟩ := hz7
          refine ih2 (u1 + 1) (y + 1) _ (uqd u0 u1) Z7 (by omega) (by omega) ?_ k1 ?_ (fun j hj => ?_) (fun i hi => ?_) (fun b hb => ?_)
          · rw [List.append_assoc]; exact he3
          · have : PA Z6 (a + 36) p (uqd u0 u1) := hU5.kept (A := fun b => a + 28 < b ∧ b < a + 35) (fun b hb => q3' b hb) (by omega) (by omega)
            exact this.kept k3 (by omega) (by omega)
          · unfold uqd
            rw [if_neg (by omega), if_neg (by omega)]
          · rw [k2 i hi, z6o a (by omega)]; exact ha2 i hi
          · rw [k3 b (by omega), z6o b (by omega)]; exact ho2 b hb
      exact b_X0_listGreater_32 ⟨⟨by omega, by omega⟩, ⟨by omega, by omega⟩, fun c => by omega, fun _ => lp2 p.toNat 0 0 M U Z1 rfl (by omega) rfl hk hU hUj ha ho⟩
  have e0 : Z fl 0 = p := hZ.2.2.1.1
  refine b_X0_listGreater_0 r1 o ofl ?_
  rw [e0]
  intro Z1 hz1
  refine ⟨p, fun _ => 0, hz1.1.mono (by omega), by decide, by decide, ⟨by decide, by omega⟩, by omega, fun Z2 hz2 => lp1 p.toNat 0 0 L _ Z2 rfl (by omega) rfl ?_ hz2.1 (fun j hj => ?_) (fun i hi => ?_) (fun b hb => ?_)⟩
  · exact hK.kept (by rw [hz2.2 a (n2 _ _ (by omega)), hz1.2 a (n2 _ _ (by omega))]) (by rw [hz2.2 _ (n2 _ _ (by omega)), hz1.2 _ (n2 _ _ (by omega))])
  · rfl
  · rw [hz2.2 a (n2 _ _ (by omega)), hz1.2 a (n2 _ _ (by omega))]
  · rw [hz2.2 b (n2 _ _ (by omega)), hz1.2 b (n2 _ _ (by omega))]
theorem dX0_list_0 : decode cX0_list 0 = .ok (.aload_n 0, 1) := by decide +kernel
theorem dX0_list_1 : decode cX0_list 1 = .ok (.iconst 0, 1) := by decide +kernel
theorem dX0_list_2 : decode cX0_list 2 = .ok (.putfield 171, 3) := by decide +kernel
theorem dX0_list_5 : decode cX0_list 5 = .ok (.aload_n 0, 1) := by decide +kernel
theorem dX0_list_6 : decode cX0_list 6 = .ok (.iconst 0, 1) := by decide +kernel
theorem dX0_list_7 : decode cX0_list 7 = .ok (.invokevirtual 177, 3) := by decide +kernel
theorem dX0_list_10 : decode cX0_list 10 = .ok (.iconst 0, 1) := by decide +kernel
theorem dX0_list_11 : decode cX0_list 11 = .ok (.istore_n 2, 1) := by decide +kernel
theorem dX0_list_12 : decode cX0_list 12 = .ok (.iload_n 2, 1) := by decide +kernel
theorem dX0_list_13 : decode cX0_list 13 = .ok (.aload_n 0, 1) := by decide +kernel
theorem dX0_list_14 : decode cX0_list 14 = .ok (.getfield 12, 3) := by decide +kernel
theorem dX0_list_17 : decode cX0_list 17 = .ok (.getfield 181, 3) := by decide +kernel
theorem dX0_list_20 : decode cX0_list 20 = .ok (.if_icmp .ge 62, 3) := by decide +kernel
theorem dX0_list_23 : decode cX0_list 23 = .ok (.iconst 0, 1) := by decide +kernel
theorem dX0_list_24 : decode cX0_list 24 = .ok (.istore_n 3, 1) := by decide +kernel
theorem dX0_list_25 : decode cX0_list 25 = .ok (.iload_n 3, 1) := by decide +kernel
theorem dX0_list_26 : decode cX0_list 26 = .ok (.aload_n 0, 1) := by decide +kernel
theorem dX0_list_27 : decode cX0_list 27 = .ok (.getfield 12, 3) := by decide +kernel
theorem dX0_list_30 : decode cX0_list 30 = .ok (.getfield 181, 3) := by decide +kernel
theorem dX0_list_33 : decode cX0_list 33 = .ok (.if_icmp .ge 43, 3) := by decide +kernel
theorem dX0_list_36 : decode cX0_list 36 = .ok (.aload_n 1, 1) := by decide +kernel
theorem dX0_list_37 : decode cX0_list 37 = .ok (.aload_n 0, 1) := by decide +kernel
theorem dX0_list_38 : decode cX0_list 38 = .ok (.getfield 12, 3) := by decide +kernel
theorem dX0_list_41 : decode cX0_list 41 = .ok (.iload_n 2, 1) := by decide +kernel
theorem dX0_list_42 : decode cX0_list 42 = .ok (.ineg, 1) := by decide +kernel
theorem dX0_list_43 : decode cX0_list 43 = .ok (.invokevirtual 184, 3) := by decide +kernel
theorem dX0_list_46 : decode cX0_list 46 = .ok (.iload_n 3, 1) := by decide +kernel
theorem dX0_list_47 : decode cX0_list 47 = .ok (.invokevirtual 187, 3) := by decide +kernel
theorem dX0_list_50 : decode cX0_list 50 = .ok (.ifCond .lt 20, 3) := by decide +kernel
theorem dX0_list_53 : decode cX0_list 53 = .ok (.aload_n 0, 1) := by decide +kernel
theorem dX0_list_54 : decode cX0_list 54 = .ok (.iconst 1, 1) := by decide +kernel
theorem dX0_list_55 : decode cX0_list 55 = .ok (.iload_n 2, 1) := by decide +kernel
theorem dX0_list_56 : decode cX0_list 56 = .ok (.aload_n 0, 1) := by decide +kernel
theorem dX0_list_57 : decode cX0_list 57 = .ok (.getfield 12, 3) := by decide +kernel
theorem dX0_list_60 : decode cX0_list 60 = .ok (.getfield 181, 3) := by decide +kernel
theorem dX0_list_63 : decode cX0_list 63 = .ok (.imul, 1) := by decide +kernel
theorem dX0_list_64 : decode cX0_list 64 = .ok (.iadd, 1) := by decide +kernel
theorem dX0_list_65 : decode cX0_list 65 = .ok (.iload_n 3, 1) := by decide +kernel
theorem dX0_list_66 : decode cX0_list 66 = .ok (.iadd, 1) := by decide +kernel
theorem dX0_list_67 : decode cX0_list 67 = .ok (.invokevirtual 177, 3) := by decide +kernel
theorem dX0_list_70 : decode cX0_list 70 = .ok (.iinc 3 1, 3) := by decide +kernel
theorem dX0_list_73 : decode cX0_list 73 = .ok (.goto (-48), 3) := by decide +kernel
theorem dX0_list_76 : decode cX0_list 76 = .ok (.iinc 2 1, 3) := by decide +kernel
theorem dX0_list_79 : decode cX0_list 79 = .ok (.goto (-67), 3) := by decide +kernel
theorem dX0_list_82 : decode cX0_list 82 = .ok (.aload_n 0, 1) := by decide +kernel
theorem dX0_list_83 : decode cX0_list 83 = .ok (.getfield 25, 3) := by decide +kernel
theorem dX0_list_86 : decode cX0_list 86 = .ok (.iconst 2, 1) := by decide +kernel
theorem dX0_list_87 : decode cX0_list 87 = .ok (.if_icmp .ne 7, 3) := by decide +kernel
theorem dX0_list_90 : decode cX0_list 90 = .ok (.aload_n 0, 1) := by decide +kernel
theorem dX0_list_91 : decode cX0_list 91 = .ok (.invokevirtual 190, 3) := by decide +kernel
theorem dX0_list_94 : decode cX0_list 94 = .ok (.aload_n 0, 1) := by decide +kernel
theorem dX0_list_95 : decode cX0_list 95 = .ok (.getfield 71, 3) := by decide +kernel
theorem dX0_list_98 : decode cX0_list 98 = .ok (.iconst 0, 1) := by decide +kernel
theorem dX0_list_99 : decode cX0_list 99 = .ok (.invokestatic 193, 3) := by decide +kernel
theorem dX0_list_102 : decode cX0_list 102 = .ok (.iconst 0, 1) := by decide +kernel
theorem dX0_list_103 : decode cX0_list 103 = .ok (.istore_n 2, 1) := by decide +kernel
theorem dX0_list_104 : decode cX0_list 104 = .ok (.iload_n 2, 1) := by decide +kernel
theorem dX0_list_105 : decode cX0_list 105 = .ok (.aload_n 0, 1) := by decide +kernel
theorem dX0_list_106 : decode cX0_list 106 = .ok (.getfield 171, 3) := by decide +kernel
theorem dX0_list_109 : decode cX0_list 109 = .ok (.if_icmp .ge 23, 3) := by decide +kernel
theorem dX0_list_112 : decode cX0_list 112 = .ok (.aload_n 0, 1) := by decide +kernel
theorem dX0_list_113 : decode cX0_list 113 = .ok (.getfield 71, 3) := by decide +kernel
theorem dX0_list_116 : decode cX0_list 116 = .ok (.iload_n 2, 1) := by decide +kernel
theorem dX0_list_117 : decode cX0_list 117 = .ok (.iaload, 1) := by decide +kernel
theorem dX0_list_118 : decode cX0_list 118 = .ok (.ifCond .ne 8, 3) := by decide +kernel
theorem dX0_list_121 : decode cX0_list 121 = .ok (.aload_n 0, 1) := by decide +kernel
theorem dX0_list_122 : decode cX0_list 122 = .ok (.iload_n 2, 1) := by decide +kernel
theorem dX0_list_123 : decode cX0_list 123 = .ok (.invokevirtual 199, 3) := by decide +kernel
theorem dX0_list_126 : decode cX0_list 126 = .ok (.iinc 2 1, 3) := by decide +kernel
theorem dX0_list_129 : decode cX0_list 129 = .ok (.goto (-25), 3) := by decide +kernel
theorem dX0_list_132 : decode cX0_list 132 = .ok (.aload_n 0, 1) := by decide +kernel
theorem dX0_list_133 : decode cX0_list 133 = .ok (.iconst 1, 1) := by decide +kernel
theorem dX0_list_134 : decode cX0_list 134 = .ok (.putfield 82, 3) := by decide +kernel
theorem dX0_list_137 : decode cX0_list 137 = .ok (.return_, 1) := by decide +kernel
set_option maxRecDepth 20000 in
theorem b_X0_list_0 {k n : Nat} {x : Wx} {Z : Zt} {Q : Option Value → Wx → Zt → Prop} {a0 : Nat} {a1 : Nat} (o_a0 : Is0 x a0)
    (h : ∀ Z1 : Zt, Z1 = up Z a0 14 0 → (∃ g1 : Int, (∃ g2 : List UV, (∃ g3 : UV, (KyA Z1 a0 g1 g2 ∧ (0 : Int) = kyF g1 g3 ∧ (∀ (Z'1 : Zt), (KyA Z'1 a0 g1 (g2 ++ [g3]) ∧ (∀ i : Nat, i ≠ 14 → Z'1 a0 i = Z1 a0 i) ∧ Oth Z1 Z'1 (fun b => b = a0 ∨ b = a0 + 50)) → (V mX0_list k n 12 [some (r_ a0), some (r_ a1), some (i_ 0), none] [] x Z'1 Q))))))) :
    V mX0_list k n 0 [some (r_ a0), some (r_ a1), none, none] [] x Z Q :=
  V_aload_n dX0_list_0 rfl (V_iconst dX0_list_1 (P_0_14 o_a0.1 lf_0_171 dX0_list_2 (V_nmZ (fun Z1 eZ1 => V_aload_n dX0_list_5 rfl (V_iconst dX0_list_6 (Exists.elim (h Z1 eZ1) (fun g1 w1 => Exists.elim w1 (fun g2 w2 => Exists.elim w2 (fun g3 w3 => V_callV (k' := 0) (n' := 0) (t := 0) (q := (RX0, TX0, 18)) [i_ 0] [] okX0_keep o_a0.1 rfl rfl lm_0_177 liX0_keep lqX0_keep (Nat.le_of_ble_eq_true rfl) (Nat.le_of_ble_eq_true rfl) (Nat.le_of_ble_eq_true rfl) (cat_of rfl) (Nat.le_of_ble_eq_true rfl) (Nat.zero_le _) (Nat.zero_le _) rfl dX0_list_7 (sp_X0_keep o_a0 w3.1 w3.2.1 (fun Z'1 p1 => V_iconst dX0_list_10 (V_istore_n (lv' := [some (r_ a0), some (r_ a1), some (i_ 0), none]) dX0_list_11 (Nat.le_of_ble_eq_true rfl) rfl (V_msk [true, true, true, false] rfl (w3.2.2 Z'1 p1))))))))))))))
set_option maxRecDepth 20000 in
theorem b_X0_list_12 {k n : Nat} {x : Wx} {Z : Zt} {Q : Option Value → Wx → Zt → Prop} {a0 : Nat} {a1 : Nat} {v2 : Int} {a0_field : Nat} {a0_f : Nat} (r_a0_field : x.2.1 a0 1 = some a0_field) (r_a0_f : x.2.1 a0 2 = some a0_f) (o_a0 : Is0 x a0) (o_a0_field : Is4 x a0_field) (o_a0_f : Is7 x a0_f)
    (h : Rg v2 ∧ Rg (Z a0_field 0) ∧ (((Z a0_field 0 ≤ v2) → (Rg (Z a0 3) ∧ (((Z a0 3 ≠ 2) → (V mX0_list k n 94 [some (r_ a0), none, none, none] [] x Z Q)) ∧ ((Z a0 3 = 2) → (∃ g1 : Int, (∃ g2 : Int, (∃ g3 : Nat → Int, (∃ g4 : List UV, ((a0_field + 2 < a0 ∧ a0_f + 1 < a0) ∧ CZ Z a0 a0_field a0_f g1 g2 g3 ∧ KyA Z a0 g1 g4 ∧ (∀ (Z'1 : Zt), (KyA Z'1 a0 g1 (g4 ++ lgA g1 g3 g1.toNat 0) ∧ (∀ i : Nat, i ≠ 14 → Z'1 a0 i = Z a0 i) ∧ Oth Z Z'1 (fun b => b = a0 ∨ (a0 + 6 < b ∧ b < a0 + 40) ∨ b = a0 + 50)) → (V mX0_list k n 94 [some (r_ a0), none, none, none] [] x Z'1 Q))))))))))) ∧ ((v2 < Z a0_field 0) → (V mX0_list k n 25 [some (r_ a0), some (r_ a1), some (i_ v2), some (i_ 0)] [] x Z Q)))) :
    V mX0_list k n 12 [some (r_ a0), some (r_ a1), some (i_ v2), none] [] x Z Q :=
  V_iload_n dX0_list_12 rfl (V_aload_n dX0_list_13 rfl (G_0_1 o_a0.1 r_a0_field lf_0_12 dX0_list_14 (G_4_0 o_a0_field.1 lf_0_181 dX0_list_17 (V_icmp_ge (tgt := 82) dX0_list_20 rfl h.1 h.2.1 (fun c1 => V_aload_n dX0_list_82 rfl (G_0_3 o_a0.1 lf_0_25 dX0_list_83 (V_iconst dX0_list_86 (V_icmp_ne (tgt := 94) dX0_list_87 rfl (h.2.2.1 c1).1 (rg_c rfl) (fun c2 => V_msk [true, false, false, false] rfl ((h.2.2.1 c1).2.1 c2)) (fun c2 => V_aload_n dX0_list_90 rfl (Exists.elim ((h.2.2.1 c1).2.2 c2) (fun g1 w1 => Exists.elim w1 (fun g2 w2 => Exists.elim w2 (fun g3 w3 => Exists.elim w3 (fun g4 w4 => V_callV (k' := 0) (n' := 0) (t := 0) (q := (RX0, TX0, 18)) [] [] okX0_listGreater o_a0.1 rfl rfl lm_0_190 liX0_listGreater lqX0_listGreater (Nat.le_of_ble_eq_true rfl) (Nat.le_of_ble_eq_true rfl) (Nat.le_of_ble_eq_true rfl) (cat_of rfl) (Nat.le_of_ble_eq_true rfl) (Nat.zero_le _) (Nat.zero_le _) rfl dX0_list_91 (sp_X0_listGreater r_a0_field r_a0_f o_a0 o_a0_field o_a0_f w4.1 w4.2.1 w4.2.2.1 (fun Z'1 p1 => V_msk [true, false, false, false] rfl (w4.2.2.2 Z'1 p1))))))))))))) (fun c1 => V_iconst dX0_list_23 (V_istore_n (lv' := [some (r_ a0), some (r_ a1), some (i_ v2), some (i_ 0)]) dX0_list_24 (Nat.le_of_ble_eq_true rfl) rfl (V_msk [true, true, true, true] rfl (h.2.2.2 c1))))))))
set_option maxRecDepth 20000 in
theorem b_X0_list_25 {k n : Nat} {x : Wx} {Z : Zt} {Q : Option Value → Wx → Zt → Prop} {a0 : Nat} {a1 : Nat} {v2 : Int} {v3 : Int} {a0_field : Nat} (r_a0_field : x.2.1 a0 1 = some a0_field) (o_a0 : Is0 x a0) (o_a0_field : Is4 x a0_field) (o_a1 : Is2 x a1)
    (h : Rg v3 ∧ Rg (Z a0_field 0) ∧ (((Z a0_field 0 ≤ v3) → (V mX0_list k n 12 [some (r_ a0), some (r_ a1), some (i_ (v2 + 1)), none] [] x Z Q)) ∧ ((v3 < Z a0_field 0) → (Rg (-v2) ∧ 2 ≤ Z a0_field 0 ∧ Z a0_field 0 ≤ 13 ∧ (∃ g1 : List (Int × Int), (Rg ((-v2) % Z a0_field 0) ∧ Rg v3 ∧ PtA Z a1 g1 ∧ PtR g1 ∧ (Rg (ptN g1 ((-v2) % Z a0_field 0) v3) ∧ (((ptN g1 ((-v2) % Z a0_field 0) v3 < 0) → (V mX0_list k n 70 [some (r_ a0), some (r_ a1), some (i_ v2), some (i_ v3)] [] x Z Q)) ∧ ((0 ≤ ptN g1 ((-v2) % Z a0_field 0) v3) → (∃ g2 : Int, (∃ g3 : List UV, (∃ g4 : UV, (KyA Z a0 g2 g3 ∧ ((1 + (v2 * (Z a0_field 0))) + v3) = kyF g2 g4 ∧ (∀ (Z'1 : Zt), (KyA Z'1 a0 g2 (g3 ++ [g4]) ∧ (∀ i : Nat, i ≠ 14 → Z'1 a0 i = Z a0 i) ∧ Oth Z Z'1 (fun b => b = a0 ∨ b = a0 + 50)) → (V mX0_list k n 70 [some (r_ a0), some (r_ a1), some (i_ v2), some (i_ v3)] [] x Z'1 Q))))))))))))))) :
    V mX0_list k n 25 [some (r_ a0), some (r_ a1), some (i_ v2), some (i_ v3)] [] x Z Q :=
  V_iload_n dX0_list_25 rfl (V_aload_n dX0_list_26 rfl (G_0_1 o_a0.1 r_a0_field lf_0_12 dX0_list_27 (G_4_0 o_a0_field.1 lf_0_181 dX0_list_30 (V_icmp_ge (tgt := 76) dX0_list_33 rfl h.1 h.2.1 (fun c1 => V_iinc (lv' := [some (r_ a0), some (r_ a1), some (i_ (v2 + 1)), some (i_ v3)]) dX0_list_76 rfl (Nat.le_of_ble_eq_true rfl) rfl (V_goto (tgt := 12) dX0_list_79 rfl (V_msk [true, true, true, false] rfl (h.2.2.1 c1)))) (fun c1 => V_aload_n dX0_list_36 rfl (V_aload_n dX0_list_37 rfl (G_0_1 o_a0.1 r_a0_field lf_0_12 dX0_list_38 (V_iload_n dX0_list_41 rfl (V_ineg dX0_list_42 (V_callV (k' := 0) (n' := 0) (t := 4) (q := (RX4, TX4, 4)) [i_ (-v2)] [r_ a1] okX4_rem o_a0_field.1 rfl rfl lm_0_184 liX4_rem lqX4_rem (Nat.le_of_ble_eq_true rfl) (Nat.le_of_ble_eq_true rfl) (Nat.le_of_ble_eq_true rfl) (cat_of rfl) (Nat.le_of_ble_eq_true rfl) (Nat.zero_le _) (Nat.zero_le _) rfl dX0_list_43 (sp_X4_rem o_a0_field (h.2.2.2 c1).1 (h.2.2.2 c1).2.1 (h.2.2.2 c1).2.2.1 (V_iload_n dX0_list_46 rfl (Exists.elim (h.2.2.2 c1).2.2.2 (fun g1 w1 => V_callV (k' := 0) (n' := 0) (t := 2) (q := (RX2, TX2, 17)) [i_ ((-v2) % Z a0_field 0), i_ v3] [] okX2_pointAt o_a1.1 rfl rfl lm_0_187 liX2_pointAt lqX2_pointAt (Nat.le_of_ble_eq_true rfl) (Nat.le_of_ble_eq_true rfl) (Nat.le_of_ble_eq_true rfl) (cat_of rfl) (Nat.le_of_ble_eq_true rfl) (Nat.zero_le _) (Nat.zero_le _) rfl dX0_list_47 (sp_X2_pointAt o_a1 w1.1 w1.2.1 w1.2.2.1 w1.2.2.2.1 (V_if_lt (tgt := 70) dX0_list_50 rfl w1.2.2.2.2.1 (fun c2 => V_msk [true, true, true, true] rfl (w1.2.2.2.2.2.1 c2)) (fun c2 => V_aload_n dX0_list_53 rfl (V_iconst dX0_list_54 (V_iload_n dX0_list_55 rfl (V_aload_n dX0_list_56 rfl (G_0_1 o_a0.1 r_a0_field lf_0_12 dX0_list_57 (G_4_0 o_a0_field.1 lf_0_181 dX0_list_60 (V_imul dX0_list_63 (V_iadd dX0_list_64 (V_iload_n dX0_list_65 rfl (V_iadd dX0_list_66 (Exists.elim (w1.2.2.2.2.2.2 c2) (fun g2 w2 => Exists.elim w2 (fun g3 w3 => Exists.elim w3 (fun g4 w4 => V_callV (k' := 0) (n' := 0) (t := 0) (q := (RX0, TX0, 18)) [i_ ((1 + (v2 * (Z a0_field 0))) + v3)] [] okX0_keep o_a0.1 rfl rfl lm_0_177 liX0_keep lqX0_keep (Nat.le_of_ble_eq_true rfl) (Nat.le_of_ble_eq_true rfl) (Nat.le_of_ble_eq_true rfl) (cat_of rfl) (Nat.le_of_ble_eq_true rfl) (Nat.zero_le _) (Nat.zero_le _) rfl dX0_list_67 (sp_X0_keep o_a0 w4.1 w4.2.1 (fun Z'1 p1 => V_msk [true, true, true, true] rfl (w4.2.2 Z'1 p1)))))))))))))))))))))))))))))))))
set_option maxRecDepth 20000 in
theorem b_X0_list_70 {k n : Nat} {x : Wx} {Z : Zt} {Q : Option Value → Wx → Zt → Prop} {a0 : Nat} {a1 : Nat} {v2 : Int} {v3 : Int} 
    (h : V mX0_list k n 25 [some (r_ a0), some (r_ a1), some (i_ v2), some (i_ (v3 + 1))] [] x Z Q) :
    V mX0_list k n 70 [some (r_ a0), some (r_ a1), some (i_ v2), some (i_ v3)] [] x Z Q :=
  V_iinc (lv' := [some (r_ a0), some (r_ a1), some (i_ v2), some (i_ (v3 + 1))]) dX0_list_70 rfl (Nat.le_of_ble_eq_true rfl) rfl (V_goto (tgt := 25) dX0_list_73 rfl (V_msk [true, true, true, true] rfl h))
set_option maxRecDepth 20000 in
theorem b_X0_list_94 {k n : Nat} {x : Wx} {Z : Zt} {Q : Option Value → Wx → Zt → Prop} {a0 : Nat} (o_a0 : Is0 x a0)
    (h : ∀ Z1 : Zt, Z1 = fillZ Z (a0 + 51) 450 (0 : Int) → (V mX0_list k n 104 [some (r_ a0), none, some (i_ 0), none] [] x Z1 Q)) :
    V mX0_list k n 94 [some (r_ a0), none, none, none] [] x Z Q :=
  V_aload_n dX0_list_94 rfl (G_0_16 o_a0.1 o_a0.2.2.2.2.2.2.2.2.2.2.2.2.2.2.2.2.2.2.2.2.2.2.2.1 lf_0_71 dX0_list_95 (V_iconst dX0_list_98 (V_callS (k' := 0) (n' := 0) [r_ (a0 + 51), i_ 0] [] okJ7_fill_53178 lm_0_193 lsJ7_fill_53178 (Nat.le_of_ble_eq_true rfl) (Nat.le_of_ble_eq_true rfl) (Nat.le_of_ble_eq_true rfl) (cat_of rfl) (Nat.le_of_ble_eq_true rfl) (Nat.zero_le _) (Nat.zero_le _) rfl dX0_list_99 (sp_J7_fill_53178 o_a0.2.2.2.2.2.2.2.2.2.2.2.2.2.2.2.2.2.2.2.2.2.2.2.2.1 (Nat.le_of_ble_eq_true rfl)  (V_nmZ (fun Z1 eZ1 => V_iconst dX0_list_102 (V_istore_n (lv' := [some (r_ a0), none, some (i_ 0), none]) dX0_list_103 (Nat.le_of_ble_eq_true rfl) rfl (V_msk [true, false, true, false] rfl (h Z1 eZ1)))))))))
set_option maxRecDepth 20000 in
theorem b_X0_list_104 {k n : Nat} {x : Wx} {Z : Zt} {Q : Option Value → Wx → Zt → Prop} {a0 : Nat} {v2 : Int} {a0_field : Nat} {a0_f : Nat} (r_a0_field : x.2.1 a0 1 = some a0_field) (r_a0_f : x.2.1 a0 2 = some a0_f) (o_a0 : Is0 x a0) (o_a0_field : Is4 x a0_field) (o_a0_f : Is7 x a0_f)
    (h : Rg v2 ∧ Rg (Z a0 14) ∧ (((Z a0 14 ≤ v2) → (∀ Z1 : Zt, Z1 = up Z a0 0 1 → (Q none x Z1))) ∧ ((v2 < Z a0 14) → (0 ≤ v2 ∧ v2 < 450 ∧ (Rg (Z (a0 + 51) v2.toNat) ∧ (((Z (a0 + 51) v2.toNat ≠ 0) → (V mX0_list k n 126 [some (r_ a0), none, some (i_ v2), none] [] x Z Q)) ∧ ((Z (a0 + 51) v2.toNat = 0) → (∃ g1 : Int, (∃ g2 : Int, (∃ g3 : Nat → Int, (∃ g4 : List UV, ((a0_field + 2 < a0 ∧ a0_f + 1 < a0) ∧ CZ Z a0 a0_field a0_f g1 g2 g3 ∧ KyA Z a0 g1 g4 ∧ (∀ i : Nat, i < min g4.length 450 → RP g1 g2 (g4.getD i czero)) ∧ (0 ≤ v2 ∧ v2 < ((min g4.length 450 : Nat) : Int)) ∧ (∀ (Z'1 : Zt), ((∀ i : Nat, i < 450 → Z'1 (a0 + 51) i = wkA g1 g3 g2 (g4.getD (Int.toNat v2) czero) g4 (Z (a0 + 51)) i) ∧ Oth Z Z'1 (fun q => a0 + 6 < q ∧ q < a0 + 53 ∧ q ≠ a0 + 50)) → (V mX0_list k n 126 [some (r_ a0), none, some (i_ v2), none] [] x Z'1 Q)))))))))))))) :
    V mX0_list k n 104 [some (r_ a0), none, some (i_ v2), none] [] x Z Q :=
  V_iload_n dX0_list_104 rfl (V_aload_n dX0_list_105 rfl (G_0_14 o_a0.1 lf_0_171 dX0_list_106 (V_icmp_ge (tgt := 132) dX0_list_109 rfl h.1 h.2.1 (fun c1 => V_aload_n dX0_list_132 rfl (V_iconst dX0_list_133 (P_0_0 o_a0.1 lf_0_82 (Or.inr rfl) dX0_list_134 (V_nmZ (fun Z1 eZ1 => V_ret dX0_list_137 rfl ((h.2.2.1 c1) Z1 eZ1)))))) (fun c1 => V_aload_n dX0_list_112 rfl (G_0_16 o_a0.1 o_a0.2.2.2.2.2.2.2.2.2.2.2.2.2.2.2.2.2.2.2.2.2.2.2.1 lf_0_71 dX0_list_113 (V_iload_n dX0_list_116 rfl (V_iald (t := 100) o_a0.2.2.2.2.2.2.2.2.2.2.2.2.2.2.2.2.2.2.2.2.2.2.2.2.1 (by decide) rfl (h.2.2.2 c1).1 (h.2.2.2 c1).2.1 (Nat.le_of_ble_eq_true rfl) dX0_list_117 (V_if_ne (tgt := 126) dX0_list_118 rfl (h.2.2.2 c1).2.2.1 (fun c2 => V_msk [true, false, true, false] rfl ((h.2.2.2 c1).2.2.2.1 c2)) (fun c2 => V_aload_n dX0_list_121 rfl (V_iload_n dX0_list_122 rfl (Exists.elim ((h.2.2.2 c1).2.2.2.2 c2) (fun g1 w1 => Exists.elim w1 (fun g2 w2 => Exists.elim w2 (fun g3 w3 => Exists.elim w3 (fun g4 w4 => V_callV (k' := 0) (n' := 0) (t := 0) (q := (RX0, TX0, 18)) [i_ v2] [] okX0_walkFrom o_a0.1 rfl rfl lm_0_199 liX0_walkFrom lqX0_walkFrom (Nat.le_of_ble_eq_true rfl) (Nat.le_of_ble_eq_true rfl) (Nat.le_of_ble_eq_true rfl) (cat_of rfl) (Nat.le_of_ble_eq_true rfl) (Nat.zero_le _) (Nat.zero_le _) rfl dX0_list_123 (sp_X0_walkFrom r_a0_field r_a0_f o_a0 o_a0_field o_a0_f w4.1 w4.2.1 w4.2.2.1 w4.2.2.2.1 w4.2.2.2.2.1 (fun Z'1 p1 => V_msk [true, false, true, false] rfl (w4.2.2.2.2.2 Z'1 p1))))))))))))))))))
set_option maxRecDepth 20000 in
theorem b_X0_list_126 {k n : Nat} {x : Wx} {Z : Zt} {Q : Option Value → Wx → Zt → Prop} {a0 : Nat} {v2 : Int} 
    (h : V mX0_list k n 104 [some (r_ a0), none, some (i_ (v2 + 1)), none] [] x Z Q) :
    V mX0_list k n 126 [some (r_ a0), none, some (i_ v2), none] [] x Z Q :=
  V_iinc (lv' := [some (r_ a0), none, some (i_ (v2 + 1)), none]) dX0_list_126 rfl (Nat.le_of_ble_eq_true rfl) rfl (V_goto (tgt := 104) dX0_list_129 rfl (V_msk [true, false, true, false] rfl h))
def l1Y (p : Int) (F : Nat → Int) (u : Nat) : Nat → Nat → List UV
  | 0, _ => []
  | m + 1, v => (if 0 ≤ ptN (pall p F) ((-(u : Int)) % p) v then [uv1 u v] else []) ++ l1Y p F u m (v + 1)
def l1X (p : Int) (F : Nat → Int) : Nat → Nat → List UV
  | 0, _ => []
  | m + 1, u => l1Y p F u p.toNat 0 ++ l1X p F m (u + 1)
/-- all CLASSES in the order of their keys -/
def clsL (p : Int) (F : Nat → Int) (g : Int) : List UV := [czero] ++ l1X p F p.toNat 0 ++ (if g = 2 then lgA p F p.toNat 0 else [])
def AllP (p g : Int) (L : List UV) : Prop := ∀ A : UV, A ∈ L → RP p g A
theorem AllP.ap {p g : Int} {L M : List UV} (h1 : AllP p g L) (h2 : AllP p g M) : AllP p g (L ++ M) := fun A hA => (List.mem_append.mp hA).elim (h1 A) (h2 A)
theorem AllP.nil {p g : Int} : AllP p g [] := fun A hA => by cases hA
theorem AllP.one {p g : Int} {A : UV} (h : RP p g A) : AllP p g [A] := fun B hB => by rw [List.mem_singleton.mp hB]; exact h
theorem AllP.iff {p g : Int} {c : Prop} [Decidable c] {L : List UV} (h : AllP p g L) : AllP p g (if c then L else []) := by
  split
  · exact h
  · exact AllP.nil
theorem AllP.at {p g : Int} {L : List UV} (h : AllP p g L) {i : Nat} (hi : i < L.length) : RP p g (L.getD i czero) := by
  rw [List.getD_eq_getElem?_getD, List.getElem?_eq_getElem hi]
  exact h _ (List.getElem_mem hi)
theorem kr1_ok {p u0 u1 : Int} (hp : IsP p) (f0 : Int) (h0 : 0 ≤ u0 ∧ u0 < p) (h1 : 0 ≤ u1 ∧ u1 < p) : ∀ m v : Nat, v + m ≤ p.toNat → AllP p 2 (kr1 p f0 u0 u1 m v)
  | 0, _, _ => AllP.nil
  | m + 1, v, hv => AllP.ap (AllP.iff (AllP.one (uv2_ok hp h0 h1 (by have := hp.rg; omega) (by have := hp.rg; omega)).1)) (kr1_ok hp f0 h0 h1 m (v + 1) (by omega))
theorem kr2_ok {p u0 u1 : Int} (hp : IsP p) (f0 f1 : Int) (h0 : 0 ≤ u0 ∧ u0 < p) (h1 : 0 ≤ u1 ∧ u1 < p) : ∀ m v : Nat, v + m ≤ p.toNat → AllP p 2 (kr2 p f0 f1 u0 u1 m v)
  | 0, _, _ => AllP.nil
  | m + 1, v, hv => AllP.ap (AllP.iff (AllP.one (uv2_ok hp h0 h1 (emr _ (by have := hp.rg; omega)) (by have := hp.rg; omega)).1)) (kr2_ok hp f0 f1 h0 h1 m (v + 1) (by omega))
theorem krA_ok {p u0 u1 : Int} (hp : IsP p) (f0 f1 : Int) (h0 : 0 ≤ u0 ∧ u0 < p) (h1 : 0 ≤ u1 ∧ u1 < p) : AllP p 2 (krA p f0 f1 u0 u1) := AllP.ap (AllP.iff (kr1_ok hp f0 h0 h1 _ _ (by omega))) (kr2_ok hp f0 f1 h0 h1 _ _ (by have := hp.rg; omega))
theorem lgX_ok {p : Int} (hp : IsP p) (F : Nat → Int) {u0 : Nat} (h0 : u0 < p.toNat) : ∀ m u : Nat, u + m ≤ p.toNat → AllP p 2 (lgX p F u0 m u)
  | 0, _, _ => AllP.nil
  | m + 1, u, hu => AllP.ap (krA_ok hp _ _ (by omega) (by omega)) (lgX_ok hp F h0 m (u + 1) (by omega))
theorem lgA_ok {p : Int} (hp : IsP p) (F : Nat → Int) : ∀ m u : Nat, u + m ≤ p.toNat → AllP p 2 (lgA p F m u)
  | 0, _, _ => AllP.nil
  | m + 1, u, hu => AllP.ap (lgX_ok hp F (by omega) _ _ (by omega)) (lgA_ok hp F m (u + 1) (by omega))
theorem l1Y_ok {p g : Int} (hp : IsP p) (hg : 1 ≤ g) (F : Nat → Int) {u : Nat} (hu : u < p.toNat) : ∀ m v : Nat, v + m ≤ p.toNat → AllP p g (l1Y p F u m v)
  | 0, _, _ => AllP.nil
  | m + 1, v, hv => AllP.ap (AllP.iff (AllP.one (uv1_ok hp hg (by omega) (by omega)).1)) (l1Y_ok hp hg F hu m (v + 1) (by omega))
theorem l1X_ok {p g : Int} (hp : IsP p) (hg : 1 ≤ g) (F : Nat → Int) : ∀ m u : Nat, u + m ≤ p.toNat → AllP p g (l1X p F m u)
  | 0, _, _ => AllP.nil
  | m + 1, u, hu => AllP.ap (l1Y_ok hp hg F (by omega) _ _ (by omega)) (l1X_ok hp hg F m (u + 1) (by omega))
theorem clsL_ok {p g : Int} {F : Nat → Int} (hC : CF p g F) : AllP p g (clsL p F g) := by
  have hp := hC.1
  have hg := hC.2.2.2.2
  have h1 : 1 ≤ g := by omega
  refine AllP.ap (AllP.ap (AllP.one (mulN_ok (P := uv1 0 0) hC (uv1_ok hp h1 (by have := hp.rg; omega) (by have := hp.rg; omega)).1 0)) (l1X_ok hp h1 F _ _ (by omega))) ?_
  by_cases c : g = 2
  · rw [if_pos c, c]; exact lgA_ok hp F _ _ (by omega)
  · rw [if_neg c]; exact AllP.nil
/-- the ORDERS of the classes, as they are found -/
def orA (p : Int) (F : Nat → Int) (g : Int) (L : List UV) : Nat → Nat → Int
  | 0 => fun _ => 0
  | i + 1 => if orA p F g L i i = 0 then wkA p F g (L.getD i czero) L (orA p F g L i) else orA p F g L i
theorem wkO_ext {p : Int} {F : Nat → Int} {g : Int} {P : UV} {K : Nat → Int} {N n : Nat} {O O' : Nat → Int} {q : Nat} (h : O q = O' q) : ∀ k : Nat, wkO p F g P K N n k O q = wkO p F g P K N n k O' q
  | 0 => h
  | k + 1 => by
    unfold wkO
    by_cases c : 0 ≤ wkT p F g P K N k
    · rw [if_pos c, if_pos c]; unfold upf; rw [wkO_ext h k]
    · rw [if_neg c, if_neg c]; exact wkO_ext h k
theorem wkO_rg {p : Int} {F : Nat → Int} {g : Int} {P : UV} {K : Nat → Int} {N n : Nat} (hn : n ≤ 450) {O : Nat → Int} (h : ∀ q : Nat, 0 ≤ O q ∧ O q ≤ 1000) : ∀ k : Nat, k ≤ 450 → ∀ q : Nat, 0 ≤ wkO p F g P K N n k O q ∧ wkO p F g P K N n k O q ≤ 1000
  | 0, _, q => h q
  | k + 1, hk, q => by
    unfold wkO
    by_cases c : 0 ≤ wkT p F g P K N k
    · rw [if_pos c]
      unfold upf
      split
      · have hg := gcdF_rg 450 (n : Int) (k : Int) (by omega) (by omega) (by omega) (by omega)
        have h1 : 0 ≤ (n : Int) / gcdF 450 n k := Int.ediv_nonneg (by omega) (by omega)
        have h2 : (n : Int) / gcdF 450 n k ≤ n := Int.ediv_le_self _ (by omega)
        omega
      · exact wkO_rg hn h k (by omega) q
    · rw [if_neg c]; exact wkO_rg hn h k (by omega) q
theorem orA_rg (p : Int) (F : Nat → Int) (g : Int) (L : List UV) : ∀ i q : Nat, 0 ≤ orA p F g L i q ∧ orA p F g L i q ≤ 1000
  | 0, q => ⟨by show (0 : Int) ≤ 0; decide, by show (0 : Int) ≤ 1000; decide⟩
  | i + 1, q => by
    unfold orA
    split
    · have hw := wkN_rg p F g (L.getD i czero) (min L.length 450) (min L.length 450) 0
      exact wkO_rg (by omega) (orA_rg p F g L i) _ (by omega) q
    · exact orA_rg p F g L i q
/-- all classes are listed at a -/
def LsA (Z : Zt) (a : Nat) (p : Int) (F : Nat → Int) (g : Int) : Prop := KyA Z a p (clsL p F g) ∧ ∀ i : Nat, i < 450 → Z (a + 51) i = orA p F g (clsL p F g) (min (clsL p F g).length 450) i
theorem sp_X0_list {k n : Nat} {x : Wx} {Z : Zt} {Q : Option Value → Wx → Zt → Prop} {a c fl ff : Nat} (r1 : x.2.1 a 1 = some fl) (r2 : x.2.1 a 2 = some ff) (o : Is0 x a) (oc : Is2 x c) (ofl : Is4 x fl) (off : Is7 x ff) {p g : Int} {F : Nat → Int} (hl : fl + 2 < a ∧ ff + 1 < a) (hca : c + 16 ≤ a) (hZ : CZ Z a fl ff p g F) (hPt : PtA Z c (pall p F)) (h : ∀ Z' : Zt, (LsA Z' a p F g ∧ Z' a 0 = 1 ∧ (∀ i : Nat, i ≠ 0 → i ≠ 14 → Z' a i = Z a i) ∧ Oth Z Z' (fun b => b = a ∨ (a + 6 < b ∧ b < a + 53))) → Q none x Z') : V mX0_list k n 0 [some (r_ a), some (r_ c), none, none] [] x Z Q := by
  have hC := hZ.1
  have hp := hC.1
  have hpr := hp.rg
  have hg := hC.2.2.2.2
  have hP : ((p.toNat : Nat) : Int) = p := by omega
  have hPr := pall_rg hp F
  have hAll := clsL_ok hC
  have hX : CX x a fl ff := ⟨r1, r2, o, ofl, off, hl.1, hl.2⟩
  unfold LsA at h
  have hdef : clsL p F g = [czero] ++ l1X p F p.toNat 0 ++ (if g = 2 then lgA p F p.toNat 0 else []) := rfl
  generalize hLd : clsL p F g = L at h hAll hdef
  obtain ⟨N, hN⟩ : ∃ N : Nat, min L.length 450 = N := ⟨_, rfl⟩
  rw [hN] at h
  have cz : ∀ Z1 : Zt, (∀ i : Nat, i ≠ 0 → i ≠ 14 → Z1 a i = Z a i) → Oth Z Z1 (fun b => b = a ∨ (a + 6 < b ∧ b < a + 53)) → CZ Z1 a fl ff p g F := fun Z1 h1 h2 => ⟨hC, hZ.2.1.kept h2 (by omega) (by omega), hZ.2.2.1.kept h2 (by omega) (by omega) (by omega), by rw [h1 3 (by decide) (by decide)]; exact hZ.2.2.2⟩
  have lp3 : ∀ (m i : Nat) (w : Int) (Z1 : Zt), w = i → i + m = N → KyA Z1 a p L → (∀ q : Nat, q < 450 → Z1 (a + 51) q = orA p F g L i q) → (∀ i : Nat, i ≠ 0 → i ≠ 14 → Z1 a i = Z a i) → Oth Z Z1 (fun b => b = a ∨ (a + 6 < b ∧ b < a + 53)) → V mX0_list k n 104 [some (r_ a), none, some (i_ w), none] [] x Z1 Q := by
    intro m
    induction m with
    | zero =>
      intro i w Z1 hw hi hk hO ha ho
      have hk1 := hk.1
      rw [hN] at hk1
      refine b_X0_list_104 r1 r2 o ofl off ?_
      rw [hk1]
      refine ⟨⟨by omega, by omega⟩, ⟨by omega, by omega⟩, fun _ Z2 e2 => h Z2 ⟨⟨⟨?_, fun j hj => ?_⟩, fun j hj => ?_⟩, ?_, fun j h1 h2 => ?_, fun b hb => ?_⟩, fun c2 => by omega⟩
      · rw [e2, up_at, if_neg (by decide)]; exact hk.1
      · rw [e2, up_row _ _ _ _ _ (by omega)]; exact hk.2 j hj
      · rw [e2, up_row _ _ _ _ _ (by omega), hO j hj, show i = N by omega]
      · rw [e2, up_at, if_pos rfl]
      · rw [e2, up_at, if_neg h1]; exact ha j h1 h2
      · rw [e2, up_row _ _ _ _ _ (by omega)]; exact ho b hb
    | succ m ih =>
      intro i w Z1 hw hi hk hO ha ho
      have hk1 := hk.1
      rw [hN] at hk1
      have hor := orA_rg p F g L i i
      have hs : orA p F g L (i + 1) = if orA p F g L i i = 0 then wkA p F g (L.getD i czero) L (orA p F g L i) else orA p F g L i := rfl
      refine b_X0_list_104 r1 r2 o ofl off ?_
      rw [hk1, show w.toNat = i by omega, hO i (by omega)]
      refine ⟨⟨by omega, by omega⟩, ⟨by omega, by omega⟩, fun c2 => by omega, fun _ => ⟨by omega, by omega, ⟨by omega, by omega⟩, fun c3 => b_X0_list_126 (ih (i + 1) (w + 1) Z1 (by omega) (by omega) hk ?_ ha ho), fun c3 => ⟨p, g, F, L, hl, cz Z1 ha ho, hk, fun j hj => hAll.at (by omega), ⟨by omega, by rw [hN]; omega⟩, fun Z2 hz2 => b_X0_list_126 (ih (i + 1) (w + 1) Z2 (by omega) (by omega) (hk.kept (hz2.2 a (by omega)) (hz2.2 _ (by omega))) (fun q hq => ?_) (fun j h1 h2 => by rw [hz2.2 a (by omega)]; exact ha j h1 h2) (fun b hb => ?_))⟩⟩⟩
      · rw [hs, if_neg c3]; exact hO
      · rw [hs, if_pos c3, hz2.1 q hq]
        exact wkO_ext (hO q hq) _
      · rw [hz2.2 b (by omega)]; exact ho b hb
  have st94 : ∀ Z1 : Zt, KyA Z1 a p L → (∀ i : Nat, i ≠ 0 → i ≠ 14 → Z1 a i = Z a i) → Oth Z Z1 (fun b => b = a ∨ (a + 6 < b ∧ b < a + 53)) → V mX0_list k n 94 [some (r_ a), none, none, none] [] x Z1 Q := fun Z1 hk ha ho => by
    refine b_X0_list_94 o fun Z2 e2 => lp3 N 0 0 Z2 rfl (by omega) (hk.kept (by rw [e2]; exact fill_row _ _ _ _ _ (by omega)) (by rw [e2]; exact fill_row _ _ _ _ _ (by omega))) (fun q hq => ?_) (fun j h1 h2 => ?_) (fun b hb => ?_)
    · rw [e2, fill_at _ _ _ _ hq]; rfl
    · rw [e2, fill_row _ _ _ _ _ (by omega)]; exact ha j h1 h2
    · rw [e2, fill_row _ _ _ _ _ (by omega)]; exact ho b hb
  have lp1 : ∀ (m u : Nat) (w : Int) (M : List UV) (Z1 : Zt), w = u → u + m = p.toNat → M ++ l1X p F m u = [czero] ++ l1X p F p.toNat 0 → KyA Z1 a p M → (∀ i : Nat, i ≠ 0 → i ≠ 14 → Z1 a i = Z a i) → Oth Z Z1 (fun b => b = a ∨ (a + 6 < b ∧ b < a + 53)) → V mX0_list k n 12 [some (r_ a), some (r_ c), some (i_ w), none] [] x Z1 Q := by
    intro m
    induction m with
    | zero =>
      intro u w M Z1 hw hm he hk ha ho
      have he' : M = [czero] ++ l1X p F p.toNat 0 := by rw [← he]; exact (List.append_nil M).symm
      have hcz := cz Z1 ha ho
      refine b_X0_list_12 r1 r2 o ofl off ?_
      rw [hcz.2.2.1.1, hcz.2.2.2]
      refine ⟨⟨by omega, by omega⟩, ⟨by omega, by omega⟩, fun _ => ⟨⟨by omega, by omega⟩, fun c2 => st94 Z1 ?_ ha ho, fun c2 => ⟨p, g, F, M, hl, hcz, hk, fun Z2 hz2 => st94 Z2 ?_ (fun j h1 h2 => by rw [hz2.2.1 j h2]; exact ha j h1 h2) (fun b hb => ?_)⟩⟩, fun c2 => by omega⟩
      · rw [hdef, if_neg c2, List.append_nil, ← he']; exact hk
      · rw [hdef, if_pos c2, ← he']; exact hz2.1
      · rw [hz2.2.2 b (by omega)]; exact ho b hb
    | succ m ih =>
      intro u w M Z1 hw hm he hk ha ho
      have he' : M ++ (l1Y p F u p.toNat 0 ++ l1X p F m (u + 1)) = [czero] ++ l1X p F p.toNat 0 := he
      have lp2 : ∀ (m2 v : Nat) (y : Int) (M2 : List UV) (Z2 : Zt), y = v → v + m2 = p.toNat → M2 ++ l1Y p F u m2 v = M ++ l1Y p F u p.toNat 0 → KyA Z2 a p M2 → (∀ i : Nat, i ≠ 0 → i ≠ 14 → Z2 a i = Z a i) → Oth Z Z2 (fun b => b = a ∨ (a + 6 < b ∧ b < a + 53)) → V mX0_list k n 25 [some (r_ a), some (r_ c), some (i_ w), some (i_ y)] [] x Z2 Q := by
        intro m2
        induction m2 with
        | zero =>
          intro v y M2 Z2 hy hm2 he2 hk2 ha2 ho2
          have he3 : M2 = M ++ l1Y p F u p.toNat 0 := by rw [← he2]; exact (List.append_nil M2).symm
          have hcz := cz Z2 ha2 ho2
          refine b_X0_list_25 r1 o ofl oc ?_
          rw [hcz.2.2.1.1]
          refine ⟨⟨by omega, by omega⟩, ⟨by omega, by omega⟩, fun _ => ih (u + 1) (w + 1) M2 Z2 (by omega) (by omega) ?_ hk2 ha2 ho2, fun c2 => by omega⟩
          rw [he3, List.append_assoc]; exact he'
        | succ m2 ih2 =>
          intro v y M2 Z2 hy hm2 he2 hk2 ha2 ho2
          have he3 : M2 ++ ((if 0 ≤ ptN (pall p F) ((-(u : Int)) % p) v then [uv1 u v] else []) ++ l1Y p F u m2 (v + 1)) = M ++ l1Y p F u p.toNat 0 := he2
          have hcz := cz Z2 ha2 ho2
          have hPt2 : PtA Z2 c (pall p F) := by
            unfold PtA; rw [ho2 c (by omega), ho2 (c + 6) (by omega), ho2 (c + 7) (by omega)]; exact hPt
          have hmr := emr (-(u : Int)) (p := p) (by omega)
          have hpk := pAt_rg (pall p F) ((-(u : Int)) % p) v (pall p F).length 0
          have hpk' : -1 ≤ ptN (pall p F) ((-(u : Int)) % p) v ∧ ptN (pall p F) ((-(u : Int)) % p) v < (0 + (pall p F).length : Nat) := ⟨hpk.1, hpk.2.1⟩
          have hl27 := hPr.1
          refine b_X0_list_25 r1 o ofl oc ?_
          rw [hcz.2.2.1.1, hw, hy]
          refine ⟨⟨by omega, by omega⟩, ⟨by omega, by omega⟩, fun c2 => by omega, fun _ => ⟨⟨by omega, by omega⟩, by omega, by omega, pall p F, ⟨by omega, by omega⟩, ⟨by omega, by omega⟩, hPt2, hPr, ⟨by omega, by omega⟩, fun c3 => b_X0_list_70 (by rw [← hw]; exact ih2 (v + 1) _ M2 Z2 (by omega) (by omega) (by rw [if_neg (by omega)] at he3; exact he3) hk2 ha2 ho2), fun c3 => ⟨p, M2, uv1 u v, hk2, ?_, fun Z3 hz3 => b_X0_list_70 (by rw [← hw]; exact ih2 (v + 1) _ (M2 ++ [uv1 u v]) Z3 (by omega) (by omega) (by rw [if_pos c3] at he3; rw [List.append_assoc]; exact he3) hz3.1 (fun j h1 h2 => (hz3.2.1 j h2).trans (ha2 j h1 h2)) (fun b hb => by rw [hz3.2.2 b (by omega)]; exact ho2 b hb))⟩⟩⟩
          rw [ky_uv1 hp (g := 1) (by decide) (by omega) (by omega)]
      have hcz := cz Z1 ha ho
      refine b_X0_list_12 r1 r2 o ofl off ?_
      rw [hcz.2.2.1.1]
      exact ⟨⟨by omega, by omega⟩, ⟨by omega, by omega⟩, fun c2 => by omega, fun _ => lp2 p.toNat 0 0 M Z1 rfl (by omega) rfl hk ha ho⟩
  refine b_X0_list_0 o fun Z1 e1 => ⟨p, [], czero, ⟨?_, fun i hi => ?_⟩, (ky_0 p).symm, fun Z2 hz2 => lp1 p.toNat 0 0 [czero] Z2 rfl (by omega) rfl hz2.1 (fun j h1 h2 => ?_) (fun b hb => ?_)⟩
  · rw [e1, up_at, if_pos rfl]; rfl
  · exact absurd hi (by show ¬ i < min 0 450; omega)
  · rw [hz2.2.1 j h2, e1, up_at, if_neg h2]
  · rw [hz2.2.2 b (by omega), e1, up_row _ _ _ _ _ (by omega)]
