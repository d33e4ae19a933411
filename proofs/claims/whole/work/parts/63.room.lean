theorem dX11_areFitting_0 : decode cX11_areFitting 0 = .ok (.aload_n 0, 1) := by decide +kernel
theorem dX11_areFitting_1 : decode cX11_areFitting 1 = .ok (.iload_n 1, 1) := by decide +kernel
theorem dX11_areFitting_2 : decode cX11_areFitting 2 = .ok (.iload_n 2, 1) := by decide +kernel
theorem dX11_areFitting_3 : decode cX11_areFitting 3 = .ok (.invokevirtual 206, 3) := by decide +kernel
theorem dX11_areFitting_6 : decode cX11_areFitting 6 = .ok (.ifCond .eq 16, 3) := by decide +kernel
theorem dX11_areFitting_9 : decode cX11_areFitting 9 = .ok (.aload_n 0, 1) := by decide +kernel
theorem dX11_areFitting_10 : decode cX11_areFitting 10 = .ok (.iload_n 1, 1) := by decide +kernel
theorem dX11_areFitting_11 : decode cX11_areFitting 11 = .ok (.iload_n 3, 1) := by decide +kernel
theorem dX11_areFitting_12 : decode cX11_areFitting 12 = .ok (.invokevirtual 206, 3) := by decide +kernel
theorem dX11_areFitting_15 : decode cX11_areFitting 15 = .ok (.ifCond .eq 7, 3) := by decide +kernel
theorem dX11_areFitting_18 : decode cX11_areFitting 18 = .ok (.iconst 1, 1) := by decide +kernel
theorem dX11_areFitting_19 : decode cX11_areFitting 19 = .ok (.goto 4, 3) := by decide +kernel
theorem dX11_areFitting_22 : decode cX11_areFitting 22 = .ok (.iconst 0, 1) := by decide +kernel
theorem dX11_areFitting_23 : decode cX11_areFitting 23 = .ok (.ireturn, 1) := by decide +kernel
set_option maxRecDepth 20000 in
theorem b_X11_areFitting_0 {k n : Nat} {x : Wx} {Z : Zt} {Q : Option Value → Wx → Zt → Prop} {a0 : Nat} {v1 : Int} {v2 : Int} {v3 : Int} (o_a0 : Is11 x a0)
    (h : ∃ g1 : Ab, (OI x Z a0 g1 ∧ Rg v1 ∧ Rg v2 ∧ (∀ (x'1 : Wx) (Z'1 : Zt) (r'1 : Int), (OI x'1 Z'1 a0 g1 ∧ Fx a0 x x'1 Z Z'1 ∧ r'1 = bI (fitB g1.nw v1 v2) ∧ (fitB g1.nw v1 v2 = true → Z'1 a0 14 = v1)) → (Is11 x'1 a0 ∧ (Rg r'1 ∧ (((r'1 = 0) → (V mX11_areFitting k n 22 [none, none, none, none] [] x'1 Z'1 Q)) ∧ ((r'1 ≠ 0) → (∃ g2 : Ab, (OI x'1 Z'1 a0 g2 ∧ Rg v1 ∧ Rg v3 ∧ (∀ (x'2 : Wx) (Z'2 : Zt) (r'2 : Int), (OI x'2 Z'2 a0 g2 ∧ Fx a0 x'1 x'2 Z'1 Z'2 ∧ r'2 = bI (fitB g2.nw v1 v3) ∧ (fitB g2.nw v1 v3 = true → Z'2 a0 14 = v1)) → (Rg r'2 ∧ (((r'2 = 0) → (V mX11_areFitting k n 22 [none, none, none, none] [] x'2 Z'2 Q)) ∧ ((r'2 ≠ 0) → (Q (some (i_ 1)) x'2 Z'2)))))))))))))) :
    V mX11_areFitting k n 0 [some (r_ a0), some (i_ v1), some (i_ v2), some (i_ v3)] [] x Z Q :=
  V_aload_n dX11_areFitting_0 rfl (V_iload_n dX11_areFitting_1 rfl (V_iload_n dX11_areFitting_2 rfl (Exists.elim h (fun g1 w1 => V_callV (k' := 0) (n' := 0) (t := 11) (q := (RX11, TX11, 17)) [i_ v1, i_ v2] [] okX11_isFitting o_a0.1 rfl rfl lm_11_206 liX11_isFitting lqX11_isFitting (Nat.le_of_ble_eq_true rfl) (Nat.le_of_ble_eq_true rfl) (Nat.le_of_ble_eq_true rfl) (cat_of rfl) (Nat.le_of_ble_eq_true rfl) (Nat.zero_le _) (Nat.zero_le _) rfl dX11_areFitting_3 (sp_X11_isFitting o_a0 w1.1 w1.2.1 w1.2.2.1 (fun x'1 Z'1 r'1 p1 => V_if_eq (tgt := 22) dX11_areFitting_6 rfl (w1.2.2.2 x'1 Z'1 r'1 p1).2.1 (fun c1 => V_msk [false, false, false, false] rfl ((w1.2.2.2 x'1 Z'1 r'1 p1).2.2.1 c1)) (fun c1 => V_aload_n dX11_areFitting_9 rfl (V_iload_n dX11_areFitting_10 rfl (V_iload_n dX11_areFitting_11 rfl (Exists.elim ((w1.2.2.2 x'1 Z'1 r'1 p1).2.2.2 c1) (fun g2 w2 => V_callV (k' := 0) (n' := 0) (t := 11) (q := (RX11, TX11, 17)) [i_ v1, i_ v3] [] okX11_isFitting (w1.2.2.2 x'1 Z'1 r'1 p1).1.1 rfl rfl lm_11_206 liX11_isFitting lqX11_isFitting (Nat.le_of_ble_eq_true rfl) (Nat.le_of_ble_eq_true rfl) (Nat.le_of_ble_eq_true rfl) (cat_of rfl) (Nat.le_of_ble_eq_true rfl) (Nat.zero_le _) (Nat.zero_le _) rfl dX11_areFitting_12 (sp_X11_isFitting (w1.2.2.2 x'1 Z'1 r'1 p1).1 w2.1 w2.2.1 w2.2.2.1 (fun x'2 Z'2 r'2 p2 => V_if_eq (tgt := 22) dX11_areFitting_15 rfl (w2.2.2.2 x'2 Z'2 r'2 p2).1 (fun c2 => V_msk [false, false, false, false] rfl ((w2.2.2.2 x'2 Z'2 r'2 p2).2.1 c2)) (fun c2 => V_iconst dX11_areFitting_18 (V_goto (tgt := 23) dX11_areFitting_19 rfl (V_iret (ty := .boolean) dX11_areFitting_23 rfl rfl ((w2.2.2.2 x'2 Z'2 r'2 p2).2.2 c2)))))))))))))))))
set_option maxRecDepth 20000 in
theorem b_X11_areFitting_22 {k n : Nat} {x : Wx} {Z : Zt} {Q : Option Value → Wx → Zt → Prop}  
    (h : Q (some (i_ 0)) x Z) :
    V mX11_areFitting k n 22 [none, none, none, none] [] x Z Q :=
  V_iconst dX11_areFitting_22 (V_iret (ty := .boolean) dX11_areFitting_23 rfl rfl h)
theorem sp_X11_areFitting {k n : Nat} {x : Wx} {Z : Zt} {Q : Option Value → Wx → Zt → Prop} {a : Nat} {v s t : Int} (o : Is11 x a) {S : Ab} (hI : OI x Z a S) (hv : Rg v) (hs : Rg s) (ht : Rg t) (h : ∀ (x' : Wx) (Z' : Zt) (r : Int), (OI x' Z' a S ∧ Fx a x x' Z Z' ∧ r = bI (fitB S.nw v s && fitB S.nw v t) ∧ ((fitB S.nw v s && fitB S.nw v t) = true → Z' a 14 = v)) → Q (some (i_ r)) x' Z') : V mX11_areFitting k n 0 [some (r_ a), some (i_ v), some (i_ s), some (i_ t)] [] x Z Q := by
  refine b_X11_areFitting_0 o ⟨S, hI, hv, hs, fun x1 Z1 r1 h1 => ?_⟩
  obtain ⟨a1, a2, a3, a4⟩ := h1
  subst a3
  refine ⟨a1.1, bI_rg _, fun c => b_X11_areFitting_22 (h x1 Z1 0 ⟨a1, a2, ?_, fun hh => ?_⟩), fun c => ⟨S, a1, hv, ht, fun x2 Z2 r2 h2 => ?_⟩⟩
  · rw [bI_0 c]; rfl
  · rw [bI_0 c] at hh; cases hh
  · obtain ⟨b1, b2, b3, b4⟩ := h2
    subst b3
    refine ⟨bI_rg _, fun c2 => b_X11_areFitting_22 (h x2 Z2 0 ⟨b1, a2.tr b2, ?_, fun hh => ?_⟩), fun c2 => h x2 Z2 1 ⟨b1, a2.tr b2, ?_, fun _ => b4 (bI_1 c2)⟩⟩
    · rw [bI_0 c2, Bool.and_false]; rfl
    · rw [bI_0 c2, Bool.and_false] at hh; cases hh
    · rw [bI_1 c, bI_1 c2]; rfl
theorem dX11_isRoomReady_0 : decode cX11_isRoomReady 0 = .ok (.aload_n 0, 1) := by decide +kernel
theorem dX11_isRoomReady_1 : decode cX11_isRoomReady 1 = .ok (.getfield 10, 3) := by decide +kernel
theorem dX11_isRoomReady_4 : decode cX11_isRoomReady 4 = .ok (.iconst 1, 1) := by decide +kernel
theorem dX11_isRoomReady_5 : decode cX11_isRoomReady 5 = .ok (.iload_n 2, 1) := by decide +kernel
theorem dX11_isRoomReady_6 : decode cX11_isRoomReady 6 = .ok (.invokevirtual 129, 3) := by decide +kernel
theorem dX11_isRoomReady_9 : decode cX11_isRoomReady 9 = .ok (.astore_n 3, 1) := by decide +kernel
theorem dX11_isRoomReady_10 : decode cX11_isRoomReady 10 = .ok (.aload_n 3, 1) := by decide +kernel
theorem dX11_isRoomReady_11 : decode cX11_isRoomReady 11 = .ok (.ifnull 12, 3) := by decide +kernel
theorem dX11_isRoomReady_14 : decode cX11_isRoomReady 14 = .ok (.aload_n 0, 1) := by decide +kernel
theorem dX11_isRoomReady_15 : decode cX11_isRoomReady 15 = .ok (.iload_n 1, 1) := by decide +kernel
theorem dX11_isRoomReady_16 : decode cX11_isRoomReady 16 = .ok (.iload_n 2, 1) := by decide +kernel
theorem dX11_isRoomReady_17 : decode cX11_isRoomReady 17 = .ok (.invokevirtual 206, 3) := by decide +kernel
theorem dX11_isRoomReady_20 : decode cX11_isRoomReady 20 = .ok (.ifCond .ne 5, 3) := by decide +kernel
theorem dX11_isRoomReady_23 : decode cX11_isRoomReady 23 = .ok (.iconst 0, 1) := by decide +kernel
theorem dX11_isRoomReady_24 : decode cX11_isRoomReady 24 = .ok (.ireturn, 1) := by decide +kernel
theorem dX11_isRoomReady_25 : decode cX11_isRoomReady 25 = .ok (.aload_n 0, 1) := by decide +kernel
theorem dX11_isRoomReady_26 : decode cX11_isRoomReady 26 = .ok (.getfield 106, 3) := by decide +kernel
theorem dX11_isRoomReady_29 : decode cX11_isRoomReady 29 = .ok (.iload_n 2, 1) := by decide +kernel
theorem dX11_isRoomReady_30 : decode cX11_isRoomReady 30 = .ok (.if_icmp .eq 25, 3) := by decide +kernel
theorem dX11_isRoomReady_33 : decode cX11_isRoomReady 33 = .ok (.aload_n 0, 1) := by decide +kernel
theorem dX11_isRoomReady_34 : decode cX11_isRoomReady 34 = .ok (.getfield 74, 3) := by decide +kernel
theorem dX11_isRoomReady_37 : decode cX11_isRoomReady 37 = .ok (.aload_n 0, 1) := by decide +kernel
theorem dX11_isRoomReady_38 : decode cX11_isRoomReady 38 = .ok (.getfield 60, 3) := by decide +kernel
theorem dX11_isRoomReady_41 : decode cX11_isRoomReady 41 = .ok (.aload_n 3, 1) := by decide +kernel
theorem dX11_isRoomReady_42 : decode cX11_isRoomReady 42 = .ok (.invokevirtual 391, 3) := by decide +kernel
theorem dX11_isRoomReady_45 : decode cX11_isRoomReady 45 = .ok (.aload_n 0, 1) := by decide +kernel
theorem dX11_isRoomReady_46 : decode cX11_isRoomReady 46 = .ok (.iload_n 2, 1) := by decide +kernel
theorem dX11_isRoomReady_47 : decode cX11_isRoomReady 47 = .ok (.putfield 106, 3) := by decide +kernel
theorem dX11_isRoomReady_50 : decode cX11_isRoomReady 50 = .ok (.aload_n 0, 1) := by decide +kernel
theorem dX11_isRoomReady_51 : decode cX11_isRoomReady 51 = .ok (.iconst 0, 1) := by decide +kernel
theorem dX11_isRoomReady_52 : decode cX11_isRoomReady 52 = .ok (.putfield 361, 3) := by decide +kernel
theorem dX11_isRoomReady_55 : decode cX11_isRoomReady 55 = .ok (.iconst 1, 1) := by decide +kernel
theorem dX11_isRoomReady_56 : decode cX11_isRoomReady 56 = .ok (.ireturn, 1) := by decide +kernel
set_option maxRecDepth 20000 in
theorem b_X11_isRoomReady_0 {k n : Nat} {x : Wx} {Z : Zt} {Q : Option Value → Wx → Zt → Prop} {a0 : Nat} {v1 : Int} {v2 : Int} (o_a0 : Is11 x a0)
    (h : KS x ∧ KW x Z ∧ (0 ≤ (1 : Int) ∧ (1 : Int) < 3) ∧ Rg v2 ∧ (0 ≤ Z ((a0 + 1) + 2) (Int.toNat (1 : Int)) ∧ Z ((a0 + 1) + 2) (Int.toNat (1 : Int)) ≤ mstr (1 : Int)) ∧ (((rowQ (a0 + 1) (1 : Int) v2 (Z ((a0 + 1) + 2) (Int.toNat (1 : Int))) = none → (V mX11_isRoomReady k n 23 [none, none, none, none] [] x Z Q)) ∧ (∀ b1, rowQ (a0 + 1) (1 : Int) v2 (Z ((a0 + 1) + 2) (Int.toNat (1 : Int))) = some b1 → (x.1 b1 = some (100, 26) ∧ (∃ g1 : Ab, (OI x Z a0 g1 ∧ Rg v1 ∧ Rg v2 ∧ (∀ (x'1 : Wx) (Z'1 : Zt) (r'1 : Int), (OI x'1 Z'1 a0 g1 ∧ Fx a0 x x'1 Z Z'1 ∧ r'1 = bI (fitB g1.nw v1 v2) ∧ (fitB g1.nw v1 v2 = true → Z'1 a0 14 = v1)) → (Is11 x'1 a0 ∧ x'1.1 b1 = some (100, 26) ∧ (Rg r'1 ∧ (((r'1 ≠ 0) → (Rg (Z'1 a0 15) ∧ (((Z'1 a0 15 = v2) → (V mX11_isRoomReady k n 55 [none, none, none, none] [] x'1 Z'1 Q)) ∧ ((Z'1 a0 15 ≠ v2) → (∃ g2 : Int, (∃ g3 : Nat → Int, (∃ g4 : Nat → Nat, (IsP g2 ∧ CvA Z'1 (a0 + 40) g2 g3 ∧ LnA x'1 (a0 + 68) g4 ∧ SumR (Z'1 b1) ∧ (∀ i : Nat, i < 26 → Rg (Z'1 b1 i)) ∧ (b1 < (a0 + 68) ∨ (a0 + 68) + 48 ≤ b1) ∧ (b1 < (a0 + 40) ∨ (a0 + 40) + 16 ≤ b1) ∧ ((a0 + 40) + 16 ≤ (a0 + 68) ∨ (a0 + 68) + 48 ≤ (a0 + 40)) ∧ (∀ (x'2 : Wx) (Z'2 : Zt) (sg'1 : Nat → Nat), (Xs x'1 x'2 ((a0 + 68) + 5) ∧ RmA x'2 Z'2 (a0 + 68) g2 g3 (Z'1 b1) sg'1 ∧ (∀ i : Nat, i < 14 → Z'2 (a0 + 40) i = Z'1 (a0 + 40) i) ∧ Oth Z'1 Z'2 (fun b => b = (a0 + 40) ∨ b = (a0 + 40) + 13 ∨ b = (a0 + 40) + 14 ∨ b = (a0 + 40) + 15 ∨ ((a0 + 68) ≤ b ∧ b < (a0 + 68) + 48))) → (Is11 x'2 a0 ∧ (∀ Z1 : Zt, Z1 = up Z'2 a0 15 v2 → (∀ Z2 : Zt, Z2 = up Z1 a0 16 0 → (V mX11_isRoomReady k n 55 [none, none, none, none] [] x'2 Z2 Q))))))))))))) ∧ ((r'1 = 0) → (V mX11_isRoomReady k n 23 [none, none, none, none] [] x'1 Z'1 Q))))))))))))) :
    V mX11_isRoomReady k n 0 [some (r_ a0), some (i_ v1), some (i_ v2), none] [] x Z Q :=
  V_aload_n dX11_isRoomReady_0 rfl (G_11_0 o_a0.1 o_a0.qR0 lf_11_10 dX11_isRoomReady_1 (V_iconst dX11_isRoomReady_4 (V_iload_n dX11_isRoomReady_5 rfl (V_callV (k' := 0) (n' := 0) (t := 10) (q := (RX10, TX10, 6)) [i_ 1, i_ v2] [] okX10_row o_a0.qK0.1 rfl rfl lm_11_129 liX10_row lqX10_row (Nat.le_of_ble_eq_true rfl) (Nat.le_of_ble_eq_true rfl) (Nat.le_of_ble_eq_true rfl) (cat_of rfl) (Nat.le_of_ble_eq_true rfl) (Nat.zero_le _) (Nat.zero_le _) rfl dX11_isRoomReady_6 (sp_X10_row2 o_a0.qK0 h.1 h.2.1 h.2.2.1 h.2.2.2.1 h.2.2.2.2.1 (V_q (fun c1 => V_astoreq_n (r := none) (lv' := [some (r_ a0), some (i_ v1), some (i_ v2), some (Value.null)]) dX11_isRoomReady_9 (Nat.le_of_ble_eq_true rfl) rfl (V_aloadq_n (r := none) dX11_isRoomReady_10 rfl (V_ifnull_n (tgt := 23) dX11_isRoomReady_11 rfl (V_msk [false, false, false, false] rfl (h.2.2.2.2.2.1 c1))))) (fun b1 c2 => have s1 := (h.2.2.2.2.2.2 b1 c2).1; V_astore_n (lv' := [some (r_ a0), some (i_ v1), some (i_ v2), some (r_ b1)]) dX11_isRoomReady_9 (Nat.le_of_ble_eq_true rfl) rfl (V_aload_n dX11_isRoomReady_10 rfl (V_ifnull_r dX11_isRoomReady_11 (V_aload_n dX11_isRoomReady_14 rfl (V_iload_n dX11_isRoomReady_15 rfl (V_iload_n dX11_isRoomReady_16 rfl (Exists.elim (h.2.2.2.2.2.2 b1 c2).2 (fun g1 w1 => V_callV (k' := 0) (n' := 0) (t := 11) (q := (RX11, TX11, 17)) [i_ v1, i_ v2] [] okX11_isFitting o_a0.1 rfl rfl lm_11_206 liX11_isFitting lqX11_isFitting (Nat.le_of_ble_eq_true rfl) (Nat.le_of_ble_eq_true rfl) (Nat.le_of_ble_eq_true rfl) (cat_of rfl) (Nat.le_of_ble_eq_true rfl) (Nat.zero_le _) (Nat.zero_le _) rfl dX11_isRoomReady_17 (sp_X11_isFitting o_a0 w1.1 w1.2.1 w1.2.2.1 (fun x'1 Z'1 r'1 p1 => V_if_ne (tgt := 25) dX11_isRoomReady_20 rfl (w1.2.2.2 x'1 Z'1 r'1 p1).2.2.1 (fun c3 => V_aload_n dX11_isRoomReady_25 rfl (G_11_15 (w1.2.2.2 x'1 Z'1 r'1 p1).1.1 lf_11_106 dX11_isRoomReady_26 (V_iload_n dX11_isRoomReady_29 rfl (V_icmp_eq (tgt := 55) dX11_isRoomReady_30 rfl ((w1.2.2.2 x'1 Z'1 r'1 p1).2.2.2.1 c3).1 h.2.2.2.1 (fun c4 => V_msk [false, false, false, false] rfl (((w1.2.2.2 x'1 Z'1 r'1 p1).2.2.2.1 c3).2.1 c4)) (fun c4 => V_aload_n dX11_isRoomReady_33 rfl (G_11_9 (w1.2.2.2 x'1 Z'1 r'1 p1).1.1 (w1.2.2.2 x'1 Z'1 r'1 p1).1.qR9 lf_11_74 dX11_isRoomReady_34 (V_aload_n dX11_isRoomReady_37 rfl (G_11_7 (w1.2.2.2 x'1 Z'1 r'1 p1).1.1 (w1.2.2.2 x'1 Z'1 r'1 p1).1.qR7 lf_11_60 dX11_isRoomReady_38 (V_aload_n dX11_isRoomReady_41 rfl (Exists.elim (((w1.2.2.2 x'1 Z'1 r'1 p1).2.2.2.1 c3).2.2 c4) (fun g2 w2 => Exists.elim w2 (fun g3 w3 => Exists.elim w3 (fun g4 w4 => V_callV (k' := 0) (n' := 0) (t := 9) (q := (RX9, TX9, 12)) [r_ (a0 + 40), r_ b1] [] okX9_load (w1.2.2.2 x'1 Z'1 r'1 p1).1.qK9.1 rfl rfl lm_11_391 liX9_load lqX9_load (Nat.le_of_ble_eq_true rfl) (Nat.le_of_ble_eq_true rfl) (Nat.le_of_ble_eq_true rfl) (cat_of rfl) (Nat.le_of_ble_eq_true rfl) (Nat.zero_le _) (Nat.zero_le _) rfl dX11_isRoomReady_42 (sp_X9_load (w1.2.2.2 x'1 Z'1 r'1 p1).1.qK9 (w1.2.2.2 x'1 Z'1 r'1 p1).1.qK7 (w1.2.2.2 x'1 Z'1 r'1 p1).2.1 w4.1 w4.2.1 w4.2.2.1 w4.2.2.2.1 w4.2.2.2.2.1 w4.2.2.2.2.2.1 w4.2.2.2.2.2.2.1 w4.2.2.2.2.2.2.2.1 (fun x'2 Z'2 sg'1 p2 => V_aload_n dX11_isRoomReady_45 rfl (V_iload_n dX11_isRoomReady_46 rfl (P_11_15 (w4.2.2.2.2.2.2.2.2 x'2 Z'2 sg'1 p2).1.1 lf_11_106 dX11_isRoomReady_47 (V_nmZ (fun Z1 eZ1 => V_aload_n dX11_isRoomReady_50 rfl (V_iconst dX11_isRoomReady_51 (P_11_16 (w4.2.2.2.2.2.2.2.2 x'2 Z'2 sg'1 p2).1.1 lf_11_361 (Or.inl rfl) dX11_isRoomReady_52 (V_nmZ (fun Z2 eZ2 => V_msk [false, false, false, false] rfl (((w4.2.2.2.2.2.2.2.2 x'2 Z'2 sg'1 p2).2 Z1 eZ1) Z2 eZ2)))))))))))))))))))))))) (fun c3 => V_msk [false, false, false, false] rfl ((w1.2.2.2 x'1 Z'1 r'1 p1).2.2.2.2 c3))))))))))))))))))
set_option maxRecDepth 20000 in
theorem b_X11_isRoomReady_23 {k n : Nat} {x : Wx} {Z : Zt} {Q : Option Value → Wx → Zt → Prop}  
    (h : Q (some (i_ 0)) x Z) :
    V mX11_isRoomReady k n 23 [none, none, none, none] [] x Z Q :=
  V_iconst dX11_isRoomReady_23 (V_iret (ty := .boolean) dX11_isRoomReady_24 rfl rfl h)
set_option maxRecDepth 20000 in
theorem b_X11_isRoomReady_55 {k n : Nat} {x : Wx} {Z : Zt} {Q : Option Value → Wx → Zt → Prop}  
    (h : Q (some (i_ 1)) x Z) :
    V mX11_isRoomReady k n 55 [none, none, none, none] [] x Z Q :=
  V_iconst dX11_isRoomReady_55 (V_iret (ty := .boolean) dX11_isRoomReady_56 rfl rfl h)
theorem Xs.fx {a : Nat} {x x' : Wx} {Z Z' : Zt} (w : Xs x x' (a + 68 + 5)) (h : ∀ b, b < a ∨ a + 292 ≤ b → Z' b = Z b) : Fx a x x' Z Z' := ⟨w.1, w.2.1, fun b hb => ⟨w.2.2 b (by omega), h b hb⟩, w.2.2 _ (by omega)⟩
theorem sp_X11_isRoomReady {k n : Nat} {x : Wx} {Z : Zt} {Q : Option Value → Wx → Zt → Prop} {a : Nat} {v s : Int} (o : Is11 x a) {S : Ab} (hI : OI x Z a S) (hv : Rg v) (hs : Rg s) (h : ∀ (x' : Wx) (Z' : Zt) (r : Int), (OI x' Z' a S ∧ Fx a x x' Z Z' ∧ r = bI (fitB S.nw v s) ∧ (fitB S.nw v s = true → Z' a 14 = v ∧ Z' a 15 = s)) → Q (some (i_ r)) x' Z') : V mX11_isRoomReady k n 0 [some (r_ a), some (i_ v), some (i_ s), none] [] x Z Q := by
  obtain ⟨_, hk, hr, ht, hi, hV, _⟩ := id hI
  have hct := hI.ct
  have hcr := hV.1.2.2.2.2.2.1
  have no : ∀ (x' : Wx) (Z' : Zt), OI x' Z' a S → Fx a x x' Z Z' → fitB S.nw v s = false → V mX11_isRoomReady k n 23 [none, none, none, none] [] x' Z' Q := fun x' Z' h1 h2 h3 => b_X11_isRoomReady_23 (h x' Z' 0 ⟨h1, h2, by rw [h3]; rfl, fun hh => by rw [h3] at hh; cases hh⟩)
  refine b_X11_isRoomReady_0 o ?_
  rw [show Z (a + 1 + 2) (Int.toNat (1 : Int)) = S.nw.ct 1 from hct.2.1]
  refine ⟨hk.1, hk.2.1, by decide, hs, ⟨by omega, by show S.nw.ct 1 ≤ 3; omega⟩, fun hn => ?_, fun b hb => ?_⟩
  · have hn' := rqn hn
    refine no x Z hI Fx.rf ?_
    unfold fitB
    rw [decide_eq_false (fun e => hn' e.2)]; rfl
  · obtain ⟨hc1, hb1⟩ := rqs hb
    obtain ⟨t, ht'⟩ : ∃ t : Nat, s = (t : Int) := ⟨s.toNat, by omega⟩
    have hbe : b = a + 1 + 4 + (2 + t) := by rw [hb1, ht']; show a + 1 + 4 + (2 + (t : Int)).toNat = _; omega
    have hrow := hI.row (r := 2 + t) (by omega)
    rw [hbe]
    refine ⟨hrow.1, S, hI, hv, hs, fun x1 Z1 r1 hq => ⟨hq.1.1, by rw [hq.2.1.1]; exact hrow.1, ?_, fun c3 => ?_, fun c3 => no x1 Z1 hq.1 hq.2.1 (bI_0 (hq.2.2.1 ▸ c3))⟩⟩
    · rw [hq.2.2.1]; exact bI_rg _
    · have hfit := bI_1 (hq.2.2.1 ▸ c3)
      have hft := fitB_t hfit
      obtain ⟨c, hcv⟩ : ∃ c : Nat, v = (c : Int) := ⟨v.toNat, by omega⟩
      have h14 : Z1 a 14 = (c : Int) := by rw [hq.2.2.2 hfit, hcv]
      have yes : ∀ (x' : Wx) (Z' : Zt), OI x' Z' a S → Fx a x x' Z Z' → Z' a 14 = (c : Int) → Z' a 15 = s → V mX11_isRoomReady k n 55 [none, none, none, none] [] x' Z' Q := fun x' Z' h1 h2 h3 h4 => b_X11_isRoomReady_55 (h x' Z' 1 ⟨h1, h2, by rw [hfit]; rfl, fun _ => ⟨by rw [h3, hcv], h4⟩⟩)
      obtain ⟨g1, g2, g3, g4, g5, g6⟩ := hq.1.cv h14
      obtain ⟨_, _, _, σ, hl, hcc⟩ := hq.1.crv h14
      have hrow1 := (hq.1.row (r := 2 + t) (by omega)).2
      have hsr := hV.1.2.2.2.2.2.2.2.2.1 t (by omega)
      obtain ⟨o1, k1, rr1, t1, i1, _, _⟩ := id hq.1
      have h15 : Rg (Z1 a 15) := by
        rcases hcc.2.2.2.2.2.2 with ⟨e, _⟩ | ⟨s', e, e2, _⟩
        · rw [e]; exact ⟨by decide, by decide⟩
        · rw [e]; exact ⟨by omega, by omega⟩
      refine ⟨h15, fun c4 => yes x1 Z1 hq.1 hq.2.1 h14 c4, fun c4 => ⟨S.nw.p c, S.nw.F c, σ, g3, g4, hl, ?_⟩⟩
      rw [hrow1]
      refine ⟨hsr.1, hsr.2, Or.inl (by omega), Or.inl (by omega), Or.inl (by omega), fun x2 Z2 σ2 hz2 => ?_⟩
      obtain ⟨w1, w2, w3, w4⟩ := hz2
      have o2 : Is11 x2 a := o1.mv w1.1 (fun b j _ _ g => by rw [w1.2.2 b (by omega)])
      refine ⟨o2, fun Z3 e3 Z4 e4 => ?_⟩
      have z4 : ∀ b, b ≠ a → Z4 b = Z2 b := fun b hb => by rw [e4, up_row _ _ _ _ _ hb, e3, up_row _ _ _ _ _ hb]
      have z41 : ∀ b, b ≠ a → ¬ (b = a + 40 ∨ (a + 53 ≤ b ∧ b ≤ a + 55) ∨ (a + 68 ≤ b ∧ b < a + 116)) → Z4 b = Z1 b := fun b h1 h2 => by rw [z4 b h1, w4 b (by omega)]
      have za : Z4 a 14 = (c : Int) ∧ Z4 a 15 = s ∧ Z4 a 16 = 0 := by
        refine ⟨?_, ?_, ?_⟩
        · rw [e4, up_at, if_neg (by decide), e3, up_at, if_neg (by decide), w4 a (by omega)]; exact h14
        · rw [e4, up_at, if_neg (by decide), e3, up_at, if_pos rfl]
        · rw [e4, up_at, if_pos rfl]
      have f : Fx a x1 x2 Z1 Z4 := w1.fx (fun b hb => z41 b (by omega) (by omega))
      refine yes x2 Z4 ⟨o2, k1.fx f, ?_, t1.kept (fun b b1 b2 => z41 b (by omega) (by omega)), i1.fx f, hV, σ2, w2.1, Or.inr ⟨c, za.1, g1, ?_, ?_, ?_, ?_, ?_, Or.inr ⟨t, ?_, by omega, ?_, ?_, Or.inl za.2.2⟩⟩⟩ (hq.2.1.tr f) za.1 za.2.1
      · rw [w1.2.2 _ (by omega)]; exact rr1
      · exact g4.kept (fun b b1 b2 => z41 b (by omega) (by omega)) (fun i hi => by rw [z4 _ (by omega)]; exact w3 i hi)
      · rw [w1.2.2 _ (by omega)]; exact g5.1
      · rw [w1.2.2 _ (by omega)]; exact g5.2.1
      · rw [z41 _ (by omega) (by omega)]; exact g6.2.2.2
      · have := hcc.2.2.2.2.2.1
        unfold LstC at this ⊢
        rw [z41 (a + 229) (by omega) (by omega)]
        rcases this with e | ⟨e, g⟩
        · exact Or.inl e
        · exact Or.inr ⟨e, g.kept (z41 _ (by omega) (by omega)) (z41 _ (by omega) (by omega)) (z41 _ (by omega) (by omega))⟩
      · rw [za.2.1, ht']
      · have := hft.2.2
        rw [hcv, ht', Int.toNat_natCast, Int.toNat_natCast] at this
        exact this
      · exact (w2 : RmA x2 Z2 (a + 68) (S.nw.p c) (S.nw.F c) (S.nw.rw (2 + t)) σ2).kept g3 (fun b b1 b2 => z4 b (by omega))
theorem dX11_readyCode_0 : decode cX11_readyCode 0 = .ok (.aload_n 0, 1) := by decide +kernel
theorem dX11_readyCode_1 : decode cX11_readyCode 1 = .ok (.getfield 361, 3) := by decide +kernel
theorem dX11_readyCode_4 : decode cX11_readyCode 4 = .ok (.ifCond .ne 23, 3) := by decide +kernel
theorem dX11_readyCode_7 : decode cX11_readyCode 7 = .ok (.aload_n 0, 1) := by decide +kernel
theorem dX11_readyCode_8 : decode cX11_readyCode 8 = .ok (.getfield 81, 3) := by decide +kernel
theorem dX11_readyCode_11 : decode cX11_readyCode 11 = .ok (.aload_n 0, 1) := by decide +kernel
theorem dX11_readyCode_12 : decode cX11_readyCode 12 = .ok (.getfield 60, 3) := by decide +kernel
theorem dX11_readyCode_15 : decode cX11_readyCode 15 = .ok (.aload_n 0, 1) := by decide +kernel
theorem dX11_readyCode_16 : decode cX11_readyCode 16 = .ok (.getfield 74, 3) := by decide +kernel
theorem dX11_readyCode_19 : decode cX11_readyCode 19 = .ok (.invokevirtual 392, 3) := by decide +kernel
theorem dX11_readyCode_22 : decode cX11_readyCode 22 = .ok (.aload_n 0, 1) := by decide +kernel
theorem dX11_readyCode_23 : decode cX11_readyCode 23 = .ok (.iconst 1, 1) := by decide +kernel
theorem dX11_readyCode_24 : decode cX11_readyCode 24 = .ok (.putfield 361, 3) := by decide +kernel
theorem dX11_readyCode_27 : decode cX11_readyCode 27 = .ok (.return_, 1) := by decide +kernel
set_option maxRecDepth 20000 in
theorem b_X11_readyCode_0 {k n : Nat} {x : Wx} {Z : Zt} {Q : Option Value → Wx → Zt → Prop} {a0 : Nat} (o_a0 : Is11 x a0)
    (h : Rg (Z a0 16) ∧ (((Z a0 16 ≠ 0) → (Q none x Z)) ∧ ((Z a0 16 = 0) → (∃ g1 : Int, (∃ g2 : Nat → Int, (∃ g3 : Nat → Int, (∃ g4 : Nat → Nat, (IsP g1 ∧ SumR g3 ∧ CvA Z (a0 + 40) g1 g2 ∧ RmA x Z (a0 + 68) g1 g2 g3 g4 ∧ ((a0 + 40) + 16 ≤ (a0 + 116) ∨ (a0 + 116) + 113 ≤ (a0 + 40)) ∧ ((a0 + 68) + 48 ≤ (a0 + 116) ∨ (a0 + 116) + 113 ≤ (a0 + 68)) ∧ (∀ (Z'1 : Zt), (CdA Z'1 (a0 + 116) g1 g2 g3 ∧ Z'1 (a0 + 116) 7 = 0 ∧ Oth Z Z'1 (fun b => (a0 + 116) ≤ b ∧ b < (a0 + 116) + 113)) → (∀ Z1 : Zt, Z1 = up Z'1 a0 16 1 → (Q none x Z1))))))))))) :
    V mX11_readyCode k n 0 [some (r_ a0)] [] x Z Q :=
  V_aload_n dX11_readyCode_0 rfl (G_11_16 o_a0.1 lf_11_361 dX11_readyCode_1 (V_if_ne (tgt := 27) dX11_readyCode_4 rfl h.1 (fun c1 => V_ret dX11_readyCode_27 rfl (h.2.1 c1)) (fun c1 => V_aload_n dX11_readyCode_7 rfl (G_11_10 o_a0.1 o_a0.qR10 lf_11_81 dX11_readyCode_8 (V_aload_n dX11_readyCode_11 rfl (G_11_7 o_a0.1 o_a0.qR7 lf_11_60 dX11_readyCode_12 (V_aload_n dX11_readyCode_15 rfl (G_11_9 o_a0.1 o_a0.qR9 lf_11_74 dX11_readyCode_16 (Exists.elim (h.2.2 c1) (fun g1 w1 => Exists.elim w1 (fun g2 w2 => Exists.elim w2 (fun g3 w3 => Exists.elim w3 (fun g4 w4 => V_callV (k' := 0) (n' := 0) (t := 1) (q := (RX1, TX1, 17)) [r_ (a0 + 40), r_ (a0 + 68)] [] okX1_load o_a0.qK10.1 rfl rfl lm_11_392 liX1_load lqX1_load (Nat.le_of_ble_eq_true rfl) (Nat.le_of_ble_eq_true rfl) (Nat.le_of_ble_eq_true rfl) (cat_of rfl) (Nat.le_of_ble_eq_true rfl) (Nat.zero_le _) (Nat.zero_le _) rfl dX11_readyCode_19 (sp_X1_load o_a0.qK10 o_a0.qK7 o_a0.qK9 w4.1 w4.2.1 w4.2.2.1 w4.2.2.2.1 w4.2.2.2.2.1 w4.2.2.2.2.2.1 (fun Z'1 p1 => V_aload_n dX11_readyCode_22 rfl (V_iconst dX11_readyCode_23 (P_11_16 o_a0.1 lf_11_361 (Or.inr rfl) dX11_readyCode_24 (V_nmZ (fun Z1 eZ1 => V_ret dX11_readyCode_27 rfl ((w4.2.2.2.2.2.2 Z'1 p1) Z1 eZ1))))))))))))))))))))
theorem OI.rm {x : Wx} {Z : Zt} {a : Nat} {S : Ab} (h : OI x Z a S) {c s : Nat} (hc : Z a 14 = (c : Int)) (hs : Z a 15 = (s : Int)) : (s : Int) < S.nw.ct 1 ∧ SumR (S.nw.rw (2 + s)) ∧ carr (S.nw.L c) (S.nw.rw (2 + s)) = true ∧ ∃ σ : Nat → Nat, RmA x Z (a + 68) (S.nw.p c) (S.nw.F c) (S.nw.rw (2 + s)) σ ∧ (Z a 16 = 0 ∨ (Z a 16 = 1 ∧ CodC Z a (S.nw.p c) (S.nw.F c) (S.nw.rw (2 + s)))) := by
  obtain ⟨_, _, _, σ, hl, hcc⟩ := h.crv hc
  rcases hcc.2.2.2.2.2.2 with ⟨e, _⟩ | ⟨s', e, e2, e3, e4, e5⟩
  · omega
  · have : s' = s := by omega
    subst this
    exact ⟨e2, (h.2.2.2.2.2.1.1.2.2.2.2.2.2.2.2.1 s' e2).1, e3, σ, e4, e5⟩
theorem sp_X11_readyCode {k n : Nat} {x : Wx} {Z : Zt} {Q : Option Value → Wx → Zt → Prop} {a : Nat} (o : Is11 x a) {S : Ab} {c s : Nat} (hI : OI x Z a S) (hc : Z a 14 = (c : Int)) (hs : Z a 15 = (s : Int)) (h : ∀ Z' : Zt, (OI x Z' a S ∧ Fx a x x Z Z' ∧ (Z' a 14 = (c : Int) ∧ Z' a 15 = (s : Int) ∧ Z' a 16 = 1)) → Q none x Z') : V mX11_readyCode k n 0 [some (r_ a)] [] x Z Q := by
  obtain ⟨g1, g2, g3, g4, g5, g6⟩ := hI.cv hc
  obtain ⟨q1, q2, q3, σ, q4, q5⟩ := hI.rm hc hs
  obtain ⟨_, k1, rr1, t1, i1, hV, _⟩ := id hI
  obtain ⟨_, _, _, _, _, hcc⟩ := hI.crv hc
  refine b_X11_readyCode_0 o ⟨?_, fun c1 => h Z ⟨hI, Fx.rf, hc, hs, ?_⟩, fun c1 => ⟨S.nw.p c, S.nw.F c, S.nw.rw (2 + s), σ, g3, q2, g4, q4, Or.inl (by omega), Or.inl (by omega), fun Z1 hz1 Z2 e2 => ?_⟩⟩
  · rcases q5 with e | ⟨e, _⟩ <;> rw [e] <;> exact ⟨by decide, by decide⟩
  · exact (q5.resolve_left c1).1
  · obtain ⟨w1, w2, w3⟩ := hz1
    have z2 : ∀ b, b ≠ a → ¬ (a + 116 ≤ b ∧ b < a + 229) → Z2 b = Z b := fun b h1 h2 => by rw [e2, up_row _ _ _ _ _ h1, w3 b (by omega)]
    have za : Z2 a 14 = (c : Int) ∧ Z2 a 15 = (s : Int) ∧ Z2 a 16 = 1 := by
      refine ⟨?_, ?_, ?_⟩
      · rw [e2, up_at, if_neg (by decide), w3 a (by omega)]; exact hc
      · rw [e2, up_at, if_neg (by decide), w3 a (by omega)]; exact hs
      · rw [e2, up_at, if_pos rfl]
    have f : Fx a x x Z Z2 := ⟨rfl, rfl, fun b hb => ⟨rfl, z2 b (by omega) (by omega)⟩, rfl⟩
    refine h Z2 ⟨⟨o, k1.fx f, rr1, t1.kept (fun b b1 b2 => z2 b (by omega) (by omega)), i1.fx f, hV, σ, q4.1, Or.inr ⟨c, za.1, g1, ?_, g5.1, g5.2.1, ?_, ?_, Or.inr ⟨s, za.2.1, q1, q3, ?_, Or.inr ⟨za.2.2, ?_, Or.inl ?_⟩⟩⟩⟩, f, za⟩
    · exact g4.kept (fun b b1 b2 => z2 b (by omega) (by omega)) (fun i _ => by rw [z2 _ (by omega) (by omega)])
    · rw [z2 _ (by omega) (by omega)]; exact g6.2.2.2
    · have := hcc.2.2.2.2.2.1
      unfold LstC at this ⊢
      rw [z2 (a + 229) (by omega) (by omega)]
      rcases this with e | ⟨e, g⟩
      · exact Or.inl e
      · exact Or.inr ⟨e, g.kept (z2 _ (by omega) (by omega)) (z2 _ (by omega) (by omega)) (z2 _ (by omega) (by omega))⟩
    · exact (q4 : RmA x Z (a + 68) (S.nw.p c) (S.nw.F c) (S.nw.rw (2 + s)) σ).kept g3 (fun b b1 b2 => z2 b (by omega) (by omega))
    · exact (w1 : CdA Z1 (a + 116) (S.nw.p c) (S.nw.F c) (S.nw.rw (2 + s))).kept g3 (fun i _ => by rw [e2, up_row _ _ _ _ _ (by omega)]) (fun b hb => by rw [e2, up_row _ _ _ _ _ (by omega)])
    · rw [e2, up_row _ _ _ _ _ (by omega)]; exact w2
theorem dX11_takeClasses_0 : decode cX11_takeClasses 0 = .ok (.aload_n 0, 1) := by decide +kernel
theorem dX11_takeClasses_1 : decode cX11_takeClasses 1 = .ok (.getfield 88, 3) := by decide +kernel
theorem dX11_takeClasses_4 : decode cX11_takeClasses 4 = .ok (.aload_n 0, 1) := by decide +kernel
theorem dX11_takeClasses_5 : decode cX11_takeClasses 5 = .ok (.getfield 10, 3) := by decide +kernel
theorem dX11_takeClasses_8 : decode cX11_takeClasses 8 = .ok (.iconst 1, 1) := by decide +kernel
theorem dX11_takeClasses_9 : decode cX11_takeClasses 9 = .ok (.iload_n 1, 1) := by decide +kernel
theorem dX11_takeClasses_10 : decode cX11_takeClasses 10 = .ok (.invokevirtual 129, 3) := by decide +kernel
theorem dX11_takeClasses_13 : decode cX11_takeClasses 13 = .ok (.aload_n 0, 1) := by decide +kernel
theorem dX11_takeClasses_14 : decode cX11_takeClasses 14 = .ok (.getfield 95, 3) := by decide +kernel
theorem dX11_takeClasses_17 : decode cX11_takeClasses 17 = .ok (.invokevirtual 247, 3) := by decide +kernel
theorem dX11_takeClasses_20 : decode cX11_takeClasses 20 = .ok (.aload_n 0, 1) := by decide +kernel
theorem dX11_takeClasses_21 : decode cX11_takeClasses 21 = .ok (.getfield 88, 3) := by decide +kernel
theorem dX11_takeClasses_24 : decode cX11_takeClasses 24 = .ok (.aload_n 0, 1) := by decide +kernel
theorem dX11_takeClasses_25 : decode cX11_takeClasses 25 = .ok (.getfield 10, 3) := by decide +kernel
theorem dX11_takeClasses_28 : decode cX11_takeClasses 28 = .ok (.iconst 1, 1) := by decide +kernel
theorem dX11_takeClasses_29 : decode cX11_takeClasses 29 = .ok (.iload_n 2, 1) := by decide +kernel
theorem dX11_takeClasses_30 : decode cX11_takeClasses 30 = .ok (.invokevirtual 129, 3) := by decide +kernel
theorem dX11_takeClasses_33 : decode cX11_takeClasses 33 = .ok (.aload_n 0, 1) := by decide +kernel
theorem dX11_takeClasses_34 : decode cX11_takeClasses 34 = .ok (.getfield 99, 3) := by decide +kernel
theorem dX11_takeClasses_37 : decode cX11_takeClasses 37 = .ok (.invokevirtual 247, 3) := by decide +kernel
theorem dX11_takeClasses_40 : decode cX11_takeClasses 40 = .ok (.return_, 1) := by decide +kernel
set_option maxRecDepth 20000 in
theorem b_X11_takeClasses_0 {k n : Nat} {x : Wx} {Z : Zt} {Q : Option Value → Wx → Zt → Prop} {a0 : Nat} {v1 : Int} {v2 : Int} (r_a0_229_1 : x.2.1 (a0 + 229) 1 = some (a0 + 41)) (r_a0_229_2 : x.2.1 (a0 + 229) 2 = some (a0 + 44)) (o_a0 : Is11 x a0) (o_a0_41 : Is4 x (a0 + 41)) (o_a0_44 : Is7 x (a0 + 44))
    (h : KS x ∧ KW x Z ∧ (0 ≤ (1 : Int) ∧ (1 : Int) < 3) ∧ Rg v1 ∧ (0 ≤ Z ((a0 + 1) + 2) (Int.toNat (1 : Int)) ∧ Z ((a0 + 1) + 2) (Int.toNat (1 : Int)) ≤ mstr (1 : Int)) ∧ (((rowQ (a0 + 1) (1 : Int) v1 (Z ((a0 + 1) + 2) (Int.toNat (1 : Int))) = none → (False)) ∧ (∀ b1, rowQ (a0 + 1) (1 : Int) v1 (Z ((a0 + 1) + 2) (Int.toNat (1 : Int))) = some b1 → (x.1 b1 = some (100, 26) ∧ (∃ g1 : Int, (∃ g2 : Int, (∃ g3 : Nat → Int, (((a0 + 41) + 2 < (a0 + 229) ∧ (a0 + 44) + 1 < (a0 + 229)) ∧ CZ Z (a0 + 229) (a0 + 41) (a0 + 44) g1 g2 g3 ∧ SumR (Z b1) ∧ (b1 < (a0 + 229) ∨ (a0 + 282) + 5 ≤ b1) ∧ (a0 + 229) + 50 ≤ (a0 + 282) ∧ (∀ (Z'1 : Zt), (PrA Z'1 (a0 + 282) g1 (sumF g1 g3 g2 (Z b1) 0 (Z b1 0).toNat czero).1 (sumF g1 g3 g2 (Z b1) 0 (Z b1 0).toNat czero).2 ∧ Oth Z Z'1 (fun q => ((a0 + 229) + 6 < q ∧ q ≤ (a0 + 229) + 44) ∨ At5 (a0 + 282) q)) → (KW x Z'1 ∧ Rg v2 ∧ (0 ≤ Z'1 ((a0 + 1) + 2) (Int.toNat (1 : Int)) ∧ Z'1 ((a0 + 1) + 2) (Int.toNat (1 : Int)) ≤ mstr (1 : Int)) ∧ (((rowQ (a0 + 1) (1 : Int) v2 (Z'1 ((a0 + 1) + 2) (Int.toNat (1 : Int))) = none → (False)) ∧ (∀ b2, rowQ (a0 + 1) (1 : Int) v2 (Z'1 ((a0 + 1) + 2) (Int.toNat (1 : Int))) = some b2 → (x.1 b2 = some (100, 26) ∧ (∃ g4 : Int, (∃ g5 : Int, (∃ g6 : Nat → Int, (((a0 + 41) + 2 < (a0 + 229) ∧ (a0 + 44) + 1 < (a0 + 229)) ∧ CZ Z'1 (a0 + 229) (a0 + 41) (a0 + 44) g4 g5 g6 ∧ SumR (Z'1 b2) ∧ (b2 < (a0 + 229) ∨ (a0 + 287) + 5 ≤ b2) ∧ (a0 + 229) + 50 ≤ (a0 + 287) ∧ (∀ (Z'2 : Zt), (PrA Z'2 (a0 + 287) g4 (sumF g4 g6 g5 (Z'1 b2) 0 (Z'1 b2 0).toNat czero).1 (sumF g4 g6 g5 (Z'1 b2) 0 (Z'1 b2 0).toNat czero).2 ∧ Oth Z'1 Z'2 (fun q => ((a0 + 229) + 6 < q ∧ q ≤ (a0 + 229) + 44) ∨ At5 (a0 + 287) q)) → (Q none x Z'2))))))))))))))))))))) :
    V mX11_takeClasses k n 0 [some (r_ a0), some (i_ v1), some (i_ v2)] [] x Z Q :=
  V_aload_n dX11_takeClasses_0 rfl (G_11_11 o_a0.1 o_a0.qR11 lf_11_88 dX11_takeClasses_1 (V_aload_n dX11_takeClasses_4 rfl (G_11_0 o_a0.1 o_a0.qR0 lf_11_10 dX11_takeClasses_5 (V_iconst dX11_takeClasses_8 (V_iload_n dX11_takeClasses_9 rfl (V_callV (k' := 0) (n' := 0) (t := 10) (q := (RX10, TX10, 6)) [i_ 1, i_ v1] [r_ (a0 + 229)] okX10_row o_a0.qK0.1 rfl rfl lm_11_129 liX10_row lqX10_row (Nat.le_of_ble_eq_true rfl) (Nat.le_of_ble_eq_true rfl) (Nat.le_of_ble_eq_true rfl) (cat_of rfl) (Nat.le_of_ble_eq_true rfl) (Nat.zero_le _) (Nat.zero_le _) rfl dX11_takeClasses_10 (sp_X10_row2 o_a0.qK0 h.1 h.2.1 h.2.2.1 h.2.2.2.1 h.2.2.2.2.1 (V_q (fun c1 => V_aload_n dX11_takeClasses_13 rfl (G_11_12 o_a0.1 o_a0.qR12 lf_11_95 dX11_takeClasses_14 ((False.elim (h.2.2.2.2.2.1 c1))))) (fun b1 c2 => have s1 := (h.2.2.2.2.2.2 b1 c2).1; V_aload_n dX11_takeClasses_13 rfl (G_11_12 o_a0.1 o_a0.qR12 lf_11_95 dX11_takeClasses_14 (Exists.elim (h.2.2.2.2.2.2 b1 c2).2 (fun g1 w1 => Exists.elim w1 (fun g2 w2 => Exists.elim w2 (fun g3 w3 => V_callV (k' := 0) (n' := 0) (t := 0) (q := (RX0, TX0, 18)) [r_ b1, r_ (a0 + 282)] [] okX0_ofSum o_a0.qK11.1 rfl rfl lm_11_247 liX0_ofSum lqX0_ofSum (Nat.le_of_ble_eq_true rfl) (Nat.le_of_ble_eq_true rfl) (Nat.le_of_ble_eq_true rfl) (cat_of rfl) (Nat.le_of_ble_eq_true rfl) (Nat.zero_le _) (Nat.zero_le _) rfl dX11_takeClasses_17 (w_X0_ofSum r_a0_229_1 r_a0_229_2 o_a0.qK11 s1 o_a0.qK12 o_a0_41 o_a0_44 w3.1 w3.2.1 w3.2.2.1 w3.2.2.2.1 w3.2.2.2.2.1 (fun Z'1 p1 => V_aload_n dX11_takeClasses_20 rfl (G_11_11 o_a0.1 o_a0.qR11 lf_11_88 dX11_takeClasses_21 (V_aload_n dX11_takeClasses_24 rfl (G_11_0 o_a0.1 o_a0.qR0 lf_11_10 dX11_takeClasses_25 (V_iconst dX11_takeClasses_28 (V_iload_n dX11_takeClasses_29 rfl (V_callV (k' := 0) (n' := 0) (t := 10) (q := (RX10, TX10, 6)) [i_ 1, i_ v2] [r_ (a0 + 229)] okX10_row o_a0.qK0.1 rfl rfl lm_11_129 liX10_row lqX10_row (Nat.le_of_ble_eq_true rfl) (Nat.le_of_ble_eq_true rfl) (Nat.le_of_ble_eq_true rfl) (cat_of rfl) (Nat.le_of_ble_eq_true rfl) (Nat.zero_le _) (Nat.zero_le _) rfl dX11_takeClasses_30 (sp_X10_row2 o_a0.qK0 h.1 (w3.2.2.2.2.2 Z'1 p1).1 h.2.2.1 (w3.2.2.2.2.2 Z'1 p1).2.1 (w3.2.2.2.2.2 Z'1 p1).2.2.1 (V_q (fun c3 => V_aload_n dX11_takeClasses_33 rfl (G_11_13 o_a0.1 o_a0.qR13 lf_11_99 dX11_takeClasses_34 ((False.elim ((w3.2.2.2.2.2 Z'1 p1).2.2.2.1 c3))))) (fun b2 c4 => have s2 := ((w3.2.2.2.2.2 Z'1 p1).2.2.2.2 b2 c4).1; V_aload_n dX11_takeClasses_33 rfl (G_11_13 o_a0.1 o_a0.qR13 lf_11_99 dX11_takeClasses_34 (Exists.elim ((w3.2.2.2.2.2 Z'1 p1).2.2.2.2 b2 c4).2 (fun g4 w4 => Exists.elim w4 (fun g5 w5 => Exists.elim w5 (fun g6 w6 => V_callV (k' := 0) (n' := 0) (t := 0) (q := (RX0, TX0, 18)) [r_ b2, r_ (a0 + 287)] [] okX0_ofSum o_a0.qK11.1 rfl rfl lm_11_247 liX0_ofSum lqX0_ofSum (Nat.le_of_ble_eq_true rfl) (Nat.le_of_ble_eq_true rfl) (Nat.le_of_ble_eq_true rfl) (cat_of rfl) (Nat.le_of_ble_eq_true rfl) (Nat.zero_le _) (Nat.zero_le _) rfl dX11_takeClasses_37 (w_X0_ofSum r_a0_229_1 r_a0_229_2 o_a0.qK11 s2 o_a0.qK13 o_a0_41 o_a0_44 w6.1 w6.2.1 w6.2.2.1 w6.2.2.2.1 w6.2.2.2.2.1 (fun Z'2 p2 => V_ret dX11_takeClasses_40 rfl (w6.2.2.2.2.2 Z'2 p2)))))))))))))))))))))))))))))))))
/-- the CLASS of a sum on a curve -/
def Td.K (T : Td) (c s : Nat) : UV := sumF (T.p c) (T.F c) (gen (T.F c)) (T.rw (2 + s)) 0 (T.rw (2 + s) 0).toNat czero
theorem OI.K_ok {x : Wx} {Z : Zt} {a : Nat} {S : Ab} (h : OI x Z a S) {c : Nat} (hc : Z a 14 = (c : Int)) (s : Nat) : RP (S.nw.p c) (gen (S.nw.F c)) (S.nw.K c s) := sumF_ok (h.cv hc).2.2.2.2.2.1 _ _ _ (czero_ok (h.cv hc).2.2.1 (by have := gen_rg (S.nw.F c); omega))
theorem scr_cls {a b : Nat} : ((a + 229 + 6 < b ∧ b ≤ a + 229 + 49) ∨ (a + 281 ≤ b ∧ b < a + 292)) → Scr a b := fun h => by unfold Scr; omega
theorem sp_X11_takeClasses {k n : Nat} {x : Wx} {Z : Zt} {Q : Option Value → Wx → Zt → Prop} {a : Nat} {v w : Int} (r1 : x.2.1 (a + 229) 1 = some (a + 41)) (r2 : x.2.1 (a + 229) 2 = some (a + 44)) (o : Is11 x a) {S : Ab} {c s t : Nat} (hI : OI x Z a S) (hc : Z a 14 = (c : Int)) (hs : v = (s : Int) ∧ (s : Int) < S.nw.ct 1) (ht : w = (t : Int) ∧ (t : Int) < S.nw.ct 1) (h : ∀ Z' : Zt, (OI x Z' a S ∧ Fx a x x Z Z' ∧ Z' a 14 = (c : Int) ∧ PrA Z' (a + 282) (S.nw.p c) (S.nw.K c s).1 (S.nw.K c s).2 ∧ PrA Z' (a + 287) (S.nw.p c) (S.nw.K c t).1 (S.nw.K c t).2) → Q none x Z') : V mX11_takeClasses k n 0 [some (r_ a), some (i_ v), some (i_ w)] [] x Z Q := by
  obtain ⟨_, hk, _, _, _, hV, _⟩ := id hI
  obtain ⟨g1, g2, g3, g4, g5, g6⟩ := hI.cv hc
  have hct := hI.ct
  have hcr := hV.1.2.2.2.2.2.1
  have hs1 := (hV.1.2.2.2.2.2.2.2.2.1 s hs.2).1
  have ht1 := (hV.1.2.2.2.2.2.2.2.2.1 t ht.2).1
  have hrs := hI.row (r := 2 + s) (by omega)
  have hrt := hI.row (r := 2 + t) (by omega)
  refine b_X11_takeClasses_0 r1 r2 o g5.2.2.2.1 g5.2.2.2.2.1 ?_
  rw [show Z (a + 1 + 2) (Int.toNat (1 : Int)) = S.nw.ct 1 from hct.2.1]
  refine ⟨hk.1, hk.2.1, by decide, ⟨by omega, by omega⟩, ⟨by omega, by show S.nw.ct 1 ≤ 3; omega⟩, fun hn => rqn hn (by omega), fun b hb => ?_⟩
  have hbe : b = a + 1 + 4 + (2 + s) := by rw [(rqs hb).2, hs.1]; show a + 1 + 4 + (2 + (s : Int)).toNat = _; omega
  rw [hbe, hrs.2]
  refine ⟨hrs.1, S.nw.p c, gen (S.nw.F c), S.nw.F c, ⟨by omega, by omega⟩, g6, hs1, Or.inl (by omega), by omega, fun Z1 hz1 => ?_⟩
  have o1 : ∀ b, b ≠ a + 40 → b ≠ a + 116 → ¬ Scr a b → Z1 b = Z b := fun b _ _ hb => hz1.2 b (fun hh => hb (scr_cls (by rcases hh with hh | hh <;> omega)))
  have hI1 := hI.scr (Z' := Z1) (fun b hb h1 h2 => o1 b h1 h2 hb) (fun i _ => by rw [hz1.2 (a + 40) (by intro hh; rcases hh with hh | hh <;> omega)]) (fun i _ _ => by rw [hz1.2 (a + 116) (by intro hh; rcases hh with hh | hh <;> omega)])
  have h141 : Z1 a 14 = (c : Int) := by rw [hz1.2 a (by intro hh; rcases hh with hh | hh <;> omega)]; exact hc
  have hct1 := hI1.1.ct
  rw [show Z1 (a + 1 + 2) (Int.toNat (1 : Int)) = S.nw.ct 1 from hct1.2.1]
  refine ⟨hI1.1.2.1.2.1, ⟨by omega, by omega⟩, ⟨by omega, by show S.nw.ct 1 ≤ 3; omega⟩, fun hn => rqn hn (by omega), fun b2 hb2 => ?_⟩
  have hbe2 : b2 = a + 1 + 4 + (2 + t) := by rw [(rqs hb2).2, ht.1]; show a + 1 + 4 + (2 + (t : Int)).toNat = _; omega
  have hrt1 := hI1.1.row (r := 2 + t) (by omega)
  rw [hbe2, hrt1.2]
  refine ⟨hrt.1, S.nw.p c, gen (S.nw.F c), S.nw.F c, ⟨by omega, by omega⟩, (hI1.1.cv h141).2.2.2.2.2, ht1, Or.inl (by omega), by omega, fun Z2 hz2 => ?_⟩
  have hI2 := hI1.1.scr (Z' := Z2) (fun b hb h1 h2 => hz2.2 b (fun hh => hb (scr_cls (by rcases hh with hh | hh <;> omega)))) (fun i _ => by rw [hz2.2 (a + 40) (by intro hh; rcases hh with hh | hh <;> omega)]) (fun i _ _ => by rw [hz2.2 (a + 116) (by intro hh; rcases hh with hh | hh <;> omega)])
  refine h Z2 ⟨hI2.1, hI1.2.tr hI2.2, ?_, ?_, hz2.1⟩
  · rw [hz2.2 a (by intro hh; rcases hh with hh | hh <;> omega)]; exact h141
  · have nn : ∀ q : Nat, q < 5 → ¬ ((a + 229 + 6 < a + 282 + q ∧ a + 282 + q ≤ a + 229 + 44) ∨ At5 (a + 287) (a + 282 + q)) := fun q hq hh => by rcases hh with hh | hh <;> omega
    exact ⟨hz1.1.1.kept hz2.2 (nn 1 (by omega)) (nn 2 (by omega)), hz1.1.2.kept hz2.2 (nn 3 (by omega)) (nn 4 (by omega))⟩
