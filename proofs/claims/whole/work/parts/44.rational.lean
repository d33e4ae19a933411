theorem dX5_rational_0 : decode cX5_rational 0 = .ok (.iconst 0, 1) := by decide +kernel
theorem dX5_rational_1 : decode cX5_rational 1 = .ok (.istore_n 2, 1) := by decide +kernel
theorem dX5_rational_2 : decode cX5_rational 2 = .ok (.iconst 0, 1) := by decide +kernel
theorem dX5_rational_3 : decode cX5_rational 3 = .ok (.istore_n 3, 1) := by decide +kernel
theorem dX5_rational_4 : decode cX5_rational 4 = .ok (.iload_n 3, 1) := by decide +kernel
theorem dX5_rational_5 : decode cX5_rational 5 = .ok (.aload_n 1, 1) := by decide +kernel
theorem dX5_rational_6 : decode cX5_rational 6 = .ok (.getfield 100, 3) := by decide +kernel
theorem dX5_rational_9 : decode cX5_rational 9 = .ok (.iconst 1, 1) := by decide +kernel
theorem dX5_rational_10 : decode cX5_rational 10 = .ok (.isub, 1) := by decide +kernel
theorem dX5_rational_11 : decode cX5_rational 11 = .ok (.if_icmp .ge 18, 3) := by decide +kernel
theorem dX5_rational_14 : decode cX5_rational 14 = .ok (.iload_n 2, 1) := by decide +kernel
theorem dX5_rational_15 : decode cX5_rational 15 = .ok (.aload_n 0, 1) := by decide +kernel
theorem dX5_rational_16 : decode cX5_rational 16 = .ok (.aload_n 1, 1) := by decide +kernel
theorem dX5_rational_17 : decode cX5_rational 17 = .ok (.iload_n 3, 1) := by decide +kernel
theorem dX5_rational_18 : decode cX5_rational 18 = .ok (.invokevirtual 103, 3) := by decide +kernel
theorem dX5_rational_21 : decode cX5_rational 21 = .ok (.iadd, 1) := by decide +kernel
theorem dX5_rational_22 : decode cX5_rational 22 = .ok (.istore_n 2, 1) := by decide +kernel
theorem dX5_rational_23 : decode cX5_rational 23 = .ok (.iinc 3 1, 3) := by decide +kernel
theorem dX5_rational_26 : decode cX5_rational 26 = .ok (.goto (-22), 3) := by decide +kernel
theorem dX5_rational_29 : decode cX5_rational 29 = .ok (.iload_n 2, 1) := by decide +kernel
theorem dX5_rational_30 : decode cX5_rational 30 = .ok (.ireturn, 1) := by decide +kernel
set_option maxRecDepth 20000 in
theorem b_X5_rational_0 {k n : Nat} {x : Wx} {Z : Zt} {Q : Option Value → Wx → Zt → Prop} {a0 : Nat} {a1 : Nat} 
    (h : V mX5_rational k n 4 [some (r_ a0), some (r_ a1), some (i_ 0), some (i_ 0)] [] x Z Q) :
    V mX5_rational k n 0 [some (r_ a0), some (r_ a1), none, none] [] x Z Q :=
  V_iconst dX5_rational_0 (V_istore_n (lv' := [some (r_ a0), some (r_ a1), some (i_ 0), none]) dX5_rational_1 (Nat.le_of_ble_eq_true rfl) rfl (V_iconst dX5_rational_2 (V_istore_n (lv' := [some (r_ a0), some (r_ a1), some (i_ 0), some (i_ 0)]) dX5_rational_3 (Nat.le_of_ble_eq_true rfl) rfl (V_msk [true, true, true, true] rfl h))))
set_option maxRecDepth 20000 in
theorem b_X5_rational_4 {k n : Nat} {x : Wx} {Z : Zt} {Q : Option Value → Wx → Zt → Prop} {a0 : Nat} {a1 : Nat} {v2 : Int} {v3 : Int} (o_a1 : Is2 x a1) (o_a0 : Is5 x a0)
    (h : Rg v3 ∧ Rg ((Z a1 3) - 1) ∧ ((((Z a1 3) - 1 ≤ v3) → (Q (some (i_ v2)) x Z)) ∧ ((v3 < (Z a1 3) - 1) → (∃ g1 : Int, (∃ g2 : Nat → Int, (∃ g3 : Nat → Int, (∃ g4 : Nat → Int, (IsP g1 ∧ CvA Z a1 g1 g2 ∧ PA Z (a0 + 3) g1 g3 ∧ PA Z (a0 + 5) g1 g4 ∧ (0 ≤ v3 ∧ v3 < (pall g1 g2).length) ∧ (a1 + 16 ≤ a0 ∨ a0 + 12 ≤ a1) ∧ (∀ (Z'1 : Zt), (Oth Z Z'1 (fun b => b = a1 ∨ b = a1 + 13 ∨ b = a1 + 14 ∨ b = a1 + 15 ∨ b = a0 + 11) ∧ (∀ i : Nat, i < 14 → Z'1 a1 i = Z a1 i)) → (V mX5_rational k n 4 [some (r_ a0), some (r_ a1), some (i_ (v2 + (ordA g1 g2 g3 g4 v3))), some (i_ (v3 + 1))] [] x Z'1 Q)))))))))) :
    V mX5_rational k n 4 [some (r_ a0), some (r_ a1), some (i_ v2), some (i_ v3)] [] x Z Q :=
  V_iload_n dX5_rational_4 rfl (V_aload_n dX5_rational_5 rfl (G_2_3 o_a1.1 lf_5_100 dX5_rational_6 (V_iconst dX5_rational_9 (V_isub dX5_rational_10 (V_icmp_ge (tgt := 29) dX5_rational_11 rfl h.1 h.2.1 (fun c1 => V_iload_n dX5_rational_29 rfl (V_iret (ty := .int) dX5_rational_30 rfl rfl (h.2.2.1 c1))) (fun c1 => V_iload_n dX5_rational_14 rfl (V_aload_n dX5_rational_15 rfl (V_aload_n dX5_rational_16 rfl (V_iload_n dX5_rational_17 rfl (Exists.elim (h.2.2.2 c1) (fun g1 w1 => Exists.elim w1 (fun g2 w2 => Exists.elim w2 (fun g3 w3 => Exists.elim w3 (fun g4 w4 => V_callV (k' := 0) (n' := 0) (t := 5) (q := (RX5, TX5, 6)) [r_ a1, i_ v3] [i_ v2] okX5_orderAt o_a0.1 rfl rfl lm_5_103 liX5_orderAt lqX5_orderAt (Nat.le_of_ble_eq_true rfl) (Nat.le_of_ble_eq_true rfl) (Nat.le_of_ble_eq_true rfl) (cat_of rfl) (Nat.le_of_ble_eq_true rfl) (Nat.zero_le _) (Nat.zero_le _) rfl dX5_rational_18 (sp_X5_orderAt o_a0 o_a1 w4.1 w4.2.1 w4.2.2.1 w4.2.2.2.1 w4.2.2.2.2.1 w4.2.2.2.2.2.1 (fun Z'1 p1 => V_iadd dX5_rational_21 (V_istore_n (lv' := [some (r_ a0), some (r_ a1), some (i_ (v2 + (ordA g1 g2 g3 g4 v3))), some (i_ v3)]) dX5_rational_22 (Nat.le_of_ble_eq_true rfl) rfl (V_iinc (lv' := [some (r_ a0), some (r_ a1), some (i_ (v2 + (ordA g1 g2 g3 g4 v3))), some (i_ (v3 + 1))]) dX5_rational_23 rfl (Nat.le_of_ble_eq_true rfl) rfl (V_goto (tgt := 4) dX5_rational_26 rfl (V_msk [true, true, true, true] rfl (w4.2.2.2.2.2.2 Z'1 p1)))))))))))))))))))))
/-! ===== Measured: the sum of the ORDERS at the POINTS but FAR ===== -/
def ratS (p : Int) (F A B : Nat → Int) : Nat → Int
  | 0 => 0
  | i + 1 => ratS p F A B i + ordA p F A B i
theorem sp_X5_rational {k n : Nat} {x : Wx} {Z : Zt} {Q : Option Value → Wx → Zt → Prop} {m c : Nat} (o : Is5 x m) (oc : Is2 x c) {p : Int} {F A B : Nat → Int} (hp : IsP p) (hC : CvA Z c p F) (hA : PA Z (m + 3) p A) (hB : PA Z (m + 5) p B) (hcm : c + 16 ≤ m ∨ m + 12 ≤ c) (h : ∀ Z' : Zt, (Oth Z Z' (fun b => b = c ∨ b = c + 13 ∨ b = c + 14 ∨ b = c + 15 ∨ b = m + 11) ∧ (∀ i : Nat, i < 14 → Z' c i = Z c i)) → Q (some (i_ (ratS p F A B ((pall p F).length - 1)))) x Z') : V mX5_rational k n 0 [some (r_ m), some (r_ c), none, none] [] x Z Q := by
  have hl := pall_len hp F
  have h3 := hC.2.2.1.1
  have lp : ∀ (r i : Nat) (w : Int) (Z1 : Zt), w = i → i + r = (pall p F).length - 1 → Oth Z Z1 (fun b => b = c ∨ b = c + 13 ∨ b = c + 14 ∨ b = c + 15 ∨ b = m + 11) → (∀ i : Nat, i < 14 → Z1 c i = Z c i) → V mX5_rational k n 4 [some (r_ m), some (r_ c), some (i_ (ratS p F A B i)), some (i_ w)] [] x Z1 Q := by
    intro r
    induction r with
    | zero =>
      intro i w Z1 hw hi ho hc
      refine b_X5_rational_4 oc o ?_
      rw [hc 3 (by decide), h3]
      refine ⟨⟨by omega, by omega⟩, ⟨by omega, by omega⟩, fun _ => ?_, fun c2 => by omega⟩
      rw [show i = (pall p F).length - 1 by omega]
      exact h Z1 ⟨ho, hc⟩
    | succ r ih =>
      intro i w Z1 hw hi ho hc
      refine b_X5_rational_4 oc o ?_
      rw [hc 3 (by decide), h3]
      refine ⟨⟨by omega, by omega⟩, ⟨by omega, by omega⟩, fun c2 => by omega, fun _ => ⟨p, F, A, B, hp, hC.kept (fun b h1 h2 => ho b (by omega)) hc, hA.kept ho (by omega) (by omega), hB.kept ho (by omega) (by omega), ⟨by omega, by omega⟩, hcm, fun Z2 hz2 => ?_⟩⟩
      have := ih (i + 1) (w + 1) Z2 (by omega) (by omega) (ho.tr hz2.1) (fun q hq => (hz2.2 q hq).trans (hc q hq))
      have e : ratS p F A B (i + 1) = ratS p F A B i + ordA p F A B w := by rw [hw]; rfl
      rw [e] at this
      exact this
  exact b_X5_rational_0 (lp ((pall p F).length - 1) 0 0 Z rfl (by omega) Oth.rf (fun _ _ => rfl))
