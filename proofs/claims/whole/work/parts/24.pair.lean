/-! ===== Pair: a class told by U and V ===== -/
theorem dX7_matches_0 : decode cX7_matches 0 = .ok (.aload_n 0, 1) := by decide +kernel
theorem dX7_matches_1 : decode cX7_matches 1 = .ok (.getfield 9, 3) := by decide +kernel
theorem dX7_matches_4 : decode cX7_matches 4 = .ok (.aload_n 1, 1) := by decide +kernel
theorem dX7_matches_5 : decode cX7_matches 5 = .ok (.getfield 9, 3) := by decide +kernel
theorem dX7_matches_8 : decode cX7_matches 8 = .ok (.if_icmp .ne 7, 3) := by decide +kernel
theorem dX7_matches_11 : decode cX7_matches 11 = .ok (.iconst 1, 1) := by decide +kernel
theorem dX7_matches_12 : decode cX7_matches 12 = .ok (.goto 4, 3) := by decide +kernel
theorem dX7_matches_15 : decode cX7_matches 15 = .ok (.iconst 0, 1) := by decide +kernel
theorem dX7_matches_16 : decode cX7_matches 16 = .ok (.istore_n 2, 1) := by decide +kernel
theorem dX7_matches_17 : decode cX7_matches 17 = .ok (.iconst 0, 1) := by decide +kernel
theorem dX7_matches_18 : decode cX7_matches 18 = .ok (.istore_n 3, 1) := by decide +kernel
theorem dX7_matches_19 : decode cX7_matches 19 = .ok (.iload_n 3, 1) := by decide +kernel
theorem dX7_matches_20 : decode cX7_matches 20 = .ok (.aload_n 0, 1) := by decide +kernel
theorem dX7_matches_21 : decode cX7_matches 21 = .ok (.getfield 9, 3) := by decide +kernel
theorem dX7_matches_24 : decode cX7_matches 24 = .ok (.if_icmp .gt 34, 3) := by decide +kernel
theorem dX7_matches_27 : decode cX7_matches 27 = .ok (.iload_n 2, 1) := by decide +kernel
theorem dX7_matches_28 : decode cX7_matches 28 = .ok (.ifCond .eq 30, 3) := by decide +kernel
theorem dX7_matches_31 : decode cX7_matches 31 = .ok (.aload_n 0, 1) := by decide +kernel
theorem dX7_matches_32 : decode cX7_matches 32 = .ok (.getfield 15, 3) := by decide +kernel
theorem dX7_matches_35 : decode cX7_matches 35 = .ok (.iload_n 3, 1) := by decide +kernel
theorem dX7_matches_36 : decode cX7_matches 36 = .ok (.iaload, 1) := by decide +kernel
theorem dX7_matches_37 : decode cX7_matches 37 = .ok (.aload_n 1, 1) := by decide +kernel
theorem dX7_matches_38 : decode cX7_matches 38 = .ok (.getfield 15, 3) := by decide +kernel
theorem dX7_matches_41 : decode cX7_matches 41 = .ok (.iload_n 3, 1) := by decide +kernel
theorem dX7_matches_42 : decode cX7_matches 42 = .ok (.iaload, 1) := by decide +kernel
theorem dX7_matches_43 : decode cX7_matches 43 = .ok (.if_icmp .ne 7, 3) := by decide +kernel
theorem dX7_matches_46 : decode cX7_matches 46 = .ok (.iconst 1, 1) := by decide +kernel
theorem dX7_matches_47 : decode cX7_matches 47 = .ok (.goto 4, 3) := by decide +kernel
theorem dX7_matches_50 : decode cX7_matches 50 = .ok (.iconst 0, 1) := by decide +kernel
theorem dX7_matches_51 : decode cX7_matches 51 = .ok (.istore_n 2, 1) := by decide +kernel
theorem dX7_matches_52 : decode cX7_matches 52 = .ok (.iinc 3 1, 3) := by decide +kernel
theorem dX7_matches_55 : decode cX7_matches 55 = .ok (.goto (-36), 3) := by decide +kernel
theorem dX7_matches_58 : decode cX7_matches 58 = .ok (.iload_n 2, 1) := by decide +kernel
theorem dX7_matches_59 : decode cX7_matches 59 = .ok (.ireturn, 1) := by decide +kernel
set_option maxRecDepth 20000 in
theorem b_X7_matches_0 {k n : Nat} {x : Wx} {Z : Zt} {Q : Option Value → Wx → Zt → Prop} {a0 : Nat} {a1 : Nat} (o_a0 : Is7 x a0) (o_a1 : Is7 x a1)
    (h : Rg (Z a0 0) ∧ Rg (Z a1 0) ∧ (((Z a0 0 ≠ Z a1 0) → (V mX7_matches k n 19 [some (r_ a0), some (r_ a1), some (i_ 0), some (i_ 0)] [] x Z Q)) ∧ ((Z a0 0 = Z a1 0) → (V mX7_matches k n 19 [some (r_ a0), some (r_ a1), some (i_ 1), some (i_ 0)] [] x Z Q)))) :
    V mX7_matches k n 0 [some (r_ a0), some (r_ a1), none, none] [] x Z Q :=
  V_aload_n dX7_matches_0 rfl (G_7_0 o_a0.1 lf_7_9 dX7_matches_1 (V_aload_n dX7_matches_4 rfl (G_7_0 o_a1.1 lf_7_9 dX7_matches_5 (V_icmp_ne (tgt := 15) dX7_matches_8 rfl h.1 h.2.1 (fun c1 => V_iconst dX7_matches_15 (V_istore_n (lv' := [some (r_ a0), some (r_ a1), some (i_ 0), none]) dX7_matches_16 (Nat.le_of_ble_eq_true rfl) rfl (V_iconst dX7_matches_17 (V_istore_n (lv' := [some (r_ a0), some (r_ a1), some (i_ 0), some (i_ 0)]) dX7_matches_18 (Nat.le_of_ble_eq_true rfl) rfl (V_msk [true, true, true, true] rfl (h.2.2.1 c1)))))) (fun c1 => V_iconst dX7_matches_11 (V_goto (tgt := 16) dX7_matches_12 rfl (V_istore_n (lv' := [some (r_ a0), some (r_ a1), some (i_ 1), none]) dX7_matches_16 (Nat.le_of_ble_eq_true rfl) rfl (V_iconst dX7_matches_17 (V_istore_n (lv' := [some (r_ a0), some (r_ a1), some (i_ 1), some (i_ 0)]) dX7_matches_18 (Nat.le_of_ble_eq_true rfl) rfl (V_msk [true, true, true, true] rfl (h.2.2.2 c1)))))))))))
set_option maxRecDepth 20000 in
theorem b_X7_matches_19 {k n : Nat} {x : Wx} {Z : Zt} {Q : Option Value → Wx → Zt → Prop} {a0 : Nat} {a1 : Nat} {v2 : Int} {v3 : Int} (o_a0 : Is7 x a0) (o_a1 : Is7 x a1)
    (h : Rg v3 ∧ Rg (Z a0 0) ∧ (((Z a0 0 < v3) → ((v2 = 0 ∨ v2 = 1) ∧ (Q (some (i_ v2)) x Z))) ∧ ((v3 ≤ Z a0 0) → (Rg v2 ∧ (((v2 = 0) → ((v2 = 0 ∨ v2 = 1) ∧ (Q (some (i_ v2)) x Z))) ∧ ((v2 ≠ 0) → (0 ≤ v3 ∧ v3 < 10 ∧ (Rg (Z (a0 + 1) v3.toNat) ∧ Rg (Z (a1 + 1) v3.toNat) ∧ (((Z (a0 + 1) v3.toNat ≠ Z (a1 + 1) v3.toNat) → (V mX7_matches k n 19 [some (r_ a0), some (r_ a1), some (i_ 0), some (i_ (v3 + 1))] [] x Z Q)) ∧ ((Z (a0 + 1) v3.toNat = Z (a1 + 1) v3.toNat) → (V mX7_matches k n 19 [some (r_ a0), some (r_ a1), some (i_ 1), some (i_ (v3 + 1))] [] x Z Q))))))))))) :
    V mX7_matches k n 19 [some (r_ a0), some (r_ a1), some (i_ v2), some (i_ v3)] [] x Z Q :=
  V_iload_n dX7_matches_19 rfl (V_aload_n dX7_matches_20 rfl (G_7_0 o_a0.1 lf_7_9 dX7_matches_21 (V_icmp_gt (tgt := 58) dX7_matches_24 rfl h.1 h.2.1 (fun c1 => V_iload_n dX7_matches_58 rfl (V_iret (ty := .boolean) dX7_matches_59 rfl (nar_z (h.2.2.1 c1).1) (h.2.2.1 c1).2)) (fun c1 => V_iload_n dX7_matches_27 rfl (V_if_eq (tgt := 58) dX7_matches_28 rfl (h.2.2.2 c1).1 (fun c2 => V_iload_n dX7_matches_58 rfl (V_iret (ty := .boolean) dX7_matches_59 rfl (nar_z ((h.2.2.2 c1).2.1 c2).1) ((h.2.2.2 c1).2.1 c2).2)) (fun c2 => V_aload_n dX7_matches_31 rfl (G_7_1 o_a0.1 o_a0.2.1 lf_7_15 dX7_matches_32 (V_iload_n dX7_matches_35 rfl (V_iald (t := 100) o_a0.2.2 (by decide) rfl ((h.2.2.2 c1).2.2 c2).1 ((h.2.2.2 c1).2.2 c2).2.1 (Nat.le_of_ble_eq_true rfl) dX7_matches_36 (V_aload_n dX7_matches_37 rfl (G_7_1 o_a1.1 o_a1.2.1 lf_7_15 dX7_matches_38 (V_iload_n dX7_matches_41 rfl (V_iald (t := 100) o_a1.2.2 (by decide) rfl ((h.2.2.2 c1).2.2 c2).1 ((h.2.2.2 c1).2.2 c2).2.1 (Nat.le_of_ble_eq_true rfl) dX7_matches_42 (V_icmp_ne (tgt := 50) dX7_matches_43 rfl ((h.2.2.2 c1).2.2 c2).2.2.1 ((h.2.2.2 c1).2.2 c2).2.2.2.1 (fun c3 => V_iconst dX7_matches_50 (V_istore_n (lv' := [some (r_ a0), some (r_ a1), some (i_ 0), some (i_ v3)]) dX7_matches_51 (Nat.le_of_ble_eq_true rfl) rfl (V_iinc (lv' := [some (r_ a0), some (r_ a1), some (i_ 0), some (i_ (v3 + 1))]) dX7_matches_52 rfl (Nat.le_of_ble_eq_true rfl) rfl (V_goto (tgt := 19) dX7_matches_55 rfl (V_msk [true, true, true, true] rfl (((h.2.2.2 c1).2.2 c2).2.2.2.2.1 c3)))))) (fun c3 => V_iconst dX7_matches_46 (V_goto (tgt := 51) dX7_matches_47 rfl (V_istore_n (lv' := [some (r_ a0), some (r_ a1), some (i_ 1), some (i_ v3)]) dX7_matches_51 (Nat.le_of_ble_eq_true rfl) rfl (V_iinc (lv' := [some (r_ a0), some (r_ a1), some (i_ 1), some (i_ (v3 + 1))]) dX7_matches_52 rfl (Nat.le_of_ble_eq_true rfl) rfl (V_goto (tgt := 19) dX7_matches_55 rfl (V_msk [true, true, true, true] rfl (((h.2.2.2 c1).2.2 c2).2.2.2.2.2 c3)))))))))))))))))))))
theorem fn_eq {f g : Nat → Int} {d : Int} (hf : ∀ i : Nat, d < i → f i = 0) (hg : ∀ i : Nat, d < i → g i = 0) (h : ∀ i : Nat, (i : Int) ≤ d → f i = g i) : f = g := by
  funext i
  by_cases c : (i : Int) ≤ d
  · exact h i c
  · rw [hf i (by omega), hg i (by omega)]
theorem sp_X7_matches {k n : Nat} {x : Wx} {Z : Zt} {Q : Option Value → Wx → Zt → Prop} {a b : Nat} (o : Is7 x a) (ob : Is7 x b) {p : Int} {f g : Nat → Int} (hf : PA Z a p f) (hg : PA Z b p g) (hp : p ≤ 13) (h : ∀ r : Int, ((r = 0 ∨ r = 1) ∧ (r = 1 ↔ f = g)) → Q (some (i_ r)) x Z) : V mX7_matches k n 0 [some (r_ a), some (r_ b), none, none] [] x Z Q := by
  have d1 := hf.dgr
  have d2 := hg.dgr
  have lp0 : ∀ (v : Int), 0 ≤ v → v ≤ 11 → f ≠ g → V mX7_matches k n 19 [some (r_ a), some (r_ b), some (i_ 0), some (i_ v)] [] x Z Q := by
    intro v h0 h1 hne
    have hh := h 0 ⟨Or.inl rfl, by constructor <;> intro e; omega; exact absurd e hne⟩
    exact b_X7_matches_19 o ob ⟨⟨by omega, by omega⟩, ⟨by omega, by omega⟩, fun _ => ⟨Or.inl rfl, hh⟩, fun _ => ⟨⟨by decide, by decide⟩, fun _ => ⟨Or.inl rfl, hh⟩, fun c => absurd rfl c⟩⟩
  have lp : ∀ (m : Nat) (v : Int), 0 ≤ v → v + m = Z a 0 + 1 → Z a 0 = Z b 0 → (∀ i : Nat, (i : Int) < v → f i = g i) → V mX7_matches k n 19 [some (r_ a), some (r_ b), some (i_ 1), some (i_ v)] [] x Z Q := by
    intro m
    induction m with
    | zero =>
      intro v h0 h1 he hi
      have hh := h 1 ⟨Or.inr rfl, ⟨fun _ => fn_eq (fun i hi => hf.hi i hi) (fun i hi => hg.hi i (by omega)) (fun i h9 => hi i (by omega)), fun _ => rfl⟩⟩
      exact b_X7_matches_19 o ob ⟨⟨by omega, by omega⟩, ⟨by omega, by omega⟩, fun _ => ⟨Or.inr rfl, hh⟩, fun c => by omega⟩
    | succ m ih =>
      intro v h0 h1 he hi
      have e1 := hf.1 v.toNat (by omega)
      have e2 := hg.1 v.toNat (by omega)
      refine b_X7_matches_19 o ob ⟨⟨by omega, by omega⟩, ⟨by omega, by omega⟩, fun c => by omega, fun c => ⟨⟨by decide, by decide⟩, fun c2 => by omega, fun _ => ⟨h0, by omega, hf.rg hp _ (by omega), hg.rg hp _ (by omega), fun c2 => ?_, fun c2 => ?_⟩⟩⟩
      · refine lp0 (v + 1) (by omega) (by omega) (fun e => c2 ?_)
        rw [e1, e2, e]
      · refine ih (v + 1) (by omega) (by omega) he (fun i h9 => ?_)
        by_cases c3 : (i : Int) < v
        · exact hi i c3
        · rw [show i = v.toNat by omega, ← e1, ← e2]; exact c2
  refine b_X7_matches_0 o ob ⟨⟨by omega, by omega⟩, ⟨by omega, by omega⟩, fun c => lp0 0 (by omega) (by omega) (fun e => c ?_), fun c => lp (Z a 0 + 1).toNat 0 (by omega) (by omega) c (fun i h9 => by omega)⟩
  rw [hf.2.2.2, hg.2.2.2, e]
theorem dX6_nothing_0 : decode cX6_nothing 0 = .ok (.aload_n 0, 1) := by decide +kernel
theorem dX6_nothing_1 : decode cX6_nothing 1 = .ok (.getfield 10, 3) := by decide +kernel
theorem dX6_nothing_4 : decode cX6_nothing 4 = .ok (.invokevirtual 19, 3) := by decide +kernel
theorem dX6_nothing_7 : decode cX6_nothing 7 = .ok (.aload_n 0, 1) := by decide +kernel
theorem dX6_nothing_8 : decode cX6_nothing 8 = .ok (.getfield 10, 3) := by decide +kernel
theorem dX6_nothing_11 : decode cX6_nothing 11 = .ok (.iconst 0, 1) := by decide +kernel
theorem dX6_nothing_12 : decode cX6_nothing 12 = .ok (.iconst 1, 1) := by decide +kernel
theorem dX6_nothing_13 : decode cX6_nothing 13 = .ok (.invokevirtual 22, 3) := by decide +kernel
theorem dX6_nothing_16 : decode cX6_nothing 16 = .ok (.aload_n 0, 1) := by decide +kernel
theorem dX6_nothing_17 : decode cX6_nothing 17 = .ok (.getfield 16, 3) := by decide +kernel
theorem dX6_nothing_20 : decode cX6_nothing 20 = .ok (.invokevirtual 19, 3) := by decide +kernel
theorem dX6_nothing_23 : decode cX6_nothing 23 = .ok (.return_, 1) := by decide +kernel
set_option maxRecDepth 20000 in
theorem b_X6_nothing_0 {k n : Nat} {x : Wx} {Z : Zt} {Q : Option Value → Wx → Zt → Prop} {a0 : Nat} (o_a0 : Is6 x a0)
    (h : ∀ (Z'1 : Zt), (PA Z'1 (a0 + 1) 1 (fun _ => 0) ∧ Oth Z Z'1 (At2 (a0 + 1))) → (∃ g1 : Int, (∃ g2 : Nat → Int, (PA Z'1 (a0 + 1) g1 g2 ∧ 0 ≤ (0 : Int) ∧ (0 : Int) < 10 ∧ (0 ≤ (1 : Int) ∧ (1 : Int) < g1) ∧ g1 ≤ 13 ∧ (∀ (Z'2 : Zt), (PA Z'2 (a0 + 1) g1 (fun j => if j = (Int.toNat (0 : Int)) then (1 : Int) else g2 j) ∧ Oth Z'1 Z'2 (At2 (a0 + 1))) → (∀ (Z'3 : Zt), (PA Z'3 (a0 + 3) 1 (fun _ => 0) ∧ Oth Z'2 Z'3 (At2 (a0 + 3))) → (Q none x Z'3))))))) :
    V mX6_nothing k n 0 [some (r_ a0)] [] x Z Q :=
  V_aload_n dX6_nothing_0 rfl (G_6_0 o_a0.1 o_a0.2.1 lf_6_10 dX6_nothing_1 (V_callV (k' := 0) (n' := 0) (t := 7) (q := (RX7, TX7, 2)) [] [] okX7_clear o_a0.2.2.1.1 rfl rfl lm_6_19 liX7_clear lqX7_clear (Nat.le_of_ble_eq_true rfl) (Nat.le_of_ble_eq_true rfl) (Nat.le_of_ble_eq_true rfl) (cat_of rfl) (Nat.le_of_ble_eq_true rfl) (Nat.zero_le _) (Nat.zero_le _) rfl dX6_nothing_4 (sp_X7_clear o_a0.2.2.1  (fun Z'1 p1 => V_aload_n dX6_nothing_7 rfl (G_6_0 o_a0.1 o_a0.2.1 lf_6_10 dX6_nothing_8 (V_iconst dX6_nothing_11 (V_iconst dX6_nothing_12 (Exists.elim (h Z'1 p1) (fun g1 w1 => Exists.elim w1 (fun g2 w2 => V_callV (k' := 0) (n' := 0) (t := 7) (q := (RX7, TX7, 2)) [i_ 0, i_ 1] [] okX7_put o_a0.2.2.1.1 rfl rfl lm_6_22 liX7_put lqX7_put (Nat.le_of_ble_eq_true rfl) (Nat.le_of_ble_eq_true rfl) (Nat.le_of_ble_eq_true rfl) (cat_of rfl) (Nat.le_of_ble_eq_true rfl) (Nat.zero_le _) (Nat.zero_le _) rfl dX6_nothing_13 (sp_X7_put o_a0.2.2.1 w2.1 w2.2.1 w2.2.2.1 w2.2.2.2.1 w2.2.2.2.2.1 (fun Z'2 p2 => V_aload_n dX6_nothing_16 rfl (G_6_1 o_a0.1 o_a0.2.2.2.1 lf_6_16 dX6_nothing_17 (V_callV (k' := 0) (n' := 0) (t := 7) (q := (RX7, TX7, 2)) [] [] okX7_clear o_a0.2.2.2.2.1 rfl rfl lm_6_19 liX7_clear lqX7_clear (Nat.le_of_ble_eq_true rfl) (Nat.le_of_ble_eq_true rfl) (Nat.le_of_ble_eq_true rfl) (cat_of rfl) (Nat.le_of_ble_eq_true rfl) (Nat.zero_le _) (Nat.zero_le _) rfl dX6_nothing_20 (sp_X7_clear o_a0.2.2.2.2  (fun Z'3 p3 => V_ret dX6_nothing_23 rfl ((w2.2.2.2.2.2 Z'2 p2) Z'3 p3)))))))))))))))))
theorem dX6_place_0 : decode cX6_place 0 = .ok (.aload_n 0, 1) := by decide +kernel
theorem dX6_place_1 : decode cX6_place 1 = .ok (.getfield 10, 3) := by decide +kernel
theorem dX6_place_4 : decode cX6_place 4 = .ok (.invokevirtual 19, 3) := by decide +kernel
theorem dX6_place_7 : decode cX6_place 7 = .ok (.aload_n 0, 1) := by decide +kernel
theorem dX6_place_8 : decode cX6_place 8 = .ok (.getfield 10, 3) := by decide +kernel
theorem dX6_place_11 : decode cX6_place 11 = .ok (.iconst 1, 1) := by decide +kernel
theorem dX6_place_12 : decode cX6_place 12 = .ok (.iconst 1, 1) := by decide +kernel
theorem dX6_place_13 : decode cX6_place 13 = .ok (.invokevirtual 22, 3) := by decide +kernel
theorem dX6_place_16 : decode cX6_place 16 = .ok (.aload_n 0, 1) := by decide +kernel
theorem dX6_place_17 : decode cX6_place 17 = .ok (.getfield 10, 3) := by decide +kernel
theorem dX6_place_20 : decode cX6_place 20 = .ok (.iconst 0, 1) := by decide +kernel
theorem dX6_place_21 : decode cX6_place 21 = .ok (.aload_n 1, 1) := by decide +kernel
theorem dX6_place_22 : decode cX6_place 22 = .ok (.iload_n 2, 1) := by decide +kernel
theorem dX6_place_23 : decode cX6_place 23 = .ok (.ineg, 1) := by decide +kernel
theorem dX6_place_24 : decode cX6_place 24 = .ok (.invokevirtual 26, 3) := by decide +kernel
theorem dX6_place_27 : decode cX6_place 27 = .ok (.invokevirtual 22, 3) := by decide +kernel
theorem dX6_place_30 : decode cX6_place 30 = .ok (.aload_n 0, 1) := by decide +kernel
theorem dX6_place_31 : decode cX6_place 31 = .ok (.getfield 16, 3) := by decide +kernel
theorem dX6_place_34 : decode cX6_place 34 = .ok (.invokevirtual 19, 3) := by decide +kernel
theorem dX6_place_37 : decode cX6_place 37 = .ok (.aload_n 0, 1) := by decide +kernel
theorem dX6_place_38 : decode cX6_place 38 = .ok (.getfield 16, 3) := by decide +kernel
theorem dX6_place_41 : decode cX6_place 41 = .ok (.iconst 0, 1) := by decide +kernel
theorem dX6_place_42 : decode cX6_place 42 = .ok (.aload_n 1, 1) := by decide +kernel
theorem dX6_place_43 : decode cX6_place 43 = .ok (.iload_n 3, 1) := by decide +kernel
theorem dX6_place_44 : decode cX6_place 44 = .ok (.invokevirtual 26, 3) := by decide +kernel
theorem dX6_place_47 : decode cX6_place 47 = .ok (.invokevirtual 22, 3) := by decide +kernel
theorem dX6_place_50 : decode cX6_place 50 = .ok (.return_, 1) := by decide +kernel
set_option maxRecDepth 20000 in
theorem b_X6_place_0 {k n : Nat} {x : Wx} {Z : Zt} {Q : Option Value → Wx → Zt → Prop} {a0 : Nat} {a1 : Nat} {v2 : Int} {v3 : Int} (o_a0 : Is6 x a0) (o_a1 : Is4 x a1)
    (h : ∀ (Z'1 : Zt), (PA Z'1 (a0 + 1) 1 (fun _ => 0) ∧ Oth Z Z'1 (At2 (a0 + 1))) → (∃ g1 : Int, (∃ g2 : Nat → Int, (PA Z'1 (a0 + 1) g1 g2 ∧ 0 ≤ (1 : Int) ∧ (1 : Int) < 10 ∧ (0 ≤ (1 : Int) ∧ (1 : Int) < g1) ∧ g1 ≤ 13 ∧ (∀ (Z'2 : Zt), (PA Z'2 (a0 + 1) g1 (fun j => if j = (Int.toNat (1 : Int)) then (1 : Int) else g2 j) ∧ Oth Z'1 Z'2 (At2 (a0 + 1))) → (Rg (-v2) ∧ 2 ≤ Z'2 a1 0 ∧ Z'2 a1 0 ≤ 13 ∧ (∃ g3 : Int, (∃ g4 : Nat → Int, (PA Z'2 (a0 + 1) g3 g4 ∧ 0 ≤ (0 : Int) ∧ (0 : Int) < 10 ∧ (0 ≤ ((-v2) % Z'2 a1 0) ∧ ((-v2) % Z'2 a1 0) < g3) ∧ g3 ≤ 13 ∧ (∀ (Z'3 : Zt), (PA Z'3 (a0 + 1) g3 (fun j => if j = (Int.toNat (0 : Int)) then ((-v2) % Z'2 a1 0) else g4 j) ∧ Oth Z'2 Z'3 (At2 (a0 + 1))) → (∀ (Z'4 : Zt), (PA Z'4 (a0 + 3) 1 (fun _ => 0) ∧ Oth Z'3 Z'4 (At2 (a0 + 3))) → (Rg v3 ∧ 2 ≤ Z'4 a1 0 ∧ Z'4 a1 0 ≤ 13 ∧ (∃ g5 : Int, (∃ g6 : Nat → Int, (PA Z'4 (a0 + 3) g5 g6 ∧ 0 ≤ (0 : Int) ∧ (0 : Int) < 10 ∧ (0 ≤ (v3 % Z'4 a1 0) ∧ (v3 % Z'4 a1 0) < g5) ∧ g5 ≤ 13 ∧ (∀ (Z'5 : Zt), (PA Z'5 (a0 + 3) g5 (fun j => if j = (Int.toNat (0 : Int)) then (v3 % Z'4 a1 0) else g6 j) ∧ Oth Z'4 Z'5 (At2 (a0 + 3))) → (Q none x Z'5))))))))))))))))) :
    V mX6_place k n 0 [some (r_ a0), some (r_ a1), some (i_ v2), some (i_ v3)] [] x Z Q :=
  V_aload_n dX6_place_0 rfl (G_6_0 o_a0.1 o_a0.2.1 lf_6_10 dX6_place_1 (V_callV (k' := 0) (n' := 0) (t := 7) (q := (RX7, TX7, 2)) [] [] okX7_clear o_a0.2.2.1.1 rfl rfl lm_6_19 liX7_clear lqX7_clear (Nat.le_of_ble_eq_true rfl) (Nat.le_of_ble_eq_true rfl) (Nat.le_of_ble_eq_true rfl) (cat_of rfl) (Nat.le_of_ble_eq_true rfl) (Nat.zero_le _) (Nat.zero_le _) rfl dX6_place_4 (sp_X7_clear o_a0.2.2.1  (fun Z'1 p1 => V_aload_n dX6_place_7 rfl (G_6_0 o_a0.1 o_a0.2.1 lf_6_10 dX6_place_8 (V_iconst dX6_place_11 (V_iconst dX6_place_12 (Exists.elim (h Z'1 p1) (fun g1 w1 => Exists.elim w1 (fun g2 w2 => V_callV (k' := 0) (n' := 0) (t := 7) (q := (RX7, TX7, 2)) [i_ 1, i_ 1] [] okX7_put o_a0.2.2.1.1 rfl rfl lm_6_22 liX7_put lqX7_put (Nat.le_of_ble_eq_true rfl) (Nat.le_of_ble_eq_true rfl) (Nat.le_of_ble_eq_true rfl) (cat_of rfl) (Nat.le_of_ble_eq_true rfl) (Nat.zero_le _) (Nat.zero_le _) rfl dX6_place_13 (sp_X7_put o_a0.2.2.1 w2.1 w2.2.1 w2.2.2.1 w2.2.2.2.1 w2.2.2.2.2.1 (fun Z'2 p2 => V_aload_n dX6_place_16 rfl (G_6_0 o_a0.1 o_a0.2.1 lf_6_10 dX6_place_17 (V_iconst dX6_place_20 (V_aload_n dX6_place_21 rfl (V_iload_n dX6_place_22 rfl (V_ineg dX6_place_23 (V_callV (k' := 0) (n' := 0) (t := 4) (q := (RX4, TX4, 4)) [i_ (-v2)] [i_ 0, r_ (a0 + 1)] okX4_rem o_a1.1 rfl rfl lm_6_26 liX4_rem lqX4_rem (Nat.le_of_ble_eq_true rfl) (Nat.le_of_ble_eq_true rfl) (Nat.le_of_ble_eq_true rfl) (cat_of rfl) (Nat.le_of_ble_eq_true rfl) (Nat.zero_le _) (Nat.zero_le _) rfl dX6_place_24 (sp_X4_rem o_a1 (w2.2.2.2.2.2 Z'2 p2).1 (w2.2.2.2.2.2 Z'2 p2).2.1 (w2.2.2.2.2.2 Z'2 p2).2.2.1 (Exists.elim (w2.2.2.2.2.2 Z'2 p2).2.2.2 (fun g3 w3 => Exists.elim w3 (fun g4 w4 => V_callV (k' := 0) (n' := 0) (t := 7) (q := (RX7, TX7, 2)) [i_ 0, i_ ((-v2) % Z'2 a1 0)] [] okX7_put o_a0.2.2.1.1 rfl rfl lm_6_22 liX7_put lqX7_put (Nat.le_of_ble_eq_true rfl) (Nat.le_of_ble_eq_true rfl) (Nat.le_of_ble_eq_true rfl) (cat_of rfl) (Nat.le_of_ble_eq_true rfl) (Nat.zero_le _) (Nat.zero_le _) rfl dX6_place_27 (sp_X7_put o_a0.2.2.1 w4.1 w4.2.1 w4.2.2.1 w4.2.2.2.1 w4.2.2.2.2.1 (fun Z'3 p3 => V_aload_n dX6_place_30 rfl (G_6_1 o_a0.1 o_a0.2.2.2.1 lf_6_16 dX6_place_31 (V_callV (k' := 0) (n' := 0) (t := 7) (q := (RX7, TX7, 2)) [] [] okX7_clear o_a0.2.2.2.2.1 rfl rfl lm_6_19 liX7_clear lqX7_clear (Nat.le_of_ble_eq_true rfl) (Nat.le_of_ble_eq_true rfl) (Nat.le_of_ble_eq_true rfl) (cat_of rfl) (Nat.le_of_ble_eq_true rfl) (Nat.zero_le _) (Nat.zero_le _) rfl dX6_place_34 (sp_X7_clear o_a0.2.2.2.2  (fun Z'4 p4 => V_aload_n dX6_place_37 rfl (G_6_1 o_a0.1 o_a0.2.2.2.1 lf_6_16 dX6_place_38 (V_iconst dX6_place_41 (V_aload_n dX6_place_42 rfl (V_iload_n dX6_place_43 rfl (V_callV (k' := 0) (n' := 0) (t := 4) (q := (RX4, TX4, 4)) [i_ v3] [i_ 0, r_ (a0 + 3)] okX4_rem o_a1.1 rfl rfl lm_6_26 liX4_rem lqX4_rem (Nat.le_of_ble_eq_true rfl) (Nat.le_of_ble_eq_true rfl) (Nat.le_of_ble_eq_true rfl) (cat_of rfl) (Nat.le_of_ble_eq_true rfl) (Nat.zero_le _) (Nat.zero_le _) rfl dX6_place_44 (sp_X4_rem o_a1 ((w4.2.2.2.2.2 Z'3 p3) Z'4 p4).1 ((w4.2.2.2.2.2 Z'3 p3) Z'4 p4).2.1 ((w4.2.2.2.2.2 Z'3 p3) Z'4 p4).2.2.1 (Exists.elim ((w4.2.2.2.2.2 Z'3 p3) Z'4 p4).2.2.2 (fun g5 w5 => Exists.elim w5 (fun g6 w6 => V_callV (k' := 0) (n' := 0) (t := 7) (q := (RX7, TX7, 2)) [i_ 0, i_ (v3 % Z'4 a1 0)] [] okX7_put o_a0.2.2.2.2.1 rfl rfl lm_6_22 liX7_put lqX7_put (Nat.le_of_ble_eq_true rfl) (Nat.le_of_ble_eq_true rfl) (Nat.le_of_ble_eq_true rfl) (cat_of rfl) (Nat.le_of_ble_eq_true rfl) (Nat.zero_le _) (Nat.zero_le _) rfl dX6_place_47 (sp_X7_put o_a0.2.2.2.2 w6.1 w6.2.1 w6.2.2.1 w6.2.2.2.1 w6.2.2.2.2.1 (fun Z'5 p5 => V_ret dX6_place_50 rfl (w6.2.2.2.2.2 Z'5 p5))))))))))))))))))))))))))))))))))))))))
theorem dX6_copy_0 : decode cX6_copy 0 = .ok (.aload_n 0, 1) := by decide +kernel
theorem dX6_copy_1 : decode cX6_copy 1 = .ok (.getfield 10, 3) := by decide +kernel
theorem dX6_copy_4 : decode cX6_copy 4 = .ok (.aload_n 1, 1) := by decide +kernel
theorem dX6_copy_5 : decode cX6_copy 5 = .ok (.getfield 10, 3) := by decide +kernel
theorem dX6_copy_8 : decode cX6_copy 8 = .ok (.invokevirtual 32, 3) := by decide +kernel
theorem dX6_copy_11 : decode cX6_copy 11 = .ok (.aload_n 0, 1) := by decide +kernel
theorem dX6_copy_12 : decode cX6_copy 12 = .ok (.getfield 16, 3) := by decide +kernel
theorem dX6_copy_15 : decode cX6_copy 15 = .ok (.aload_n 1, 1) := by decide +kernel
theorem dX6_copy_16 : decode cX6_copy 16 = .ok (.getfield 16, 3) := by decide +kernel
theorem dX6_copy_19 : decode cX6_copy 19 = .ok (.invokevirtual 32, 3) := by decide +kernel
theorem dX6_copy_22 : decode cX6_copy 22 = .ok (.return_, 1) := by decide +kernel
set_option maxRecDepth 20000 in
theorem b_X6_copy_0 {k n : Nat} {x : Wx} {Z : Zt} {Q : Option Value → Wx → Zt → Prop} {a0 : Nat} {a1 : Nat} (o_a0 : Is6 x a0) (o_a1 : Is6 x a1)
    (h : ∃ g1 : Int, (∃ g2 : Nat → Int, (PA Z (a1 + 1) g1 g2 ∧ (∀ (Z'1 : Zt), (PA Z'1 (a0 + 1) g1 g2 ∧ Oth Z Z'1 (At2 (a0 + 1))) → (∃ g3 : Int, (∃ g4 : Nat → Int, (PA Z'1 (a1 + 3) g3 g4 ∧ (∀ (Z'2 : Zt), (PA Z'2 (a0 + 3) g3 g4 ∧ Oth Z'1 Z'2 (At2 (a0 + 3))) → (Q none x Z'2))))))))) :
    V mX6_copy k n 0 [some (r_ a0), some (r_ a1)] [] x Z Q :=
  V_aload_n dX6_copy_0 rfl (G_6_0 o_a0.1 o_a0.2.1 lf_6_10 dX6_copy_1 (V_aload_n dX6_copy_4 rfl (G_6_0 o_a1.1 o_a1.2.1 lf_6_10 dX6_copy_5 (Exists.elim h (fun g1 w1 => Exists.elim w1 (fun g2 w2 => V_callV (k' := 0) (n' := 0) (t := 7) (q := (RX7, TX7, 2)) [r_ (a1 + 1)] [] okX7_copy o_a0.2.2.1.1 rfl rfl lm_6_32 liX7_copy lqX7_copy (Nat.le_of_ble_eq_true rfl) (Nat.le_of_ble_eq_true rfl) (Nat.le_of_ble_eq_true rfl) (cat_of rfl) (Nat.le_of_ble_eq_true rfl) (Nat.zero_le _) (Nat.zero_le _) rfl dX6_copy_8 (sp_X7_copy o_a0.2.2.1 o_a1.2.2.1 w2.1 (fun Z'1 p1 => V_aload_n dX6_copy_11 rfl (G_6_1 o_a0.1 o_a0.2.2.2.1 lf_6_16 dX6_copy_12 (V_aload_n dX6_copy_15 rfl (G_6_1 o_a1.1 o_a1.2.2.2.1 lf_6_16 dX6_copy_16 (Exists.elim (w2.2 Z'1 p1) (fun g3 w3 => Exists.elim w3 (fun g4 w4 => V_callV (k' := 0) (n' := 0) (t := 7) (q := (RX7, TX7, 2)) [r_ (a1 + 3)] [] okX7_copy o_a0.2.2.2.2.1 rfl rfl lm_6_32 liX7_copy lqX7_copy (Nat.le_of_ble_eq_true rfl) (Nat.le_of_ble_eq_true rfl) (Nat.le_of_ble_eq_true rfl) (cat_of rfl) (Nat.le_of_ble_eq_true rfl) (Nat.zero_le _) (Nat.zero_le _) rfl dX6_copy_19 (sp_X7_copy o_a0.2.2.2.2 o_a1.2.2.2.2 w4.1 (fun Z'2 p2 => V_ret dX6_copy_22 rfl (w4.2 Z'2 p2)))))))))))))))))
theorem dX6_isNothing_0 : decode cX6_isNothing 0 = .ok (.aload_n 0, 1) := by decide +kernel
theorem dX6_isNothing_1 : decode cX6_isNothing 1 = .ok (.getfield 10, 3) := by decide +kernel
theorem dX6_isNothing_4 : decode cX6_isNothing 4 = .ok (.getfield 36, 3) := by decide +kernel
theorem dX6_isNothing_7 : decode cX6_isNothing 7 = .ok (.ifCond .gt 7, 3) := by decide +kernel
theorem dX6_isNothing_10 : decode cX6_isNothing 10 = .ok (.iconst 1, 1) := by decide +kernel
theorem dX6_isNothing_11 : decode cX6_isNothing 11 = .ok (.goto 4, 3) := by decide +kernel
theorem dX6_isNothing_14 : decode cX6_isNothing 14 = .ok (.iconst 0, 1) := by decide +kernel
theorem dX6_isNothing_15 : decode cX6_isNothing 15 = .ok (.ireturn, 1) := by decide +kernel
set_option maxRecDepth 20000 in
theorem b_X6_isNothing_0 {k n : Nat} {x : Wx} {Z : Zt} {Q : Option Value → Wx → Zt → Prop} {a0 : Nat} (o_a0 : Is6 x a0)
    (h : Rg (Z (a0 + 1) 0) ∧ (((0 < Z (a0 + 1) 0) → (Q (some (i_ 0)) x Z)) ∧ ((Z (a0 + 1) 0 ≤ 0) → (Q (some (i_ 1)) x Z)))) :
    V mX6_isNothing k n 0 [some (r_ a0)] [] x Z Q :=
  V_aload_n dX6_isNothing_0 rfl (G_6_0 o_a0.1 o_a0.2.1 lf_6_10 dX6_isNothing_1 (G_7_0 o_a0.2.2.1.1 lf_6_36 dX6_isNothing_4 (V_if_gt (tgt := 14) dX6_isNothing_7 rfl h.1 (fun c1 => V_iconst dX6_isNothing_14 (V_iret (ty := .boolean) dX6_isNothing_15 rfl rfl (h.2.1 c1))) (fun c1 => V_iconst dX6_isNothing_10 (V_goto (tgt := 15) dX6_isNothing_11 rfl (V_iret (ty := .boolean) dX6_isNothing_15 rfl rfl (h.2.2 c1)))))))
theorem dX6_matches_0 : decode cX6_matches 0 = .ok (.aload_n 0, 1) := by decide +kernel
theorem dX6_matches_1 : decode cX6_matches 1 = .ok (.getfield 10, 3) := by decide +kernel
theorem dX6_matches_4 : decode cX6_matches 4 = .ok (.aload_n 1, 1) := by decide +kernel
theorem dX6_matches_5 : decode cX6_matches 5 = .ok (.getfield 10, 3) := by decide +kernel
theorem dX6_matches_8 : decode cX6_matches 8 = .ok (.invokevirtual 40, 3) := by decide +kernel
theorem dX6_matches_11 : decode cX6_matches 11 = .ok (.ifCond .eq 21, 3) := by decide +kernel
theorem dX6_matches_14 : decode cX6_matches 14 = .ok (.aload_n 0, 1) := by decide +kernel
theorem dX6_matches_15 : decode cX6_matches 15 = .ok (.getfield 16, 3) := by decide +kernel
theorem dX6_matches_18 : decode cX6_matches 18 = .ok (.aload_n 1, 1) := by decide +kernel
theorem dX6_matches_19 : decode cX6_matches 19 = .ok (.getfield 16, 3) := by decide +kernel
theorem dX6_matches_22 : decode cX6_matches 22 = .ok (.invokevirtual 40, 3) := by decide +kernel
theorem dX6_matches_25 : decode cX6_matches 25 = .ok (.ifCond .eq 7, 3) := by decide +kernel
theorem dX6_matches_28 : decode cX6_matches 28 = .ok (.iconst 1, 1) := by decide +kernel
theorem dX6_matches_29 : decode cX6_matches 29 = .ok (.goto 4, 3) := by decide +kernel
theorem dX6_matches_32 : decode cX6_matches 32 = .ok (.iconst 0, 1) := by decide +kernel
theorem dX6_matches_33 : decode cX6_matches 33 = .ok (.ireturn, 1) := by decide +kernel
set_option maxRecDepth 20000 in
theorem b_X6_matches_0 {k n : Nat} {x : Wx} {Z : Zt} {Q : Option Value → Wx → Zt → Prop} {a0 : Nat} {a1 : Nat} (o_a0 : Is6 x a0) (o_a1 : Is6 x a1)
    (h : ∃ g1 : Int, (∃ g2 : Nat → Int, (∃ g3 : Nat → Int, (PA Z (a0 + 1) g1 g2 ∧ PA Z (a1 + 1) g1 g3 ∧ g1 ≤ 13 ∧ (∀ (r1 : Int), ((r1 = 0 ∨ r1 = 1) ∧ (r1 = 1 ↔ g2 = g3)) → (Rg r1 ∧ (((r1 = 0) → (Q (some (i_ 0)) x Z)) ∧ ((r1 ≠ 0) → (∃ g4 : Int, (∃ g5 : Nat → Int, (∃ g6 : Nat → Int, (PA Z (a0 + 3) g4 g5 ∧ PA Z (a1 + 3) g4 g6 ∧ g4 ≤ 13 ∧ (∀ (r2 : Int), ((r2 = 0 ∨ r2 = 1) ∧ (r2 = 1 ↔ g5 = g6)) → (Rg r2 ∧ (((r2 = 0) → (Q (some (i_ 0)) x Z)) ∧ ((r2 ≠ 0) → (Q (some (i_ 1)) x Z))))))))))))))))) :
    V mX6_matches k n 0 [some (r_ a0), some (r_ a1)] [] x Z Q :=
  V_aload_n dX6_matches_0 rfl (G_6_0 o_a0.1 o_a0.2.1 lf_6_10 dX6_matches_1 (V_aload_n dX6_matches_4 rfl (G_6_0 o_a1.1 o_a1.2.1 lf_6_10 dX6_matches_5 (Exists.elim h (fun g1 w1 => Exists.elim w1 (fun g2 w2 => Exists.elim w2 (fun g3 w3 => V_callV (k' := 0) (n' := 0) (t := 7) (q := (RX7, TX7, 2)) [r_ (a1 + 1)] [] okX7_matches o_a0.2.2.1.1 rfl rfl lm_6_40 liX7_matches lqX7_matches (Nat.le_of_ble_eq_true rfl) (Nat.le_of_ble_eq_true rfl) (Nat.le_of_ble_eq_true rfl) (cat_of rfl) (Nat.le_of_ble_eq_true rfl) (Nat.zero_le _) (Nat.zero_le _) rfl dX6_matches_8 (sp_X7_matches o_a0.2.2.1 o_a1.2.2.1 w3.1 w3.2.1 w3.2.2.1 (fun r1 p1 => V_if_eq (tgt := 32) dX6_matches_11 rfl (w3.2.2.2 r1 p1).1 (fun c1 => V_iconst dX6_matches_32 (V_iret (ty := .boolean) dX6_matches_33 rfl rfl ((w3.2.2.2 r1 p1).2.1 c1))) (fun c1 => V_aload_n dX6_matches_14 rfl (G_6_1 o_a0.1 o_a0.2.2.2.1 lf_6_16 dX6_matches_15 (V_aload_n dX6_matches_18 rfl (G_6_1 o_a1.1 o_a1.2.2.2.1 lf_6_16 dX6_matches_19 (Exists.elim ((w3.2.2.2 r1 p1).2.2 c1) (fun g4 w4 => Exists.elim w4 (fun g5 w5 => Exists.elim w5 (fun g6 w6 => V_callV (k' := 0) (n' := 0) (t := 7) (q := (RX7, TX7, 2)) [r_ (a1 + 3)] [] okX7_matches o_a0.2.2.2.2.1 rfl rfl lm_6_40 liX7_matches lqX7_matches (Nat.le_of_ble_eq_true rfl) (Nat.le_of_ble_eq_true rfl) (Nat.le_of_ble_eq_true rfl) (cat_of rfl) (Nat.le_of_ble_eq_true rfl) (Nat.zero_le _) (Nat.zero_le _) rfl dX6_matches_22 (sp_X7_matches o_a0.2.2.2.2 o_a1.2.2.2.2 w6.1 w6.2.1 w6.2.2.1 (fun r2 p2 => V_if_eq (tgt := 32) dX6_matches_25 rfl (w6.2.2.2 r2 p2).1 (fun c2 => V_iconst dX6_matches_32 (V_iret (ty := .boolean) dX6_matches_33 rfl rfl ((w6.2.2.2 r2 p2).2.1 c2))) (fun c2 => V_iconst dX6_matches_28 (V_goto (tgt := 33) dX6_matches_29 rfl (V_iret (ty := .boolean) dX6_matches_33 rfl rfl ((w6.2.2.2 r2 p2).2.2 c2)))))))))))))))))))))))
theorem dX6_part_0 : decode cX6_part 0 = .ok (.iload_n 1, 1) := by decide +kernel
theorem dX6_part_1 : decode cX6_part 1 = .ok (.iconst 3, 1) := by decide +kernel
theorem dX6_part_2 : decode cX6_part 2 = .ok (.if_icmp .ge 14, 3) := by decide +kernel
theorem dX6_part_5 : decode cX6_part 5 = .ok (.aload_n 0, 1) := by decide +kernel
theorem dX6_part_6 : decode cX6_part 6 = .ok (.getfield 10, 3) := by decide +kernel
theorem dX6_part_9 : decode cX6_part 9 = .ok (.iload_n 1, 1) := by decide +kernel
theorem dX6_part_10 : decode cX6_part 10 = .ok (.invokevirtual 44, 3) := by decide +kernel
theorem dX6_part_13 : decode cX6_part 13 = .ok (.goto 13, 3) := by decide +kernel
theorem dX6_part_16 : decode cX6_part 16 = .ok (.aload_n 0, 1) := by decide +kernel
theorem dX6_part_17 : decode cX6_part 17 = .ok (.getfield 16, 3) := by decide +kernel
theorem dX6_part_20 : decode cX6_part 20 = .ok (.iload_n 1, 1) := by decide +kernel
theorem dX6_part_21 : decode cX6_part 21 = .ok (.iconst 3, 1) := by decide +kernel
theorem dX6_part_22 : decode cX6_part 22 = .ok (.isub, 1) := by decide +kernel
theorem dX6_part_23 : decode cX6_part 23 = .ok (.invokevirtual 44, 3) := by decide +kernel
theorem dX6_part_26 : decode cX6_part 26 = .ok (.ireturn, 1) := by decide +kernel
set_option maxRecDepth 20000 in
theorem b_X6_part_0 {k n : Nat} {x : Wx} {Z : Zt} {Q : Option Value → Wx → Zt → Prop} {a0 : Nat} {v1 : Int} (o_a0 : Is6 x a0)
    (h : Rg v1 ∧ (((3 ≤ v1) → (0 ≤ (v1 - 3) ∧ (v1 - 3) < 10 ∧ (Q (some (i_ (Z ((a0 + 3) + 1) (Int.toNat (v1 - 3))))) x Z))) ∧ ((v1 < 3) → (0 ≤ v1 ∧ v1 < 10 ∧ (Q (some (i_ (Z ((a0 + 1) + 1) (Int.toNat v1)))) x Z))))) :
    V mX6_part k n 0 [some (r_ a0), some (i_ v1)] [] x Z Q :=
  V_iload_n dX6_part_0 rfl (V_iconst dX6_part_1 (V_icmp_ge (tgt := 16) dX6_part_2 rfl h.1 (rg_c rfl) (fun c1 => V_aload_n dX6_part_16 rfl (G_6_1 o_a0.1 o_a0.2.2.2.1 lf_6_16 dX6_part_17 (V_iload_n dX6_part_20 rfl (V_iconst dX6_part_21 (V_isub dX6_part_22 (V_callV (k' := 0) (n' := 0) (t := 7) (q := (RX7, TX7, 2)) [i_ (v1 - 3)] [] okX7_at o_a0.2.2.2.2.1 rfl rfl lm_6_44 liX7_at lqX7_at (Nat.le_of_ble_eq_true rfl) (Nat.le_of_ble_eq_true rfl) (Nat.le_of_ble_eq_true rfl) (cat_of rfl) (Nat.le_of_ble_eq_true rfl) (Nat.zero_le _) (Nat.zero_le _) rfl dX6_part_23 (sp_X7_at o_a0.2.2.2.2 (h.2.1 c1).1 (h.2.1 c1).2.1 (V_iret (ty := .int) dX6_part_26 rfl rfl (h.2.1 c1).2.2)))))))) (fun c1 => V_aload_n dX6_part_5 rfl (G_6_0 o_a0.1 o_a0.2.1 lf_6_10 dX6_part_6 (V_iload_n dX6_part_9 rfl (V_callV (k' := 0) (n' := 0) (t := 7) (q := (RX7, TX7, 2)) [i_ v1] [] okX7_at o_a0.2.2.1.1 rfl rfl lm_6_44 liX7_at lqX7_at (Nat.le_of_ble_eq_true rfl) (Nat.le_of_ble_eq_true rfl) (Nat.le_of_ble_eq_true rfl) (cat_of rfl) (Nat.le_of_ble_eq_true rfl) (Nat.zero_le _) (Nat.zero_le _) rfl dX6_part_10 (sp_X7_at o_a0.2.2.1 (h.2.2 c1).1 (h.2.2 c1).2.1 (V_goto (tgt := 26) dX6_part_13 rfl (V_iret (ty := .int) dX6_part_26 rfl rfl (h.2.2 c1).2.2)))))))))
def PrA (Z : Zt) (a : Nat) (p : Int) (u v : Nat → Int) : Prop := PA Z (a + 1) p u ∧ PA Z (a + 3) p v
abbrev At5 (a : Nat) : Nat → Prop := fun q => a < q ∧ q ≤ a + 4
def ulin (p X : Int) : Nat → Int := fun j => if j = 0 then (-X) % p else if j = 1 then 1 else 0
def pcon (c : Int) : Nat → Int := fun j => if j = 0 then c else 0
theorem PrA.kept {Z Z' : Zt} {a : Nat} {p : Int} {u v : Nat → Int} {A : Nat → Prop} (h : PrA Z a p u v) (ho : Oth Z Z' A) (h1 : ∀ q, At5 a q → ¬ A q) : PrA Z' a p u v := ⟨h.1.kept ho (h1 _ (by unfold At5; omega)) (h1 _ (by unfold At5; omega)), h.2.kept ho (h1 _ (by unfold At5; omega)) (h1 _ (by unfold At5; omega))⟩
theorem sp_X6_nothing {k n : Nat} {x : Wx} {Z : Zt} {Q : Option Value → Wx → Zt → Prop} {a : Nat} (o : Is6 x a) {p : Int} (hp : 3 ≤ p ∧ p ≤ 13) (h : ∀ Z' : Zt, (PrA Z' a p pone pzero ∧ Oth Z Z' (At5 a)) → Q none x Z') : V mX6_nothing k n 0 [some (r_ a)] [] x Z Q := by
  have hO : Oth Z Z (At5 a) := Oth.rf
  refine b_X6_nothing_0 o ?_
  refine (fun Zn hh => ?_)
  obtain ⟨n_h1, ho⟩ := hh
  have h1 := n_h1
  replace hO := hO.tr (ho.wk (by first | (intro q; omega) | (unfold At2; intro q; omega)))
  replace h1 := h1.mono (q := p) (by omega)
  refine ⟨p, _, h1, by omega, by omega, ⟨by omega, by omega⟩, by omega, fun Zn hh => ?_⟩
  obtain ⟨n_h1, ho⟩ := hh
  replace h1 := n_h1
  replace hO := hO.tr (ho.wk (by first | (intro q; omega) | (unfold At2; intro q; omega)))
  refine (fun Zn hh => ?_)
  obtain ⟨n_h3, ho⟩ := hh
  replace h1 := h1.kept ho (by first | omega | (unfold At2; omega)) (by first | omega | (unfold At2; omega))
  have h3 := n_h3
  replace hO := hO.tr (ho.wk (by first | (intro q; omega) | (unfold At2; intro q; omega)))
  replace h3 := h3.mono (q := p) (by omega)
  exact h _ ⟨⟨h1, h3⟩, hO⟩
theorem sp_X6_place {k n : Nat} {x : Wx} {Z : Zt} {Q : Option Value → Wx → Zt → Prop} {a fl : Nat} {X Y : Int} (o : Is6 x a) (ofl : Is4 x fl) {p : Int} (hfl : Z fl 0 = p) (hp : 3 ≤ p ∧ p ≤ 13) (hd : fl + 2 < a ∨ a + 4 < fl) (hX : -100 ≤ X ∧ X ≤ 100) (hY : -100 ≤ Y ∧ Y ≤ 100) (h : ∀ Z' : Zt, (PrA Z' a p (ulin p X) (pcon (Y % p)) ∧ Oth Z Z' (At5 a)) → Q none x Z') : V mX6_place k n 0 [some (r_ a), some (r_ fl), some (i_ X), some (i_ Y)] [] x Z Q := by
  have m1 := emr (-X) (show 0 < p by omega)
  have m2 := emr Y (show 0 < p by omega)
  refine b_X6_place_0 o ofl (fun Z1 hh1 => ⟨p, _, hh1.1.mono (by omega), by omega, by omega, ⟨by omega, by omega⟩, by omega, fun Z2 hh2 => ?_⟩)
  have e2 : Z2 fl 0 = p := by rw [hh2.2 fl (by unfold At2; omega), hh1.2 fl (by unfold At2; omega)]; exact hfl
  rw [e2]
  refine ⟨⟨by omega, by omega⟩, by omega, by omega, p, _, hh2.1, by omega, by omega, m1, by omega, fun Z3 hh3 Z4 hh4 => ?_⟩
  have e4 : Z4 fl 0 = p := by rw [hh4.2 fl (by unfold At2; omega), hh3.2 fl (by unfold At2; omega)]; exact e2
  rw [e4]
  refine ⟨⟨by omega, by omega⟩, by omega, by omega, p, _, hh4.1.mono (by omega), by omega, by omega, m2, by omega, fun Z5 hh5 => h Z5 ⟨⟨?_, hh5.1⟩, fun q hq => ?_⟩⟩
  · exact (hh3.1.kept hh4.2 (by unfold At2; omega) (by unfold At2; omega)).kept hh5.2 (by unfold At2; omega) (by unfold At2; omega)
  · rw [hh5.2 q (by unfold At2; unfold At5 at hq; omega), hh4.2 q (by unfold At2; unfold At5 at hq; omega), hh3.2 q (by unfold At2; unfold At5 at hq; omega), hh2.2 q (by unfold At2; unfold At5 at hq; omega), hh1.2 q (by unfold At2; unfold At5 at hq; omega)]
theorem sp_X6_copy {k n : Nat} {x : Wx} {Z : Zt} {Q : Option Value → Wx → Zt → Prop} {a b : Nat} (o : Is6 x a) (ob : Is6 x b) {p : Int} {u v : Nat → Int} (hb : PrA Z b p u v) (hd : b + 4 < a ∨ a + 4 < b) (h : ∀ Z' : Zt, (PrA Z' a p u v ∧ Oth Z Z' (At5 a)) → Q none x Z') : V mX6_copy k n 0 [some (r_ a), some (r_ b)] [] x Z Q := by
  have hO : Oth Z Z (At5 a) := Oth.rf
  obtain ⟨hb1, hb3⟩ := hb
  refine b_X6_copy_0 o ob ?_
  refine ⟨p, _, hb1, fun Zn hh => ?_⟩
  obtain ⟨n_h1, ho⟩ := hh
  replace hb1 := hb1.kept ho (by first | omega | (unfold At2; omega)) (by first | omega | (unfold At2; omega))
  replace hb3 := hb3.kept ho (by first | omega | (unfold At2; omega)) (by first | omega | (unfold At2; omega))
  have h1 := n_h1
  replace hO := hO.tr (ho.wk (by first | (intro q; omega) | (unfold At2; intro q; omega)))
  refine ⟨p, _, hb3, fun Zn hh => ?_⟩
  obtain ⟨n_h3, ho⟩ := hh
  replace hb1 := hb1.kept ho (by first | omega | (unfold At2; omega)) (by first | omega | (unfold At2; omega))
  replace hb3 := hb3.kept ho (by first | omega | (unfold At2; omega)) (by first | omega | (unfold At2; omega))
  replace h1 := h1.kept ho (by first | omega | (unfold At2; omega)) (by first | omega | (unfold At2; omega))
  have h3 := n_h3
  replace hO := hO.tr (ho.wk (by first | (intro q; omega) | (unfold At2; intro q; omega)))
  exact h _ ⟨⟨h1, h3⟩, hO⟩
theorem sp_X6_isNothing {k n : Nat} {x : Wx} {Z : Zt} {Q : Option Value → Wx → Zt → Prop} {a : Nat} (o : Is6 x a) {p : Int} {u v : Nat → Int} (hb : PrA Z a p u v) (h : ∀ r : Int, ((r = 0 ∨ r = 1) ∧ (r = 1 ↔ pd u ≤ 0)) → Q (some (i_ r)) x Z) : V mX6_isNothing k n 0 [some (r_ a)] [] x Z Q := by
  have d := hb.1.dgr
  have e := hb.1.deg
  exact b_X6_isNothing_0 o ⟨⟨by omega, by omega⟩, fun c => h 0 ⟨Or.inl rfl, by constructor <;> intro q <;> omega⟩, fun c => h 1 ⟨Or.inr rfl, by constructor <;> intro q <;> omega⟩⟩
theorem sp_X6_matches {k n : Nat} {x : Wx} {Z : Zt} {Q : Option Value → Wx → Zt → Prop} {a b : Nat} (o : Is6 x a) (ob : Is6 x b) {p : Int} {u v u' v' : Nat → Int} (ha : PrA Z a p u v) (hb : PrA Z b p u' v') (hp : p ≤ 13) (h : ∀ r : Int, ((r = 0 ∨ r = 1) ∧ (r = 1 ↔ (u = u' ∧ v = v'))) → Q (some (i_ r)) x Z) : V mX6_matches k n 0 [some (r_ a), some (r_ b)] [] x Z Q := by
  refine b_X6_matches_0 o ob ⟨p, u, u', ha.1, hb.1, hp, fun r hr => ⟨by rcases hr.1 with e | e <;> rw [e] <;> exact ⟨by decide, by decide⟩, fun c => ?_, fun c => ⟨p, v, v', ha.2, hb.2, hp, fun r2 hr2 => ⟨by rcases hr2.1 with e | e <;> rw [e] <;> exact ⟨by decide, by decide⟩, fun c2 => ?_, fun c2 => ?_⟩⟩⟩⟩
  · refine h 0 ⟨Or.inl rfl, ⟨fun q => by omega, fun q => ?_⟩⟩
    have := hr.2.mpr q.1
    omega
  · refine h 0 ⟨Or.inl rfl, ⟨fun q => by omega, fun q => ?_⟩⟩
    have := hr2.2.mpr q.2
    omega
  · refine h 1 ⟨Or.inr rfl, ⟨fun _ => ⟨hr.2.mp (hr.1.resolve_left c), hr2.2.mp (hr2.1.resolve_left c2)⟩, fun _ => rfl⟩⟩
theorem sp_X6_part {k n : Nat} {x : Wx} {Z : Zt} {Q : Option Value → Wx → Zt → Prop} {a : Nat} {w : Int} (o : Is6 x a) {p : Int} {u v : Nat → Int} (ha : PrA Z a p u v) (hw : 0 ≤ w ∧ w ≤ 4) (h : Q (some (i_ (if w < 3 then u w.toNat else v (w - 3).toNat))) x Z) : V mX6_part k n 0 [some (r_ a), some (i_ w)] [] x Z Q := by
  refine b_X6_part_0 o ⟨⟨by omega, by omega⟩, fun c => ⟨by omega, by omega, ?_⟩, fun c => ⟨by omega, by omega, ?_⟩⟩
  · rw [if_neg (by omega)] at h
    rw [ha.2.1 _ (by omega)]; exact h
  · rw [if_pos (by omega)] at h
    rw [ha.1.1 _ (by omega)]; exact h
