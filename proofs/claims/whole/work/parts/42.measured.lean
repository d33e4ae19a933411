theorem dX5_load_0 : decode cX5_load 0 = .ok (.aload_n 0, 1) := by decide +kernel
theorem dX5_load_1 : decode cX5_load 1 = .ok (.getfield 18, 3) := by decide +kernel
theorem dX5_load_4 : decode cX5_load 4 = .ok (.aload_n 2, 1) := by decide +kernel
theorem dX5_load_5 : decode cX5_load 5 = .ok (.iconst 0, 1) := by decide +kernel
theorem dX5_load_6 : decode cX5_load 6 = .ok (.iconst 4, 1) := by decide +kernel
theorem dX5_load_7 : decode cX5_load 7 = .ok (.aload_n 1, 1) := by decide +kernel
theorem dX5_load_8 : decode cX5_load 8 = .ok (.getfield 34, 3) := by decide +kernel
theorem dX5_load_11 : decode cX5_load 11 = .ok (.invokevirtual 40, 3) := by decide +kernel
theorem dX5_load_14 : decode cX5_load 14 = .ok (.aload_n 0, 1) := by decide +kernel
theorem dX5_load_15 : decode cX5_load 15 = .ok (.getfield 21, 3) := by decide +kernel
theorem dX5_load_18 : decode cX5_load 18 = .ok (.aload_n 2, 1) := by decide +kernel
theorem dX5_load_19 : decode cX5_load 19 = .ok (.iconst 5, 1) := by decide +kernel
theorem dX5_load_20 : decode cX5_load 20 = .ok (.iconst 2, 1) := by decide +kernel
theorem dX5_load_21 : decode cX5_load 21 = .ok (.aload_n 1, 1) := by decide +kernel
theorem dX5_load_22 : decode cX5_load 22 = .ok (.getfield 34, 3) := by decide +kernel
theorem dX5_load_25 : decode cX5_load 25 = .ok (.invokevirtual 40, 3) := by decide +kernel
theorem dX5_load_28 : decode cX5_load 28 = .ok (.aload_n 0, 1) := by decide +kernel
theorem dX5_load_29 : decode cX5_load 29 = .ok (.getfield 12, 3) := by decide +kernel
theorem dX5_load_32 : decode cX5_load 32 = .ok (.aload_n 1, 1) := by decide +kernel
theorem dX5_load_33 : decode cX5_load 33 = .ok (.getfield 34, 3) := by decide +kernel
theorem dX5_load_36 : decode cX5_load 36 = .ok (.aload_n 0, 1) := by decide +kernel
theorem dX5_load_37 : decode cX5_load 37 = .ok (.getfield 18, 3) := by decide +kernel
theorem dX5_load_40 : decode cX5_load 40 = .ok (.aload_n 0, 1) := by decide +kernel
theorem dX5_load_41 : decode cX5_load 41 = .ok (.getfield 18, 3) := by decide +kernel
theorem dX5_load_44 : decode cX5_load 44 = .ok (.invokevirtual 44, 3) := by decide +kernel
theorem dX5_load_47 : decode cX5_load 47 = .ok (.aload_n 0, 1) := by decide +kernel
theorem dX5_load_48 : decode cX5_load 48 = .ok (.getfield 24, 3) := by decide +kernel
theorem dX5_load_51 : decode cX5_load 51 = .ok (.aload_n 1, 1) := by decide +kernel
theorem dX5_load_52 : decode cX5_load 52 = .ok (.getfield 34, 3) := by decide +kernel
theorem dX5_load_55 : decode cX5_load 55 = .ok (.aload_n 0, 1) := by decide +kernel
theorem dX5_load_56 : decode cX5_load 56 = .ok (.getfield 21, 3) := by decide +kernel
theorem dX5_load_59 : decode cX5_load 59 = .ok (.aload_n 0, 1) := by decide +kernel
theorem dX5_load_60 : decode cX5_load 60 = .ok (.getfield 21, 3) := by decide +kernel
theorem dX5_load_63 : decode cX5_load 63 = .ok (.invokevirtual 44, 3) := by decide +kernel
theorem dX5_load_66 : decode cX5_load 66 = .ok (.aload_n 0, 1) := by decide +kernel
theorem dX5_load_67 : decode cX5_load 67 = .ok (.getfield 27, 3) := by decide +kernel
theorem dX5_load_70 : decode cX5_load 70 = .ok (.aload_n 1, 1) := by decide +kernel
theorem dX5_load_71 : decode cX5_load 71 = .ok (.getfield 34, 3) := by decide +kernel
theorem dX5_load_74 : decode cX5_load 74 = .ok (.aload_n 0, 1) := by decide +kernel
theorem dX5_load_75 : decode cX5_load 75 = .ok (.getfield 24, 3) := by decide +kernel
theorem dX5_load_78 : decode cX5_load 78 = .ok (.aload_n 1, 1) := by decide +kernel
theorem dX5_load_79 : decode cX5_load 79 = .ok (.getfield 48, 3) := by decide +kernel
theorem dX5_load_82 : decode cX5_load 82 = .ok (.invokevirtual 44, 3) := by decide +kernel
theorem dX5_load_85 : decode cX5_load 85 = .ok (.aload_n 0, 1) := by decide +kernel
theorem dX5_load_86 : decode cX5_load 86 = .ok (.getfield 12, 3) := by decide +kernel
theorem dX5_load_89 : decode cX5_load 89 = .ok (.aload_n 1, 1) := by decide +kernel
theorem dX5_load_90 : decode cX5_load 90 = .ok (.getfield 34, 3) := by decide +kernel
theorem dX5_load_93 : decode cX5_load 93 = .ok (.aload_n 0, 1) := by decide +kernel
theorem dX5_load_94 : decode cX5_load 94 = .ok (.getfield 27, 3) := by decide +kernel
theorem dX5_load_97 : decode cX5_load 97 = .ok (.iconst (-1), 1) := by decide +kernel
theorem dX5_load_98 : decode cX5_load 98 = .ok (.invokevirtual 51, 3) := by decide +kernel
theorem dX5_load_101 : decode cX5_load 101 = .ok (.return_, 1) := by decide +kernel
set_option maxRecDepth 20000 in
theorem b_X5_load_0 {k n : Nat} {x : Wx} {Z : Zt} {Q : Option Value → Wx → Zt → Prop} {a0 : Nat} {a1 : Nat} {a2 : Nat} (o_a0 : Is5 x a0) (o_a1 : Is2 x a1) (s_a2 : x.1 a2 = some (100, 26))
    (h : ∃ g1 : Int, (a2 ≠ (a0 + 3) + 1 ∧ 0 ≤ (0 : Int) ∧ (0 ≤ (4 : Int) ∧ (4 : Int) ≤ 9) ∧ (0 : Int) + (4 : Int) < 26 ∧ (∀ i : Nat, i < 26 → Rg (Z a2 i)) ∧ Z (a1 + 1) 0 = g1 ∧ (2 ≤ g1 ∧ g1 ≤ 13) ∧ (∀ (Z'1 : Zt), (PA Z'1 (a0 + 3) g1 (ptak g1 (Z a2) (Int.toNat (0 : Int)) (Int.toNat (4 : Int))) ∧ Oth Z Z'1 (At2 (a0 + 3))) → (∃ g2 : Int, (a2 ≠ (a0 + 5) + 1 ∧ 0 ≤ (5 : Int) ∧ (0 ≤ (2 : Int) ∧ (2 : Int) ≤ 9) ∧ (5 : Int) + (2 : Int) < 26 ∧ (∀ i : Nat, i < 26 → Rg (Z'1 a2 i)) ∧ Z'1 (a1 + 1) 0 = g2 ∧ (2 ≤ g2 ∧ g2 ≤ 13) ∧ (∀ (Z'2 : Zt), (PA Z'2 (a0 + 5) g2 (ptak g2 (Z'1 a2) (Int.toNat (5 : Int)) (Int.toNat (2 : Int))) ∧ Oth Z'1 Z'2 (At2 (a0 + 5))) → (∃ g3 : Int, (∃ g4 : Nat → Int, (∃ g5 : Nat → Int, ((a0 + 1) ≠ (a0 + 3) ∧ PA Z'2 (a0 + 3) g3 g4 ∧ PA Z'2 (a0 + 3) g3 g5 ∧ Z'2 (a1 + 1) 0 = g3 ∧ (2 ≤ g3 ∧ g3 ≤ 13) ∧ dg g4 10 + dg g5 10 ≤ 9 ∧ (∀ (Z'3 : Zt), (PA Z'3 (a0 + 1) g3 (pmul g3 g4 g5) ∧ Oth Z'2 Z'3 (At2 (a0 + 1))) → (∃ g6 : Int, (∃ g7 : Nat → Int, (∃ g8 : Nat → Int, ((a0 + 7) ≠ (a0 + 5) ∧ PA Z'3 (a0 + 5) g6 g7 ∧ PA Z'3 (a0 + 5) g6 g8 ∧ Z'3 (a1 + 1) 0 = g6 ∧ (2 ≤ g6 ∧ g6 ≤ 13) ∧ dg g7 10 + dg g8 10 ≤ 9 ∧ (∀ (Z'4 : Zt), (PA Z'4 (a0 + 7) g6 (pmul g6 g7 g8) ∧ Oth Z'3 Z'4 (At2 (a0 + 7))) → (∃ g9 : Int, (∃ g10 : Nat → Int, (∃ g11 : Nat → Int, ((a0 + 9) ≠ (a0 + 7) ∧ (a0 + 9) ≠ (a1 + 4) ∧ PA Z'4 (a0 + 7) g9 g10 ∧ PA Z'4 (a1 + 4) g9 g11 ∧ Z'4 (a1 + 1) 0 = g9 ∧ (2 ≤ g9 ∧ g9 ≤ 13) ∧ dg g10 10 + dg g11 10 ≤ 9 ∧ (∀ (Z'5 : Zt), (PA Z'5 (a0 + 9) g9 (pmul g9 g10 g11) ∧ Oth Z'4 Z'5 (At2 (a0 + 9))) → (∃ g12 : Int, (∃ g13 : Nat → Int, (∃ g14 : Nat → Int, ((a0 + 1) ≠ (a0 + 9) ∧ PA Z'5 (a0 + 1) g12 g13 ∧ PA Z'5 (a0 + 9) g12 g14 ∧ Z'5 (a1 + 1) 0 = g12 ∧ (2 ≤ g12 ∧ g12 ≤ 13) ∧ ((-1000) ≤ (-1 : Int) ∧ (-1 : Int) ≤ 1000) ∧ (∀ (Z'6 : Zt), (PA Z'6 (a0 + 1) g12 (padd g12 g13 g14 (-1 : Int)) ∧ Oth Z'5 Z'6 (At2 (a0 + 1))) → (Q none x Z'6))))))))))))))))))))))))))) :
    V mX5_load k n 0 [some (r_ a0), some (r_ a1), some (r_ a2)] [] x Z Q :=
  V_aload_n dX5_load_0 rfl (G_5_1 o_a0.1 o_a0.2.2.2.1 lf_5_18 dX5_load_1 (V_aload_n dX5_load_4 rfl (V_iconst dX5_load_5 (V_iconst dX5_load_6 (V_aload_n dX5_load_7 rfl (G_2_0 o_a1.1 o_a1.2.1 lf_5_34 dX5_load_8 (Exists.elim h (fun g1 w1 => V_callV (k' := 0) (n' := 0) (t := 7) (q := (RX7, TX7, 2)) [r_ a2, i_ 0, i_ 4, r_ (a1 + 1)] [] okX7_take o_a0.2.2.2.2.1.1 rfl rfl lm_5_40 liX7_take lqX7_take (Nat.le_of_ble_eq_true rfl) (Nat.le_of_ble_eq_true rfl) (Nat.le_of_ble_eq_true rfl) (cat_of rfl) (Nat.le_of_ble_eq_true rfl) (Nat.zero_le _) (Nat.zero_le _) rfl dX5_load_11 (sp_X7_take o_a0.2.2.2.2.1 s_a2 (Nat.le_of_ble_eq_true rfl) o_a1.2.2.1 w1.1 w1.2.1 w1.2.2.1 w1.2.2.2.1 w1.2.2.2.2.1 w1.2.2.2.2.2.1 w1.2.2.2.2.2.2.1 (fun Z'1 p1 => V_aload_n dX5_load_14 rfl (G_5_2 o_a0.1 o_a0.2.2.2.2.2.1 lf_5_21 dX5_load_15 (V_aload_n dX5_load_18 rfl (V_iconst dX5_load_19 (V_iconst dX5_load_20 (V_aload_n dX5_load_21 rfl (G_2_0 o_a1.1 o_a1.2.1 lf_5_34 dX5_load_22 (Exists.elim (w1.2.2.2.2.2.2.2 Z'1 p1) (fun g2 w2 => V_callV (k' := 0) (n' := 0) (t := 7) (q := (RX7, TX7, 2)) [r_ a2, i_ 5, i_ 2, r_ (a1 + 1)] [] okX7_take o_a0.2.2.2.2.2.2.1.1 rfl rfl lm_5_40 liX7_take lqX7_take (Nat.le_of_ble_eq_true rfl) (Nat.le_of_ble_eq_true rfl) (Nat.le_of_ble_eq_true rfl) (cat_of rfl) (Nat.le_of_ble_eq_true rfl) (Nat.zero_le _) (Nat.zero_le _) rfl dX5_load_25 (sp_X7_take o_a0.2.2.2.2.2.2.1 s_a2 (Nat.le_of_ble_eq_true rfl) o_a1.2.2.1 w2.1 w2.2.1 w2.2.2.1 w2.2.2.2.1 w2.2.2.2.2.1 w2.2.2.2.2.2.1 w2.2.2.2.2.2.2.1 (fun Z'2 p2 => V_aload_n dX5_load_28 rfl (G_5_0 o_a0.1 o_a0.2.1 lf_5_12 dX5_load_29 (V_aload_n dX5_load_32 rfl (G_2_0 o_a1.1 o_a1.2.1 lf_5_34 dX5_load_33 (V_aload_n dX5_load_36 rfl (G_5_1 o_a0.1 o_a0.2.2.2.1 lf_5_18 dX5_load_37 (V_aload_n dX5_load_40 rfl (G_5_1 o_a0.1 o_a0.2.2.2.1 lf_5_18 dX5_load_41 (Exists.elim (w2.2.2.2.2.2.2.2 Z'2 p2) (fun g3 w3 => Exists.elim w3 (fun g4 w4 => Exists.elim w4 (fun g5 w5 => V_callV (k' := 0) (n' := 0) (t := 7) (q := (RX7, TX7, 2)) [r_ (a1 + 1), r_ (a0 + 3), r_ (a0 + 3)] [] okX7_product o_a0.2.2.1.1 rfl rfl lm_5_44 liX7_product lqX7_product (Nat.le_of_ble_eq_true rfl) (Nat.le_of_ble_eq_true rfl) (Nat.le_of_ble_eq_true rfl) (cat_of rfl) (Nat.le_of_ble_eq_true rfl) (Nat.zero_le _) (Nat.zero_le _) rfl dX5_load_44 (sp_X7_product o_a0.2.2.1 o_a1.2.2.1 o_a0.2.2.2.2.1 o_a0.2.2.2.2.1 w5.1 w5.1 w5.2.1 w5.2.2.1 w5.2.2.2.1 w5.2.2.2.2.1 w5.2.2.2.2.2.1 (fun Z'3 p3 => V_aload_n dX5_load_47 rfl (G_5_3 o_a0.1 o_a0.2.2.2.2.2.2.2.1 lf_5_24 dX5_load_48 (V_aload_n dX5_load_51 rfl (G_2_0 o_a1.1 o_a1.2.1 lf_5_34 dX5_load_52 (V_aload_n dX5_load_55 rfl (G_5_2 o_a0.1 o_a0.2.2.2.2.2.1 lf_5_21 dX5_load_56 (V_aload_n dX5_load_59 rfl (G_5_2 o_a0.1 o_a0.2.2.2.2.2.1 lf_5_21 dX5_load_60 (Exists.elim (w5.2.2.2.2.2.2 Z'3 p3) (fun g6 w6 => Exists.elim w6 (fun g7 w7 => Exists.elim w7 (fun g8 w8 => V_callV (k' := 0) (n' := 0) (t := 7) (q := (RX7, TX7, 2)) [r_ (a1 + 1), r_ (a0 + 5), r_ (a0 + 5)] [] okX7_product o_a0.2.2.2.2.2.2.2.2.1.1 rfl rfl lm_5_44 liX7_product lqX7_product (Nat.le_of_ble_eq_true rfl) (Nat.le_of_ble_eq_true rfl) (Nat.le_of_ble_eq_true rfl) (cat_of rfl) (Nat.le_of_ble_eq_true rfl) (Nat.zero_le _) (Nat.zero_le _) rfl dX5_load_63 (sp_X7_product o_a0.2.2.2.2.2.2.2.2.1 o_a1.2.2.1 o_a0.2.2.2.2.2.2.1 o_a0.2.2.2.2.2.2.1 w8.1 w8.1 w8.2.1 w8.2.2.1 w8.2.2.2.1 w8.2.2.2.2.1 w8.2.2.2.2.2.1 (fun Z'4 p4 => V_aload_n dX5_load_66 rfl (G_5_4 o_a0.1 o_a0.2.2.2.2.2.2.2.2.2.1 lf_5_27 dX5_load_67 (V_aload_n dX5_load_70 rfl (G_2_0 o_a1.1 o_a1.2.1 lf_5_34 dX5_load_71 (V_aload_n dX5_load_74 rfl (G_5_3 o_a0.1 o_a0.2.2.2.2.2.2.2.1 lf_5_24 dX5_load_75 (V_aload_n dX5_load_78 rfl (G_2_1 o_a1.1 o_a1.2.2.2.1 lf_5_48 dX5_load_79 (Exists.elim (w8.2.2.2.2.2.2 Z'4 p4) (fun g9 w9 => Exists.elim w9 (fun g10 w10 => Exists.elim w10 (fun g11 w11 => V_callV (k' := 0) (n' := 0) (t := 7) (q := (RX7, TX7, 2)) [r_ (a1 + 1), r_ (a0 + 7), r_ (a1 + 4)] [] okX7_product o_a0.2.2.2.2.2.2.2.2.2.2.1.1 rfl rfl lm_5_44 liX7_product lqX7_product (Nat.le_of_ble_eq_true rfl) (Nat.le_of_ble_eq_true rfl) (Nat.le_of_ble_eq_true rfl) (cat_of rfl) (Nat.le_of_ble_eq_true rfl) (Nat.zero_le _) (Nat.zero_le _) rfl dX5_load_82 (sp_X7_product o_a0.2.2.2.2.2.2.2.2.2.2.1 o_a1.2.2.1 o_a0.2.2.2.2.2.2.2.2.1 o_a1.2.2.2.2.1 w11.1 w11.2.1 w11.2.2.1 w11.2.2.2.1 w11.2.2.2.2.1 w11.2.2.2.2.2.1 w11.2.2.2.2.2.2.1 (fun Z'5 p5 => V_aload_n dX5_load_85 rfl (G_5_0 o_a0.1 o_a0.2.1 lf_5_12 dX5_load_86 (V_aload_n dX5_load_89 rfl (G_2_0 o_a1.1 o_a1.2.1 lf_5_34 dX5_load_90 (V_aload_n dX5_load_93 rfl (G_5_4 o_a0.1 o_a0.2.2.2.2.2.2.2.2.2.1 lf_5_27 dX5_load_94 (V_iconst dX5_load_97 (Exists.elim (w11.2.2.2.2.2.2.2 Z'5 p5) (fun g12 w12 => Exists.elim w12 (fun g13 w13 => Exists.elim w13 (fun g14 w14 => V_callV (k' := 0) (n' := 0) (t := 7) (q := (RX7, TX7, 2)) [r_ (a1 + 1), r_ (a0 + 9), i_ (-1)] [] okX7_add o_a0.2.2.1.1 rfl rfl lm_5_51 liX7_add lqX7_add (Nat.le_of_ble_eq_true rfl) (Nat.le_of_ble_eq_true rfl) (Nat.le_of_ble_eq_true rfl) (cat_of rfl) (Nat.le_of_ble_eq_true rfl) (Nat.zero_le _) (Nat.zero_le _) rfl dX5_load_98 (sp_X7_add o_a0.2.2.1 o_a1.2.2.1 o_a0.2.2.2.2.2.2.2.2.2.2.1 w14.1 w14.2.1 w14.2.2.1 w14.2.2.2.1 w14.2.2.2.2.1 w14.2.2.2.2.2.1 (fun Z'6 p6 => V_ret dX5_load_101 rfl (w14.2.2.2.2.2.2 Z'6 p6))))))))))))))))))))))))))))))))))))))))))))))))))))))))))))))))))))))))
/-! ===== Measured: a function's A, B and NORM ===== -/
def fnA (p : Int) (r : Nat → Int) : Nat → Int := ptak p r 0 4
def fnB (p : Int) (r : Nat → Int) : Nat → Int := ptak p r 5 2
def nrm (p : Int) (F A B : Nat → Int) : Nat → Int := padd p (pmul p A A) (pmul p (pmul p B B) F) (-1)
theorem ptak_dg {p : Int} {r : Nat → Int} {s t : Nat} (ht : t < 10) : dg (ptak p r s t) 10 ≤ t := by
  have h1 := dg_ge (ptak p r s t) 10
  have h3 := dg_lt (ptak p r s t) 10
  by_cases c : dg (ptak p r s t) 10 ≤ t
  · exact c
  · have h2 := dg_lead (ptak p r s t) 10 (by omega)
    have h4 : ∀ j : Nat, t < j → ptak p r s t j = 0 := fun j hj => by unfold ptak; rw [if_neg (by omega)]
    exact absurd (h4 _ (by omega)) h2
theorem PA.dgm {Z : Zt} {a : Nat} {p : Int} {f g : Nat → Int} (hf : ∀ i : Nat, 10 ≤ i → f i = 0) (hg : ∀ i : Nat, 10 ≤ i → g i = 0) (h : PA Z a p (pmul p f g)) : dg (pmul p f g) 10 ≤ max (-1) (dg f 10 + dg g 10) := by
  have e1 : dg f 10 = pd f := dg_pd (by decide) hf
  have e2 : dg g 10 = pd g := dg_pd (by decide) hg
  have e3 : dg (pmul p f g) 10 = pd (pmul p f g) := dg_pd (by decide) h.2.1
  rw [e1, e2, e3]
  exact pd_pmul (fun i hi => hf i (by omega)) (fun i hi => hg i (by omega))
def MsA (Z : Zt) (m : Nat) (p : Int) (F A B : Nat → Int) : Prop := PA Z (m + 3) p A ∧ PA Z (m + 5) p B ∧ PA Z (m + 1) p (nrm p F A B)
theorem sp_X5_load {k n : Nat} {x : Wx} {Z : Zt} {Q : Option Value → Wx → Zt → Prop} {m c r : Nat} (o : Is5 x m) (oc : Is2 x c) (sr : x.1 r = some (100, 26)) {p : Int} {F : Nat → Int} (hp : IsP p) (hF : FA Z (c + 1) p) (hf : PA Z (c + 4) p F) (hd : dg F 10 ≤ 5) (hg : ∀ i : Nat, i < 26 → Rg (Z r i)) (hrm : r < m ∨ m + 12 ≤ r) (hcm : c + 16 ≤ m ∨ m + 12 ≤ c) (h : ∀ Z' : Zt, (MsA Z' m p F (fnA p (Z r)) (fnB p (Z r)) ∧ Oth Z Z' (fun b => m ≤ b ∧ b < m + 12)) → Q none x Z') : V mX5_load k n 0 [some (r_ m), some (r_ c), some (r_ r)] [] x Z Q := by
  have hpr := hp.rg
  refine b_X5_load_0 o oc sr ⟨p, by omega, by decide, by decide, by decide, hg, hF.1, by omega, fun Z1 h1 => ?_⟩
  have hF1 := hF.kept h1.2 (by unfold At2; omega) (by unfold At2; omega) (by unfold At2; omega)
  have hf1 := hf.kept h1.2 (by unfold At2; omega) (by unfold At2; omega)
  have er : Z1 r = Z r := h1.2 r (by unfold At2; omega)
  rw [er]
  refine ⟨p, by omega, by decide, by decide, by decide, hg, hF1.1, by omega, fun Z2 h2 => ?_⟩
  have hF2 := hF1.kept h2.2 (by unfold At2; omega) (by unfold At2; omega) (by unfold At2; omega)
  have hf2 := hf1.kept h2.2 (by unfold At2; omega) (by unfold At2; omega)
  have hA2 : PA Z2 (m + 3) p (fnA p (Z r)) := h1.1.kept h2.2 (by unfold At2; omega) (by unfold At2; omega)
  have hB2 : PA Z2 (m + 5) p (fnB p (Z r)) := h2.1
  have dA : dg (fnA p (Z r)) 10 ≤ 4 := ptak_dg (t := 4) (by decide)
  have dB : dg (fnB p (Z r)) 10 ≤ 2 := ptak_dg (t := 2) (by decide)
  refine ⟨p, _, _, by omega, hA2, hA2, hF2.1, by omega, by omega, fun Z3 h3 => ?_⟩
  have hF3 := hF2.kept h3.2 (by unfold At2; omega) (by unfold At2; omega) (by unfold At2; omega)
  have hf3 := hf2.kept h3.2 (by unfold At2; omega) (by unfold At2; omega)
  have hA3 := hA2.kept h3.2 (by unfold At2; omega) (by unfold At2; omega)
  have hB3 := hB2.kept h3.2 (by unfold At2; omega) (by unfold At2; omega)
  refine ⟨p, _, _, by omega, hB3, hB3, hF3.1, by omega, by omega, fun Z4 h4 => ?_⟩
  have hF4 := hF3.kept h4.2 (by unfold At2; omega) (by unfold At2; omega) (by unfold At2; omega)
  have hf4 := hf3.kept h4.2 (by unfold At2; omega) (by unfold At2; omega)
  have hA4 := hA3.kept h4.2 (by unfold At2; omega) (by unfold At2; omega)
  have hB4 := hB3.kept h4.2 (by unfold At2; omega) (by unfold At2; omega)
  have hN4 := h3.1.kept h4.2 (by unfold At2; omega) (by unfold At2; omega)
  have dQ := PA.dgm hB4.2.1 hB4.2.1 h4.1
  have dF0 := dg_ge F 10
  refine ⟨p, _, _, by omega, by omega, h4.1, hf4, hF4.1, by omega, by omega, fun Z5 h5 => ?_⟩
  have hF5 := hF4.kept h5.2 (by unfold At2; omega) (by unfold At2; omega) (by unfold At2; omega)
  have hA5 := hA4.kept h5.2 (by unfold At2; omega) (by unfold At2; omega)
  have hB5 := hB4.kept h5.2 (by unfold At2; omega) (by unfold At2; omega)
  have hN5 := hN4.kept h5.2 (by unfold At2; omega) (by unfold At2; omega)
  refine ⟨p, _, _, by omega, hN5, h5.1, hF5.1, by omega, by decide, fun Z6 h6 => h Z6 ⟨⟨?_, ?_, h6.1⟩, fun b hb => ?_⟩⟩
  · exact hA5.kept h6.2 (by unfold At2; omega) (by unfold At2; omega)
  · exact hB5.kept h6.2 (by unfold At2; omega) (by unfold At2; omega)
  · rw [h6.2 b (by unfold At2; omega), h5.2 b (by unfold At2; omega), h4.2 b (by unfold At2; omega), h3.2 b (by unfold At2; omega), h2.2 b (by unfold At2; omega), h1.2 b (by unfold At2; omega)]
