/-! ===== the reference: all classes ===== -/
theorem dX12_isClass_0 : decode cX12_isClass 0 = .ok (.aload_n 0, 1) := by decide +kernel
theorem dX12_isClass_1 : decode cX12_isClass 1 = .ok (.iload_n 1, 1) := by decide +kernel
theorem dX12_isClass_2 : decode cX12_isClass 2 = .ok (.iconst 5, 1) := by decide +kernel
theorem dX12_isClass_3 : decode cX12_isClass 3 = .ok (.bipush 6, 2) := by decide +kernel
theorem dX12_isClass_5 : decode cX12_isClass 5 = .ok (.invokevirtual 363, 3) := by decide +kernel
theorem dX12_isClass_8 : decode cX12_isClass 8 = .ok (.aload_n 0, 1) := by decide +kernel
theorem dX12_isClass_9 : decode cX12_isClass 9 = .ok (.bipush 6, 2) := by decide +kernel
theorem dX12_isClass_11 : decode cX12_isClass 11 = .ok (.bipush 6, 2) := by decide +kernel
theorem dX12_isClass_13 : decode cX12_isClass 13 = .ok (.bipush 22, 2) := by decide +kernel
theorem dX12_isClass_15 : decode cX12_isClass 15 = .ok (.invokevirtual 215, 3) := by decide +kernel
theorem dX12_isClass_18 : decode cX12_isClass 18 = .ok (.aload_n 0, 1) := by decide +kernel
theorem dX12_isClass_19 : decode cX12_isClass 19 = .ok (.iconst 0, 1) := by decide +kernel
theorem dX12_isClass_20 : decode cX12_isClass 20 = .ok (.bipush 23, 2) := by decide +kernel
theorem dX12_isClass_22 : decode cX12_isClass 22 = .ok (.invokevirtual 199, 3) := by decide +kernel
theorem dX12_isClass_25 : decode cX12_isClass 25 = .ok (.aload_n 0, 1) := by decide +kernel
theorem dX12_isClass_26 : decode cX12_isClass 26 = .ok (.bipush 23, 2) := by decide +kernel
theorem dX12_isClass_28 : decode cX12_isClass 28 = .ok (.bipush 22, 2) := by decide +kernel
theorem dX12_isClass_30 : decode cX12_isClass 30 = .ok (.iconst (-1), 1) := by decide +kernel
theorem dX12_isClass_31 : decode cX12_isClass 31 = .ok (.iconst 0, 1) := by decide +kernel
theorem dX12_isClass_32 : decode cX12_isClass 32 = .ok (.invokevirtual 195, 3) := by decide +kernel
theorem dX12_isClass_35 : decode cX12_isClass 35 = .ok (.aload_n 0, 1) := by decide +kernel
theorem dX12_isClass_36 : decode cX12_isClass 36 = .ok (.bipush 23, 2) := by decide +kernel
theorem dX12_isClass_38 : decode cX12_isClass 38 = .ok (.iconst 5, 1) := by decide +kernel
theorem dX12_isClass_39 : decode cX12_isClass 39 = .ok (.bipush 16, 2) := by decide +kernel
theorem dX12_isClass_41 : decode cX12_isClass 41 = .ok (.bipush 17, 2) := by decide +kernel
theorem dX12_isClass_43 : decode cX12_isClass 43 = .ok (.invokevirtual 205, 3) := by decide +kernel
theorem dX12_isClass_46 : decode cX12_isClass 46 = .ok (.aload_n 0, 1) := by decide +kernel
theorem dX12_isClass_47 : decode cX12_isClass 47 = .ok (.bipush 17, 2) := by decide +kernel
theorem dX12_isClass_49 : decode cX12_isClass 49 = .ok (.invokevirtual 192, 3) := by decide +kernel
theorem dX12_isClass_52 : decode cX12_isClass 52 = .ok (.ifCond .ge 7, 3) := by decide +kernel
theorem dX12_isClass_55 : decode cX12_isClass 55 = .ok (.iconst 1, 1) := by decide +kernel
theorem dX12_isClass_56 : decode cX12_isClass 56 = .ok (.goto 4, 3) := by decide +kernel
theorem dX12_isClass_59 : decode cX12_isClass 59 = .ok (.iconst 0, 1) := by decide +kernel
theorem dX12_isClass_60 : decode cX12_isClass 60 = .ok (.ireturn, 1) := by decide +kernel
set_option maxRecDepth 20000 in
theorem b_X12_isClass_0 {k n : Nat} {x : Wx} {Z : Zt} {Q : Option Value → Wx → Zt → Prop} {a0 : Nat} {v1 : Int} (o_a0 : Is12 x a0)
    (h : ∃ g1 : Nat → Nat → Int, (∃ g2 : Int, (∃ g3 : Int, (∃ g4 : UV, (MS Z a0 g1 ∧ (IsP g2 ∧ g3 ≤ 2) ∧ RP g2 g3 g4 ∧ (0 ≤ v1 ∧ v1 ≤ 2995) ∧ KC Z a0 v1.toNat g4 ∧ ((0 ≤ (5 : Int) ∧ (5 : Int) < 27) ∧ (0 ≤ (6 : Int) ∧ (6 : Int) < 27) ∧ (5 : Int) ≠ (6 : Int)) ∧ (∀ (Z'1 : Zt), (MS Z'1 a0 (updP (updP g1 (5 : Int).toNat g4.1) (6 : Int).toNat g4.2) ∧ Oth Z Z'1 (O4 a0)) → (∃ g5 : Nat → Nat → Int, (∃ g6 : Int, ((IsP g6 ∧ Z'1 a0 11 = g6) ∧ MS Z'1 a0 g5 ∧ ((0 ≤ (6 : Int) ∧ (6 : Int) < 27) ∧ (0 ≤ (6 : Int) ∧ (6 : Int) < 27) ∧ (0 ≤ (22 : Int) ∧ (22 : Int) < 27) ∧ (22 : Int) ≠ (6 : Int) ∧ (22 : Int) ≠ (6 : Int)) ∧ (InP g6 (g5 (6 : Int).toNat) ∧ Fin (g5 (6 : Int).toNat)) ∧ InP g6 (g5 (6 : Int).toNat) ∧ (∀ (Z'2 : Zt), (MS Z'2 a0 (updP g5 (22 : Int).toNat (pmul g6 (g5 (6 : Int).toNat) (g5 (6 : Int).toNat))) ∧ Oth Z'1 Z'2 (O4 a0)) → (∃ g7 : Nat → Nat → Int, (MS Z'2 a0 g7 ∧ (0 ≤ (23 : Int) ∧ (23 : Int) < 27) ∧ (0 ≤ (0 : Int) ∧ (0 : Int) < 27) ∧ (∀ (Z'3 : Zt), (MS Z'3 a0 (updP g7 (23 : Int).toNat (g7 (0 : Int).toNat)) ∧ Oth Z'2 Z'3 (O4 a0)) → (∃ g8 : Nat → Nat → Int, (∃ g9 : Int, ((IsP g9 ∧ Z'3 a0 11 = g9) ∧ MS Z'3 a0 g8 ∧ ((0 ≤ (23 : Int) ∧ (23 : Int) < 27) ∧ (0 ≤ (22 : Int) ∧ (22 : Int) < 27) ∧ (23 : Int) ≠ (22 : Int)) ∧ ((-100 ≤ (-1 : Int) ∧ (-1 : Int) ≤ 100) ∧ 0 ≤ (0 : Int) ∧ (0 : Int) ≤ 24) ∧ InP g9 (g8 (23 : Int).toNat) ∧ InP g9 (g8 (22 : Int).toNat) ∧ (∀ (Z'4 : Zt), (MS Z'4 a0 (updP g8 (23 : Int).toNat (pads g9 (g8 (23 : Int).toNat) (g8 (22 : Int).toNat) (-1 : Int) (0 : Int).toNat)) ∧ Oth Z'3 Z'4 (O4 a0)) → (∃ g10 : Nat → Nat → Int, (∃ g11 : Int, ((IsP g11 ∧ Z'4 a0 11 = g11) ∧ MS Z'4 a0 g10 ∧ (((0 ≤ (23 : Int) ∧ (23 : Int) < 27) ∧ (0 ≤ (5 : Int) ∧ (5 : Int) < 27) ∧ (0 ≤ (16 : Int) ∧ (16 : Int) < 27) ∧ (0 ≤ (17 : Int) ∧ (17 : Int) < 27)) ∧ (16 : Int) ≠ (23 : Int) ∧ (16 : Int) ≠ (5 : Int) ∧ (17 : Int) ≠ (23 : Int) ∧ (17 : Int) ≠ (5 : Int) ∧ (16 : Int) ≠ (17 : Int)) ∧ (InP g11 (g10 (23 : Int).toNat) ∧ Fin (g10 (23 : Int).toNat)) ∧ (InP g11 (g10 (5 : Int).toNat) ∧ 0 ≤ pd (g10 (5 : Int).toNat)) ∧ (∀ (Z'5 : Zt), (MS Z'5 a0 (updP (updP g10 (16 : Int).toNat (dvQ g11 (g10 (23 : Int).toNat) (g10 (5 : Int).toNat))) (17 : Int).toNat (dvR g11 (g10 (23 : Int).toNat) (g10 (5 : Int).toNat))) ∧ Oth Z'4 Z'5 (O4 a0)) → (∃ g12 : Nat → Nat → Int, (MS Z'5 a0 g12 ∧ (0 ≤ (17 : Int) ∧ (17 : Int) < 27) ∧ (∀ i : Nat, i < 24 → Rg (g12 (17 : Int).toNat i)) ∧ (Rg (pd (g12 (17 : Int).toNat)) ∧ (((0 ≤ pd (g12 (17 : Int).toNat)) → (Q (some (i_ 0)) x Z'5)) ∧ ((pd (g12 (17 : Int).toNat) < 0) → (Q (some (i_ 1)) x Z'5))))))))))))))))))))))))))) :
    V mX12_isClass k n 0 [some (r_ a0), some (i_ v1)] [] x Z Q :=
  V_aload_n dX12_isClass_0 rfl (V_iload_n dX12_isClass_1 rfl (V_iconst dX12_isClass_2 (V_bipush dX12_isClass_3 rfl (Exists.elim h (fun g1 w1 => Exists.elim w1 (fun g2 w2 => Exists.elim w2 (fun g3 w3 => Exists.elim w3 (fun g4 w4 => V_callV (k' := 0) (n' := 0) (t := 12) (q := (RX12, TX12, 46)) [i_ v1, i_ 5, i_ 6] [] okX12_loads o_a0.1 rfl rfl lm_12_363 liX12_loads lqX12_loads (Nat.le_of_ble_eq_true rfl) (Nat.le_of_ble_eq_true rfl) (Nat.le_of_ble_eq_true rfl) (cat_of rfl) (Nat.le_of_ble_eq_true rfl) (Nat.zero_le _) (Nat.zero_le _) rfl dX12_isClass_5 (sp_X12_loads o_a0 w4.1 w4.2.1 w4.2.2.1 w4.2.2.2.1 w4.2.2.2.2.1 w4.2.2.2.2.2.1 (fun Z'1 p1 => V_aload_n dX12_isClass_8 rfl (V_bipush dX12_isClass_9 rfl (V_bipush dX12_isClass_11 rfl (V_bipush dX12_isClass_13 rfl (Exists.elim (w4.2.2.2.2.2.2 Z'1 p1) (fun g5 w5 => Exists.elim w5 (fun g6 w6 => V_callV (k' := 0) (n' := 0) (t := 12) (q := (RX12, TX12, 46)) [i_ 6, i_ 6, i_ 22] [] okX12_product o_a0.1 rfl rfl lm_12_215 liX12_product lqX12_product (Nat.le_of_ble_eq_true rfl) (Nat.le_of_ble_eq_true rfl) (Nat.le_of_ble_eq_true rfl) (cat_of rfl) (Nat.le_of_ble_eq_true rfl) (Nat.zero_le _) (Nat.zero_le _) rfl dX12_isClass_15 (sp_X12_product o_a0 w6.1 w6.2.1 w6.2.2.1 w6.2.2.2.1 w6.2.2.2.2.1 (fun Z'2 p2 => V_aload_n dX12_isClass_18 rfl (V_iconst dX12_isClass_19 (V_bipush dX12_isClass_20 rfl (Exists.elim (w6.2.2.2.2.2 Z'2 p2) (fun g7 w7 => V_callV (k' := 0) (n' := 0) (t := 12) (q := (RX12, TX12, 46)) [i_ 0, i_ 23] [] okX12_copy o_a0.1 rfl rfl lm_12_199 liX12_copy lqX12_copy (Nat.le_of_ble_eq_true rfl) (Nat.le_of_ble_eq_true rfl) (Nat.le_of_ble_eq_true rfl) (cat_of rfl) (Nat.le_of_ble_eq_true rfl) (Nat.zero_le _) (Nat.zero_le _) rfl dX12_isClass_22 (sp_X12_copy o_a0 w7.1 w7.2.1 w7.2.2.1 (fun Z'3 p3 => V_aload_n dX12_isClass_25 rfl (V_bipush dX12_isClass_26 rfl (V_bipush dX12_isClass_28 rfl (V_iconst dX12_isClass_30 (V_iconst dX12_isClass_31 (Exists.elim (w7.2.2.2 Z'3 p3) (fun g8 w8 => Exists.elim w8 (fun g9 w9 => V_callV (k' := 0) (n' := 0) (t := 12) (q := (RX12, TX12, 46)) [i_ 23, i_ 22, i_ (-1), i_ 0] [] okX12_adds o_a0.1 rfl rfl lm_12_195 liX12_adds lqX12_adds (Nat.le_of_ble_eq_true rfl) (Nat.le_of_ble_eq_true rfl) (Nat.le_of_ble_eq_true rfl) (cat_of rfl) (Nat.le_of_ble_eq_true rfl) (Nat.zero_le _) (Nat.zero_le _) rfl dX12_isClass_32 (sp_X12_adds o_a0 w9.1 w9.2.1 w9.2.2.1 w9.2.2.2.1 w9.2.2.2.2.1 w9.2.2.2.2.2.1 (fun Z'4 p4 => V_aload_n dX12_isClass_35 rfl (V_bipush dX12_isClass_36 rfl (V_iconst dX12_isClass_38 (V_bipush dX12_isClass_39 rfl (V_bipush dX12_isClass_41 rfl (Exists.elim (w9.2.2.2.2.2.2 Z'4 p4) (fun g10 w10 => Exists.elim w10 (fun g11 w11 => V_callV (k' := 0) (n' := 0) (t := 12) (q := (RX12, TX12, 46)) [i_ 23, i_ 5, i_ 16, i_ 17] [] okX12_divides o_a0.1 rfl rfl lm_12_205 liX12_divides lqX12_divides (Nat.le_of_ble_eq_true rfl) (Nat.le_of_ble_eq_true rfl) (Nat.le_of_ble_eq_true rfl) (cat_of rfl) (Nat.le_of_ble_eq_true rfl) (Nat.zero_le _) (Nat.zero_le _) rfl dX12_isClass_43 (sp_X12_divides o_a0 w11.1 w11.2.1 w11.2.2.1 w11.2.2.2.1 w11.2.2.2.2.1 (fun Z'5 p5 => V_aload_n dX12_isClass_46 rfl (V_bipush dX12_isClass_47 rfl (Exists.elim (w11.2.2.2.2.2 Z'5 p5) (fun g12 w12 => V_callV (k' := 0) (n' := 0) (t := 12) (q := (RX12, TX12, 46)) [i_ 17] [] okX12_deg o_a0.1 rfl rfl lm_12_192 liX12_deg lqX12_deg (Nat.le_of_ble_eq_true rfl) (Nat.le_of_ble_eq_true rfl) (Nat.le_of_ble_eq_true rfl) (cat_of rfl) (Nat.le_of_ble_eq_true rfl) (Nat.zero_le _) (Nat.zero_le _) rfl dX12_isClass_49 (sp_X12_deg o_a0 w12.1 w12.2.1 w12.2.2.1 (V_if_ge (tgt := 59) dX12_isClass_52 rfl w12.2.2.2.1 (fun c1 => V_iconst dX12_isClass_59 (V_iret (ty := .boolean) dX12_isClass_60 rfl rfl (w12.2.2.2.2.1 c1))) (fun c1 => V_iconst dX12_isClass_55 (V_goto (tgt := 60) dX12_isClass_56 rfl (V_iret (ty := .boolean) dX12_isClass_60 rfl rfl (w12.2.2.2.2.2 c1)))))))))))))))))))))))))))))))))))))))))))))))))))
/-- U divides F - V V -/
def vldB (p : Int) (F : Nat → Int) (A : UV) : Bool := decide (pd (dvR p (padd p F (pmul p A.2 A.2) (-1)) A.1) < 0)
theorem sp_X12_isClass {k n : Nat} {x : Wx} {Z : Zt} {Q : Option Value → Wx → Zt → Prop} {b : Nat} {c : Int} (o : Is12 x b) {p : Int} {F : Nat → Int} {A : UV} (hF : MF Z b p F) (hA : RP p (gen F) A) (hc : 0 ≤ c ∧ c ≤ 2995) (hK : KC Z b c.toNat A) (h : ∀ Z' : Zt, (MF Z' b p F ∧ Oth Z Z' (O4 b)) → Q (some (i_ (bI (vldB p F A)))) x Z') : V mX12_isClass k n 0 [some (r_ b), some (i_ c)] [] x Z Q := by
  obtain ⟨hMC, hC, P, hP, h0⟩ := id hF
  have hp := hC.1
  have hpr := hp.rg
  have hgn := hC.2.2.2.2
  have b11 : Z b 11 = p := hMC.1.1
  obtain ⟨⟨aI, aF⟩, ⟨vI, vF⟩, a0, a1, a2, a3⟩ := id hA
  have t0 : (0 : Int).toNat = 0 := rfl
  have t5 : (5 : Int).toNat = 5 := rfl
  have t6 : (6 : Int).toNat = 6 := rfl
  have t16 : (16 : Int).toNat = 16 := rfl
  have t17 : (17 : Int).toNat = 17 := rfl
  have t22 : (22 : Int).toNat = 22 := rfl
  have t23 : (23 : Int).toNat = 23 := rfl
  have eb : ∀ Z1 : Zt, Oth Z Z1 (O4 b) → Z1 b 11 = p := fun Z1 ho => by rw [ho b (by show ¬ (b = b + 4); omega)]; exact b11
  refine b_X12_isClass_0 o ?_
  rw [t0, t5, t6, t16, t17, t22, t23]
  refine ⟨P, p, gen F, A, hP, ⟨hp, by omega⟩, hA, hc, hK, by decide, fun Z1 hz1 => ⟨_, p, ⟨hp, eb Z1 hz1.2⟩, hz1.1, by decide, ?_, ?_, fun Z2 hz2 => ⟨_, hz2.1, by decide, by decide, fun Z3 hz3 => ?_⟩⟩⟩
  · rw [updP_s]; exact ⟨vI, vF⟩
  · rw [updP_s]; exact vI
  rw [updP_s] at hz2 hz3
  have o3 := hz1.2.tr (hz2.2.tr hz3.2)
  obtain ⟨P2, hP2⟩ : ∃ P2 : Nat → Nat → Int, updP (updP (updP P 5 A.1) 6 A.2) 22 (pmul p A.2 A.2) = P2 := ⟨_, rfl⟩
  rw [hP2] at hz3
  have y22 : P2 22 = pmul p A.2 A.2 := by rw [← hP2, updP_s]
  have y0 : P2 0 = F := by rw [← hP2, updP_n _ _ (by decide), updP_n _ _ (by decide), updP_n _ _ (by decide)]; exact h0
  have y5 : P2 5 = A.1 := by rw [← hP2, updP_n _ _ (by decide), updP_n _ _ (by decide), updP_s]
  rw [y0] at hz3
  refine ⟨_, p, ⟨hp, eb Z3 o3⟩, hz3.1, by decide, by decide, ?_, ?_, fun Z4 hz4 => ?_⟩
  · rw [updP_s]; exact hC.2.1
  · rw [updP_n _ _ (by decide), y22]; exact pmul_in (by omega)
  rw [updP_s, updP_n _ _ (show (22 : Nat) ≠ 23 by decide), y22, updP_2] at hz4
  have o4 := o3.tr hz4.2
  have m4 : MS Z4 b (updP P2 23 (padd p F (pmul p A.2 A.2) (-1))) := hz4.1.eq (fun q i hq hi => by
    by_cases cq : q = 23
    · subst cq; rw [updP_s, updP_s]; exact pads0 i hi
    · rw [updP_n _ _ cq, updP_n _ _ cq])
  have iN : InP p (padd p F (pmul p A.2 A.2) (-1)) := padd_in (by omega)
  have fN : Fin (padd p F (pmul p A.2 A.2) (-1)) := padd_fin hC.2.2.1 (pmul_fin vF vF (by omega))
  refine ⟨_, p, ⟨hp, eb Z4 o4⟩, m4, by decide, ?_, ?_, fun Z5 hz5 => ?_⟩
  · rw [updP_s]; exact ⟨iN, fN⟩
  · rw [updP_n _ _ (by decide), y5]; exact ⟨aI, a0⟩
  rw [updP_s, updP_n _ _ (show (5 : Nat) ≠ 23 by decide), y5] at hz5
  have o5 := o4.tr hz5.2
  have hrg := pd_ge (dvR p (padd p F (pmul p A.2 A.2) (-1)) A.1)
  have hrl := pd_lt (dvR p (padd p F (pmul p A.2 A.2) (-1)) A.1)
  have iR : InP p (dvR p (padd p F (pmul p A.2 A.2) (-1)) A.1) := dvR_in (by omega) iN
  have eb5 : Z5 b = Z b := o5 b (by show ¬ (b = b + 4); omega)
  have hF5 : MF Z5 b p F := ⟨hMC.kept ⟨by rw [eb5], by rw [eb5], by rw [eb5]⟩ (o5 _ (by show ¬ (b + 5 = b + 4); omega)) (o5 _ (by show ¬ (b + 6 = b + 4); omega)), hC, _, hz5.1, by rw [updP_n _ _ (by decide), updP_n _ _ (by decide), updP_n _ _ (by decide)]; exact y0⟩
  unfold vldB at h
  refine ⟨_, hz5.1, by decide, ?_, ?_⟩
  · rw [updP_s]; exact fun i _ => ⟨by have := iR i; omega, by have := iR i; omega⟩
  rw [updP_s]
  refine ⟨⟨by omega, by omega⟩, fun c1 => ?_, fun c1 => ?_⟩
  · rw [bI_f (by omega)] at h; exact h Z5 ⟨hF5, o5⟩
  · rw [bI_t c1] at h; exact h Z5 ⟨hF5, o5⟩
