/-! ===== the reference: greatest common divisors ===== -/
theorem dX12_steps_0 : decode cX12_steps 0 = .ok (.aload_n 0, 1) := by decide +kernel
theorem dX12_steps_1 : decode cX12_steps 1 = .ok (.bipush 16, 2) := by decide +kernel
theorem dX12_steps_3 : decode cX12_steps 3 = .ok (.iload_n 2, 1) := by decide +kernel
theorem dX12_steps_4 : decode cX12_steps 4 = .ok (.bipush 17, 2) := by decide +kernel
theorem dX12_steps_6 : decode cX12_steps 6 = .ok (.invokevirtual 215, 3) := by decide +kernel
theorem dX12_steps_9 : decode cX12_steps 9 = .ok (.aload_n 0, 1) := by decide +kernel
theorem dX12_steps_10 : decode cX12_steps 10 = .ok (.iload_n 1, 1) := by decide +kernel
theorem dX12_steps_11 : decode cX12_steps 11 = .ok (.bipush 21, 2) := by decide +kernel
theorem dX12_steps_13 : decode cX12_steps 13 = .ok (.invokevirtual 199, 3) := by decide +kernel
theorem dX12_steps_16 : decode cX12_steps 16 = .ok (.aload_n 0, 1) := by decide +kernel
theorem dX12_steps_17 : decode cX12_steps 17 = .ok (.bipush 21, 2) := by decide +kernel
theorem dX12_steps_19 : decode cX12_steps 19 = .ok (.bipush 17, 2) := by decide +kernel
theorem dX12_steps_21 : decode cX12_steps 21 = .ok (.iconst (-1), 1) := by decide +kernel
theorem dX12_steps_22 : decode cX12_steps 22 = .ok (.iconst 0, 1) := by decide +kernel
theorem dX12_steps_23 : decode cX12_steps 23 = .ok (.invokevirtual 195, 3) := by decide +kernel
theorem dX12_steps_26 : decode cX12_steps 26 = .ok (.aload_n 0, 1) := by decide +kernel
theorem dX12_steps_27 : decode cX12_steps 27 = .ok (.iload_n 2, 1) := by decide +kernel
theorem dX12_steps_28 : decode cX12_steps 28 = .ok (.iload_n 1, 1) := by decide +kernel
theorem dX12_steps_29 : decode cX12_steps 29 = .ok (.invokevirtual 199, 3) := by decide +kernel
theorem dX12_steps_32 : decode cX12_steps 32 = .ok (.aload_n 0, 1) := by decide +kernel
theorem dX12_steps_33 : decode cX12_steps 33 = .ok (.bipush 21, 2) := by decide +kernel
theorem dX12_steps_35 : decode cX12_steps 35 = .ok (.iload_n 2, 1) := by decide +kernel
theorem dX12_steps_36 : decode cX12_steps 36 = .ok (.invokevirtual 199, 3) := by decide +kernel
theorem dX12_steps_39 : decode cX12_steps 39 = .ok (.return_, 1) := by decide +kernel
set_option maxRecDepth 20000 in
theorem b_X12_steps_0 {k n : Nat} {x : Wx} {Z : Zt} {Q : Option Value → Wx → Zt → Prop} {a0 : Nat} {v1 : Int} {v2 : Int} (o_a0 : Is12 x a0)
    (h : ∃ g1 : Nat → Nat → Int, (∃ g2 : Int, ((IsP g2 ∧ Z a0 11 = g2) ∧ MS Z a0 g1 ∧ ((0 ≤ (16 : Int) ∧ (16 : Int) < 27) ∧ (0 ≤ v2 ∧ v2 < 27) ∧ (0 ≤ (17 : Int) ∧ (17 : Int) < 27) ∧ (17 : Int) ≠ (16 : Int) ∧ (17 : Int) ≠ v2) ∧ (InP g2 (g1 (16 : Int).toNat) ∧ Fin (g1 (16 : Int).toNat)) ∧ InP g2 (g1 v2.toNat) ∧ (∀ (Z'1 : Zt), (MS Z'1 a0 (updP g1 (17 : Int).toNat (pmul g2 (g1 (16 : Int).toNat) (g1 v2.toNat))) ∧ Oth Z Z'1 (O4 a0)) → (∃ g3 : Nat → Nat → Int, (MS Z'1 a0 g3 ∧ (0 ≤ (21 : Int) ∧ (21 : Int) < 27) ∧ (0 ≤ v1 ∧ v1 < 27) ∧ (∀ (Z'2 : Zt), (MS Z'2 a0 (updP g3 (21 : Int).toNat (g3 v1.toNat)) ∧ Oth Z'1 Z'2 (O4 a0)) → (∃ g4 : Nat → Nat → Int, (∃ g5 : Int, ((IsP g5 ∧ Z'2 a0 11 = g5) ∧ MS Z'2 a0 g4 ∧ ((0 ≤ (21 : Int) ∧ (21 : Int) < 27) ∧ (0 ≤ (17 : Int) ∧ (17 : Int) < 27) ∧ (21 : Int) ≠ (17 : Int)) ∧ ((-100 ≤ (-1 : Int) ∧ (-1 : Int) ≤ 100) ∧ 0 ≤ (0 : Int) ∧ (0 : Int) ≤ 24) ∧ InP g5 (g4 (21 : Int).toNat) ∧ InP g5 (g4 (17 : Int).toNat) ∧ (∀ (Z'3 : Zt), (MS Z'3 a0 (updP g4 (21 : Int).toNat (pads g5 (g4 (21 : Int).toNat) (g4 (17 : Int).toNat) (-1 : Int) (0 : Int).toNat)) ∧ Oth Z'2 Z'3 (O4 a0)) → (∃ g6 : Nat → Nat → Int, (MS Z'3 a0 g6 ∧ (0 ≤ v1 ∧ v1 < 27) ∧ (0 ≤ v2 ∧ v2 < 27) ∧ (∀ (Z'4 : Zt), (MS Z'4 a0 (updP g6 v1.toNat (g6 v2.toNat)) ∧ Oth Z'3 Z'4 (O4 a0)) → (∃ g7 : Nat → Nat → Int, (MS Z'4 a0 g7 ∧ (0 ≤ v2 ∧ v2 < 27) ∧ (0 ≤ (21 : Int) ∧ (21 : Int) < 27) ∧ (∀ (Z'5 : Zt), (MS Z'5 a0 (updP g7 v2.toNat (g7 (21 : Int).toNat)) ∧ Oth Z'4 Z'5 (O4 a0)) → (Q none x Z'5)))))))))))))))))) :
    V mX12_steps k n 0 [some (r_ a0), some (i_ v1), some (i_ v2)] [] x Z Q :=
  V_aload_n dX12_steps_0 rfl (V_bipush dX12_steps_1 rfl (V_iload_n dX12_steps_3 rfl (V_bipush dX12_steps_4 rfl (Exists.elim h (fun g1 w1 => Exists.elim w1 (fun g2 w2 => V_callV (k' := 0) (n' := 0) (t := 12) (q := (RX12, TX12, 46)) [i_ 16, i_ v2, i_ 17] [] okX12_product o_a0.1 rfl rfl lm_12_215 liX12_product lqX12_product (Nat.le_of_ble_eq_true rfl) (Nat.le_of_ble_eq_true rfl) (Nat.le_of_ble_eq_true rfl) (cat_of rfl) (Nat.le_of_ble_eq_true rfl) (Nat.zero_le _) (Nat.zero_le _) rfl dX12_steps_6 (sp_X12_product o_a0 w2.1 w2.2.1 w2.2.2.1 w2.2.2.2.1 w2.2.2.2.2.1 (fun Z'1 p1 => V_aload_n dX12_steps_9 rfl (V_iload_n dX12_steps_10 rfl (V_bipush dX12_steps_11 rfl (Exists.elim (w2.2.2.2.2.2 Z'1 p1) (fun g3 w3 => V_callV (k' := 0) (n' := 0) (t := 12) (q := (RX12, TX12, 46)) [i_ v1, i_ 21] [] okX12_copy o_a0.1 rfl rfl lm_12_199 liX12_copy lqX12_copy (Nat.le_of_ble_eq_true rfl) (Nat.le_of_ble_eq_true rfl) (Nat.le_of_ble_eq_true rfl) (cat_of rfl) (Nat.le_of_ble_eq_true rfl) (Nat.zero_le _) (Nat.zero_le _) rfl dX12_steps_13 (sp_X12_copy o_a0 w3.1 w3.2.1 w3.2.2.1 (fun Z'2 p2 => V_aload_n dX12_steps_16 rfl (V_bipush dX12_steps_17 rfl (V_bipush dX12_steps_19 rfl (V_iconst dX12_steps_21 (V_iconst dX12_steps_22 (Exists.elim (w3.2.2.2 Z'2 p2) (fun g4 w4 => Exists.elim w4 (fun g5 w5 => V_callV (k' := 0) (n' := 0) (t := 12) (q := (RX12, TX12, 46)) [i_ 21, i_ 17, i_ (-1), i_ 0] [] okX12_adds o_a0.1 rfl rfl lm_12_195 liX12_adds lqX12_adds (Nat.le_of_ble_eq_true rfl) (Nat.le_of_ble_eq_true rfl) (Nat.le_of_ble_eq_true rfl) (cat_of rfl) (Nat.le_of_ble_eq_true rfl) (Nat.zero_le _) (Nat.zero_le _) rfl dX12_steps_23 (sp_X12_adds o_a0 w5.1 w5.2.1 w5.2.2.1 w5.2.2.2.1 w5.2.2.2.2.1 w5.2.2.2.2.2.1 (fun Z'3 p3 => V_aload_n dX12_steps_26 rfl (V_iload_n dX12_steps_27 rfl (V_iload_n dX12_steps_28 rfl (Exists.elim (w5.2.2.2.2.2.2 Z'3 p3) (fun g6 w6 => V_callV (k' := 0) (n' := 0) (t := 12) (q := (RX12, TX12, 46)) [i_ v2, i_ v1] [] okX12_copy o_a0.1 rfl rfl lm_12_199 liX12_copy lqX12_copy (Nat.le_of_ble_eq_true rfl) (Nat.le_of_ble_eq_true rfl) (Nat.le_of_ble_eq_true rfl) (cat_of rfl) (Nat.le_of_ble_eq_true rfl) (Nat.zero_le _) (Nat.zero_le _) rfl dX12_steps_29 (sp_X12_copy o_a0 w6.1 w6.2.1 w6.2.2.1 (fun Z'4 p4 => V_aload_n dX12_steps_32 rfl (V_bipush dX12_steps_33 rfl (V_iload_n dX12_steps_35 rfl (Exists.elim (w6.2.2.2 Z'4 p4) (fun g7 w7 => V_callV (k' := 0) (n' := 0) (t := 12) (q := (RX12, TX12, 46)) [i_ 21, i_ v2] [] okX12_copy o_a0.1 rfl rfl lm_12_199 liX12_copy lqX12_copy (Nat.le_of_ble_eq_true rfl) (Nat.le_of_ble_eq_true rfl) (Nat.le_of_ble_eq_true rfl) (cat_of rfl) (Nat.le_of_ble_eq_true rfl) (Nat.zero_le _) (Nat.zero_le _) rfl dX12_steps_36 (sp_X12_copy o_a0 w7.1 w7.2.1 w7.2.2.1 (fun Z'5 p5 => V_ret dX12_steps_39 rfl (w7.2.2.2 Z'5 p5))))))))))))))))))))))))))))))))))))
theorem pads0 {p : Int} {f g : Nat → Int} {t : Int} (i : Nat) (hi : i < 24) : pads p f g t 0 i = padd p f g t i := by unfold pads padd; rw [if_pos ⟨Nat.zero_le _, hi⟩]; rfl
theorem pads0_in {p : Int} {f g : Nat → Int} {t : Int} {s : Nat} (hp : 0 < p) (hf : InP p f) : InP p (pads p f g t s) := fun i => by
  unfold pads; split
  · exact emr _ hp
  · exact hf i
theorem sp_X12_steps {k n : Nat} {x : Wx} {Z : Zt} {Q : Option Value → Wx → Zt → Prop} {b : Nat} {u w : Int} (o : Is12 x b) {P : Nat → Nat → Int} {p : Int} (hp : IsP p ∧ Z b 11 = p) (hP : MS Z b P) (hu : (0 ≤ u ∧ u < 16) ∧ (0 ≤ w ∧ w < 16) ∧ u ≠ w) (hq : InP p (P 16) ∧ Fin (P 16)) (hf : InP p (P u.toNat)) (hg : InP p (P w.toNat)) (h : ∀ (Z' : Zt) (P' : Nat → Nat → Int), (MS Z' b P' ∧ Oth Z Z' (O4 b) ∧ P' u.toNat = P w.toNat ∧ P' w.toNat = padd p (P u.toNat) (pmul p (P 16) (P w.toNat)) (-1) ∧ (∀ q : Nat, q ≠ u.toNat → q ≠ w.toNat → q ≠ 17 → q ≠ 21 → P' q = P q)) → Q none x Z') : V mX12_steps k n 0 [some (r_ b), some (i_ u), some (i_ w)] [] x Z Q := by
  obtain ⟨hp', hb⟩ := hp
  have hr := hp'.rg
  have hp0 : 0 < p := by omega
  have hb1 : ∀ Z1 : Zt, Oth Z Z1 (O4 b) → Z1 b 11 = p := fun Z1 h1 => by rw [h1 b (by show ¬ (b = b + 4); omega)]; exact hb
  obtain ⟨u', eu⟩ : ∃ u' : Nat, u = (u' : Int) := ⟨u.toNat, by omega⟩
  obtain ⟨w', ew⟩ : ∃ w' : Nat, w = (w' : Int) := ⟨w.toNat, by omega⟩
  subst eu ew
  simp only [Int.toNat_natCast] at *
  refine b_X12_steps_0 o ⟨P, p, ⟨hp', hb⟩, hP, ⟨by decide, by omega, by decide, by decide, by omega⟩, hq, hg, fun Z1 z1 => ⟨_, z1.1, by decide, by omega, fun Z2 z2 => ⟨_, p, ⟨hp', hb1 _ (z1.2.tr z2.2)⟩, z2.1, by decide, by decide, ?_, ?_, fun Z3 z3 => ⟨_, z3.1, by omega, by omega, fun Z4 z4 => ⟨_, z4.1, by omega, by decide, fun Z5 z5 => ?_⟩⟩⟩⟩⟩
  · show InP p (updP P 17 _ u')
    rw [updP_n _ _ (by omega)]; exact hf
  · show InP p (pmul p (P 16) (P w'))
    exact pmul_in hp0
  · simp only [Int.toNat_natCast] at *
    refine h Z5 (updP (updP (updP (updP P 17 (pmul p (P 16) (P w'))) 21 (padd p (P u') (pmul p (P 16) (P w')) (-1))) u' (P w')) w' (padd p (P u') (pmul p (P 16) (P w')) (-1))) ⟨z5.1.eq (fun q i hq hi => ?_), (((z1.2.tr z2.2).tr z3.2).tr z4.2).tr z5.2, ?_, ?_, ?_⟩
    · have e1 : updP P 17 (pmul p (P 16) (P w')) u' = P u' := updP_n _ _ (by omega)
      show updP (updP (updP (updP (updP P 17 (pmul p (P 16) (P w'))) 21 (updP P 17 (pmul p (P 16) (P w')) u')) 21 (pads p (updP P 17 (pmul p (P 16) (P w')) u') (pmul p (P 16) (P w')) (-1) 0)) u' (updP (updP (updP P 17 (pmul p (P 16) (P w'))) 21 (updP P 17 (pmul p (P 16) (P w')) u')) 21 (pads p (updP P 17 (pmul p (P 16) (P w')) u') (pmul p (P 16) (P w')) (-1) 0) w')) w' (updP (updP (updP (updP P 17 (pmul p (P 16) (P w'))) 21 (updP P 17 (pmul p (P 16) (P w')) u')) 21 (pads p (updP P 17 (pmul p (P 16) (P w')) u') (pmul p (P 16) (P w')) (-1) 0)) u' (updP (updP (updP P 17 (pmul p (P 16) (P w'))) 21 (updP P 17 (pmul p (P 16) (P w')) u')) 21 (pads p (updP P 17 (pmul p (P 16) (P w')) u') (pmul p (P 16) (P w')) (-1) 0) w') 21) q i = _
      rw [e1]
      simp only [updP_2]
      rw [updP_n (q := w') _ _ (show w' ≠ 21 by omega), updP_n (q := w') _ _ (show w' ≠ 17 by omega)]
      rw [updP_n (q := 21) _ _ (show 21 ≠ u' by omega), updP_s]
      by_cases c : q = w'
      · subst c; rw [updP_s, updP_s]; exact pads0 i hi
      · rw [updP_n _ _ c, updP_n _ _ c]
        by_cases c2 : q = u'
        · subst c2; rw [updP_s, updP_s]
        · rw [updP_n _ _ c2, updP_n _ _ c2]
          by_cases c3 : q = 21
          · subst c3; rw [updP_s, updP_s]; exact pads0 i hi
          · rw [updP_n _ _ c3, updP_n _ _ c3]
    · rw [updP_n _ _ (by omega), updP_s]
    · rw [updP_s]
    · intro q h1 h2 h3 h4
      rw [updP_n _ _ h2, updP_n _ _ h1, updP_n _ _ h4, updP_n _ _ h3]
theorem dX12_common_0 : decode cX12_common 0 = .ok (.aload_n 0, 1) := by decide +kernel
theorem dX12_common_1 : decode cX12_common 1 = .ok (.iload_n 1, 1) := by decide +kernel
theorem dX12_common_2 : decode cX12_common 2 = .ok (.bipush 10, 2) := by decide +kernel
theorem dX12_common_4 : decode cX12_common 4 = .ok (.invokevirtual 199, 3) := by decide +kernel
theorem dX12_common_7 : decode cX12_common 7 = .ok (.aload_n 0, 1) := by decide +kernel
theorem dX12_common_8 : decode cX12_common 8 = .ok (.iload_n 2, 1) := by decide +kernel
theorem dX12_common_9 : decode cX12_common 9 = .ok (.bipush 11, 2) := by decide +kernel
theorem dX12_common_11 : decode cX12_common 11 = .ok (.invokevirtual 199, 3) := by decide +kernel
theorem dX12_common_14 : decode cX12_common 14 = .ok (.aload_n 0, 1) := by decide +kernel
theorem dX12_common_15 : decode cX12_common 15 = .ok (.bipush 12, 2) := by decide +kernel
theorem dX12_common_17 : decode cX12_common 17 = .ok (.invokevirtual 188, 3) := by decide +kernel
theorem dX12_common_20 : decode cX12_common 20 = .ok (.aload_n 0, 1) := by decide +kernel
theorem dX12_common_21 : decode cX12_common 21 = .ok (.bipush 13, 2) := by decide +kernel
theorem dX12_common_23 : decode cX12_common 23 = .ok (.invokevirtual 188, 3) := by decide +kernel
theorem dX12_common_26 : decode cX12_common 26 = .ok (.aload_n 0, 1) := by decide +kernel
theorem dX12_common_27 : decode cX12_common 27 = .ok (.bipush 14, 2) := by decide +kernel
theorem dX12_common_29 : decode cX12_common 29 = .ok (.invokevirtual 188, 3) := by decide +kernel
theorem dX12_common_32 : decode cX12_common 32 = .ok (.aload_n 0, 1) := by decide +kernel
theorem dX12_common_33 : decode cX12_common 33 = .ok (.bipush 15, 2) := by decide +kernel
theorem dX12_common_35 : decode cX12_common 35 = .ok (.invokevirtual 188, 3) := by decide +kernel
theorem dX12_common_38 : decode cX12_common 38 = .ok (.aload_n 0, 1) := by decide +kernel
theorem dX12_common_39 : decode cX12_common 39 = .ok (.getfield 20, 3) := by decide +kernel
theorem dX12_common_42 : decode cX12_common 42 = .ok (.sipush 288, 3) := by decide +kernel
theorem dX12_common_45 : decode cX12_common 45 = .ok (.iconst 1, 1) := by decide +kernel
theorem dX12_common_46 : decode cX12_common 46 = .ok (.iastore, 1) := by decide +kernel
theorem dX12_common_47 : decode cX12_common 47 = .ok (.aload_n 0, 1) := by decide +kernel
theorem dX12_common_48 : decode cX12_common 48 = .ok (.getfield 20, 3) := by decide +kernel
theorem dX12_common_51 : decode cX12_common 51 = .ok (.sipush 360, 3) := by decide +kernel
theorem dX12_common_54 : decode cX12_common 54 = .ok (.iconst 1, 1) := by decide +kernel
theorem dX12_common_55 : decode cX12_common 55 = .ok (.iastore, 1) := by decide +kernel
theorem dX12_common_56 : decode cX12_common 56 = .ok (.aload_n 0, 1) := by decide +kernel
theorem dX12_common_57 : decode cX12_common 57 = .ok (.bipush 11, 2) := by decide +kernel
theorem dX12_common_59 : decode cX12_common 59 = .ok (.invokevirtual 192, 3) := by decide +kernel
theorem dX12_common_62 : decode cX12_common 62 = .ok (.ifCond .lt 50, 3) := by decide +kernel
theorem dX12_common_65 : decode cX12_common 65 = .ok (.aload_n 0, 1) := by decide +kernel
theorem dX12_common_66 : decode cX12_common 66 = .ok (.bipush 10, 2) := by decide +kernel
theorem dX12_common_68 : decode cX12_common 68 = .ok (.bipush 11, 2) := by decide +kernel
theorem dX12_common_70 : decode cX12_common 70 = .ok (.bipush 16, 2) := by decide +kernel
theorem dX12_common_72 : decode cX12_common 72 = .ok (.bipush 17, 2) := by decide +kernel
theorem dX12_common_74 : decode cX12_common 74 = .ok (.invokevirtual 205, 3) := by decide +kernel
theorem dX12_common_77 : decode cX12_common 77 = .ok (.aload_n 0, 1) := by decide +kernel
theorem dX12_common_78 : decode cX12_common 78 = .ok (.bipush 11, 2) := by decide +kernel
theorem dX12_common_80 : decode cX12_common 80 = .ok (.bipush 10, 2) := by decide +kernel
theorem dX12_common_82 : decode cX12_common 82 = .ok (.invokevirtual 199, 3) := by decide +kernel
theorem dX12_common_85 : decode cX12_common 85 = .ok (.aload_n 0, 1) := by decide +kernel
theorem dX12_common_86 : decode cX12_common 86 = .ok (.bipush 17, 2) := by decide +kernel
theorem dX12_common_88 : decode cX12_common 88 = .ok (.bipush 11, 2) := by decide +kernel
theorem dX12_common_90 : decode cX12_common 90 = .ok (.invokevirtual 199, 3) := by decide +kernel
theorem dX12_common_93 : decode cX12_common 93 = .ok (.aload_n 0, 1) := by decide +kernel
theorem dX12_common_94 : decode cX12_common 94 = .ok (.bipush 12, 2) := by decide +kernel
theorem dX12_common_96 : decode cX12_common 96 = .ok (.bipush 13, 2) := by decide +kernel
theorem dX12_common_98 : decode cX12_common 98 = .ok (.invokevirtual 208, 3) := by decide +kernel
theorem dX12_common_101 : decode cX12_common 101 = .ok (.aload_n 0, 1) := by decide +kernel
theorem dX12_common_102 : decode cX12_common 102 = .ok (.bipush 14, 2) := by decide +kernel
theorem dX12_common_104 : decode cX12_common 104 = .ok (.bipush 15, 2) := by decide +kernel
theorem dX12_common_106 : decode cX12_common 106 = .ok (.invokevirtual 208, 3) := by decide +kernel
theorem dX12_common_109 : decode cX12_common 109 = .ok (.goto (-53), 3) := by decide +kernel
theorem dX12_common_112 : decode cX12_common 112 = .ok (.aload_n 0, 1) := by decide +kernel
theorem dX12_common_113 : decode cX12_common 113 = .ok (.aload_n 0, 1) := by decide +kernel
theorem dX12_common_114 : decode cX12_common 114 = .ok (.bipush 10, 2) := by decide +kernel
theorem dX12_common_116 : decode cX12_common 116 = .ok (.aload_n 0, 1) := by decide +kernel
theorem dX12_common_117 : decode cX12_common 117 = .ok (.bipush 10, 2) := by decide +kernel
theorem dX12_common_119 : decode cX12_common 119 = .ok (.invokevirtual 192, 3) := by decide +kernel
theorem dX12_common_122 : decode cX12_common 122 = .ok (.invokevirtual 185, 3) := by decide +kernel
theorem dX12_common_125 : decode cX12_common 125 = .ok (.invokevirtual 202, 3) := by decide +kernel
theorem dX12_common_128 : decode cX12_common 128 = .ok (.istore_n 3, 1) := by decide +kernel
theorem dX12_common_129 : decode cX12_common 129 = .ok (.aload_n 0, 1) := by decide +kernel
theorem dX12_common_130 : decode cX12_common 130 = .ok (.bipush 10, 2) := by decide +kernel
theorem dX12_common_132 : decode cX12_common 132 = .ok (.iload_n 3, 1) := by decide +kernel
theorem dX12_common_133 : decode cX12_common 133 = .ok (.bipush 7, 2) := by decide +kernel
theorem dX12_common_135 : decode cX12_common 135 = .ok (.invokevirtual 211, 3) := by decide +kernel
theorem dX12_common_138 : decode cX12_common 138 = .ok (.aload_n 0, 1) := by decide +kernel
theorem dX12_common_139 : decode cX12_common 139 = .ok (.bipush 12, 2) := by decide +kernel
theorem dX12_common_141 : decode cX12_common 141 = .ok (.iload_n 3, 1) := by decide +kernel
theorem dX12_common_142 : decode cX12_common 142 = .ok (.bipush 8, 2) := by decide +kernel
theorem dX12_common_144 : decode cX12_common 144 = .ok (.invokevirtual 211, 3) := by decide +kernel
theorem dX12_common_147 : decode cX12_common 147 = .ok (.aload_n 0, 1) := by decide +kernel
theorem dX12_common_148 : decode cX12_common 148 = .ok (.bipush 14, 2) := by decide +kernel
theorem dX12_common_150 : decode cX12_common 150 = .ok (.iload_n 3, 1) := by decide +kernel
theorem dX12_common_151 : decode cX12_common 151 = .ok (.bipush 9, 2) := by decide +kernel
theorem dX12_common_153 : decode cX12_common 153 = .ok (.invokevirtual 211, 3) := by decide +kernel
theorem dX12_common_156 : decode cX12_common 156 = .ok (.return_, 1) := by decide +kernel
set_option maxRecDepth 20000 in
theorem b_X12_common_0 {k n : Nat} {x : Wx} {Z : Zt} {Q : Option Value → Wx → Zt → Prop} {a0 : Nat} {v1 : Int} {v2 : Int} (o_a0 : Is12 x a0)
    (h : ∃ g1 : Nat → Nat → Int, (MS Z a0 g1 ∧ (0 ≤ (10 : Int) ∧ (10 : Int) < 27) ∧ (0 ≤ v1 ∧ v1 < 27) ∧ (∀ (Z'1 : Zt), (MS Z'1 a0 (updP g1 (10 : Int).toNat (g1 v1.toNat)) ∧ Oth Z Z'1 (O4 a0)) → (∃ g2 : Nat → Nat → Int, (MS Z'1 a0 g2 ∧ (0 ≤ (11 : Int) ∧ (11 : Int) < 27) ∧ (0 ≤ v2 ∧ v2 < 27) ∧ (∀ (Z'2 : Zt), (MS Z'2 a0 (updP g2 (11 : Int).toNat (g2 v2.toNat)) ∧ Oth Z'1 Z'2 (O4 a0)) → (∃ g3 : Nat → Nat → Int, (MS Z'2 a0 g3 ∧ (0 ≤ (12 : Int) ∧ (12 : Int) < 27) ∧ (∀ (Z'3 : Zt), (MS Z'3 a0 (updP g3 (12 : Int).toNat pzero) ∧ Oth Z'2 Z'3 (O4 a0)) → (∃ g4 : Nat → Nat → Int, (MS Z'3 a0 g4 ∧ (0 ≤ (13 : Int) ∧ (13 : Int) < 27) ∧ (∀ (Z'4 : Zt), (MS Z'4 a0 (updP g4 (13 : Int).toNat pzero) ∧ Oth Z'3 Z'4 (O4 a0)) → (∃ g5 : Nat → Nat → Int, (MS Z'4 a0 g5 ∧ (0 ≤ (14 : Int) ∧ (14 : Int) < 27) ∧ (∀ (Z'5 : Zt), (MS Z'5 a0 (updP g5 (14 : Int).toNat pzero) ∧ Oth Z'4 Z'5 (O4 a0)) → (∃ g6 : Nat → Nat → Int, (MS Z'5 a0 g6 ∧ (0 ≤ (15 : Int) ∧ (15 : Int) < 27) ∧ (∀ (Z'6 : Zt), (MS Z'6 a0 (updP g6 (15 : Int).toNat pzero) ∧ Oth Z'5 Z'6 (O4 a0)) → (∀ Z1 : Zt, Z1 = up Z'6 (a0 + 4) 288 1 → (∀ Z2 : Zt, Z2 = up Z1 (a0 + 4) 360 1 → (V mX12_common k n 56 [some (r_ a0), none, none, none] [] x Z2 Q))))))))))))))))))))) :
    V mX12_common k n 0 [some (r_ a0), some (i_ v1), some (i_ v2), none] [] x Z Q :=
  V_aload_n dX12_common_0 rfl (V_iload_n dX12_common_1 rfl (V_bipush dX12_common_2 rfl (Exists.elim h (fun g1 w1 => V_callV (k' := 0) (n' := 0) (t := 12) (q := (RX12, TX12, 46)) [i_ v1, i_ 10] [] okX12_copy o_a0.1 rfl rfl lm_12_199 liX12_copy lqX12_copy (Nat.le_of_ble_eq_true rfl) (Nat.le_of_ble_eq_true rfl) (Nat.le_of_ble_eq_true rfl) (cat_of rfl) (Nat.le_of_ble_eq_true rfl) (Nat.zero_le _) (Nat.zero_le _) rfl dX12_common_4 (sp_X12_copy o_a0 w1.1 w1.2.1 w1.2.2.1 (fun Z'1 p1 => V_aload_n dX12_common_7 rfl (V_iload_n dX12_common_8 rfl (V_bipush dX12_common_9 rfl (Exists.elim (w1.2.2.2 Z'1 p1) (fun g2 w2 => V_callV (k' := 0) (n' := 0) (t := 12) (q := (RX12, TX12, 46)) [i_ v2, i_ 11] [] okX12_copy o_a0.1 rfl rfl lm_12_199 liX12_copy lqX12_copy (Nat.le_of_ble_eq_true rfl) (Nat.le_of_ble_eq_true rfl) (Nat.le_of_ble_eq_true rfl) (cat_of rfl) (Nat.le_of_ble_eq_true rfl) (Nat.zero_le _) (Nat.zero_le _) rfl dX12_common_11 (sp_X12_copy o_a0 w2.1 w2.2.1 w2.2.2.1 (fun Z'2 p2 => V_aload_n dX12_common_14 rfl (V_bipush dX12_common_15 rfl (Exists.elim (w2.2.2.2 Z'2 p2) (fun g3 w3 => V_callV (k' := 0) (n' := 0) (t := 12) (q := (RX12, TX12, 46)) [i_ 12] [] okX12_zero o_a0.1 rfl rfl lm_12_188 liX12_zero lqX12_zero (Nat.le_of_ble_eq_true rfl) (Nat.le_of_ble_eq_true rfl) (Nat.le_of_ble_eq_true rfl) (cat_of rfl) (Nat.le_of_ble_eq_true rfl) (Nat.zero_le _) (Nat.zero_le _) rfl dX12_common_17 (sp_X12_zero o_a0 w3.1 w3.2.1 (fun Z'3 p3 => V_aload_n dX12_common_20 rfl (V_bipush dX12_common_21 rfl (Exists.elim (w3.2.2 Z'3 p3) (fun g4 w4 => V_callV (k' := 0) (n' := 0) (t := 12) (q := (RX12, TX12, 46)) [i_ 13] [] okX12_zero o_a0.1 rfl rfl lm_12_188 liX12_zero lqX12_zero (Nat.le_of_ble_eq_true rfl) (Nat.le_of_ble_eq_true rfl) (Nat.le_of_ble_eq_true rfl) (cat_of rfl) (Nat.le_of_ble_eq_true rfl) (Nat.zero_le _) (Nat.zero_le _) rfl dX12_common_23 (sp_X12_zero o_a0 w4.1 w4.2.1 (fun Z'4 p4 => V_aload_n dX12_common_26 rfl (V_bipush dX12_common_27 rfl (Exists.elim (w4.2.2 Z'4 p4) (fun g5 w5 => V_callV (k' := 0) (n' := 0) (t := 12) (q := (RX12, TX12, 46)) [i_ 14] [] okX12_zero o_a0.1 rfl rfl lm_12_188 liX12_zero lqX12_zero (Nat.le_of_ble_eq_true rfl) (Nat.le_of_ble_eq_true rfl) (Nat.le_of_ble_eq_true rfl) (cat_of rfl) (Nat.le_of_ble_eq_true rfl) (Nat.zero_le _) (Nat.zero_le _) rfl dX12_common_29 (sp_X12_zero o_a0 w5.1 w5.2.1 (fun Z'5 p5 => V_aload_n dX12_common_32 rfl (V_bipush dX12_common_33 rfl (Exists.elim (w5.2.2 Z'5 p5) (fun g6 w6 => V_callV (k' := 0) (n' := 0) (t := 12) (q := (RX12, TX12, 46)) [i_ 15] [] okX12_zero o_a0.1 rfl rfl lm_12_188 liX12_zero lqX12_zero (Nat.le_of_ble_eq_true rfl) (Nat.le_of_ble_eq_true rfl) (Nat.le_of_ble_eq_true rfl) (cat_of rfl) (Nat.le_of_ble_eq_true rfl) (Nat.zero_le _) (Nat.zero_le _) rfl dX12_common_35 (sp_X12_zero o_a0 w6.1 w6.2.1 (fun Z'6 p6 => V_aload_n dX12_common_38 rfl (G_12_10 o_a0.1 o_a0.qR10 lf_12_20 dX12_common_39 (V_sipush dX12_common_42 rfl (V_iconst dX12_common_45 (V_iast (t := 100) o_a0.qK10 (by decide) (by decide) rfl (by decide) (by decide) (Nat.le_of_ble_eq_true rfl) dX12_common_46 (V_nmZ (fun Z1 eZ1 => V_aload_n dX12_common_47 rfl (G_12_10 o_a0.1 o_a0.qR10 lf_12_20 dX12_common_48 (V_sipush dX12_common_51 rfl (V_iconst dX12_common_54 (V_iast (t := 100) o_a0.qK10 (by decide) (by decide) rfl (by decide) (by decide) (Nat.le_of_ble_eq_true rfl) dX12_common_55 (V_nmZ (fun Z2 eZ2 => V_msk [true, false, false, false] rfl (((w6.2.2 Z'6 p6) Z1 eZ1) Z2 eZ2)))))))))))))))))))))))))))))))))))))))))))))
set_option maxRecDepth 20000 in
theorem b_X12_common_56 {k n : Nat} {x : Wx} {Z : Zt} {Q : Option Value → Wx → Zt → Prop} {a0 : Nat} (o_a0 : Is12 x a0)
    (h : ∃ g1 : Nat → Nat → Int, (MS Z a0 g1 ∧ (0 ≤ (11 : Int) ∧ (11 : Int) < 27) ∧ (∀ i : Nat, i < 24 → Rg (g1 (11 : Int).toNat i)) ∧ (Rg (pd (g1 (11 : Int).toNat)) ∧ (((pd (g1 (11 : Int).toNat) < 0) → (∃ g2 : Nat → Nat → Int, (MS Z a0 g2 ∧ (0 ≤ (10 : Int) ∧ (10 : Int) < 27) ∧ (∀ i : Nat, i < 24 → Rg (g2 (10 : Int).toNat i)) ∧ ((0 ≤ 24 * (10 : Int) + (pd (g2 (10 : Int).toNat)) ∧ 24 * (10 : Int) + (pd (g2 (10 : Int).toNat)) < 648) ∧ (∃ g3 : Int, ((IsP g3 ∧ Z a0 11 = g3) ∧ (0 < (Z (a0 + 4) (24 * (10 : Int) + (pd (g2 (10 : Int).toNat))).toNat) ∧ (Z (a0 + 4) (24 * (10 : Int) + (pd (g2 (10 : Int).toNat))).toNat) < g3) ∧ (∀ i1 : Int, i1 = inv g3 (Z (a0 + 4) (24 * (10 : Int) + (pd (g2 (10 : Int).toNat))).toNat) → (∃ g4 : Nat → Nat → Int, (∃ g5 : Int, ((IsP g5 ∧ Z a0 11 = g5) ∧ MS Z a0 g4 ∧ ((0 ≤ (10 : Int) ∧ (10 : Int) < 27) ∧ (0 ≤ (7 : Int) ∧ (7 : Int) < 27) ∧ (7 : Int) ≠ (10 : Int)) ∧ (-100 ≤ i1 ∧ i1 ≤ 100) ∧ InP g5 (g4 (10 : Int).toNat) ∧ (∀ (Z'1 : Zt), (MS Z'1 a0 (updP g4 (7 : Int).toNat (pscl g5 (g4 (10 : Int).toNat) i1)) ∧ Oth Z Z'1 (O4 a0)) → (∃ g6 : Nat → Nat → Int, (∃ g7 : Int, ((IsP g7 ∧ Z'1 a0 11 = g7) ∧ MS Z'1 a0 g6 ∧ ((0 ≤ (12 : Int) ∧ (12 : Int) < 27) ∧ (0 ≤ (8 : Int) ∧ (8 : Int) < 27) ∧ (8 : Int) ≠ (12 : Int)) ∧ (-100 ≤ i1 ∧ i1 ≤ 100) ∧ InP g7 (g6 (12 : Int).toNat) ∧ (∀ (Z'2 : Zt), (MS Z'2 a0 (updP g6 (8 : Int).toNat (pscl g7 (g6 (12 : Int).toNat) i1)) ∧ Oth Z'1 Z'2 (O4 a0)) → (∃ g8 : Nat → Nat → Int, (∃ g9 : Int, ((IsP g9 ∧ Z'2 a0 11 = g9) ∧ MS Z'2 a0 g8 ∧ ((0 ≤ (14 : Int) ∧ (14 : Int) < 27) ∧ (0 ≤ (9 : Int) ∧ (9 : Int) < 27) ∧ (9 : Int) ≠ (14 : Int)) ∧ (-100 ≤ i1 ∧ i1 ≤ 100) ∧ InP g9 (g8 (14 : Int).toNat) ∧ (∀ (Z'3 : Zt), (MS Z'3 a0 (updP g8 (9 : Int).toNat (pscl g9 (g8 (14 : Int).toNat) i1)) ∧ Oth Z'2 Z'3 (O4 a0)) → (Q none x Z'3)))))))))))))))))))) ∧ ((0 ≤ pd (g1 (11 : Int).toNat)) → (∃ g10 : Nat → Nat → Int, (∃ g11 : Int, ((IsP g11 ∧ Z a0 11 = g11) ∧ MS Z a0 g10 ∧ (((0 ≤ (10 : Int) ∧ (10 : Int) < 27) ∧ (0 ≤ (11 : Int) ∧ (11 : Int) < 27) ∧ (0 ≤ (16 : Int) ∧ (16 : Int) < 27) ∧ (0 ≤ (17 : Int) ∧ (17 : Int) < 27)) ∧ (16 : Int) ≠ (10 : Int) ∧ (16 : Int) ≠ (11 : Int) ∧ (17 : Int) ≠ (10 : Int) ∧ (17 : Int) ≠ (11 : Int) ∧ (16 : Int) ≠ (17 : Int)) ∧ (InP g11 (g10 (10 : Int).toNat) ∧ Fin (g10 (10 : Int).toNat)) ∧ (InP g11 (g10 (11 : Int).toNat) ∧ 0 ≤ pd (g10 (11 : Int).toNat)) ∧ (∀ (Z'4 : Zt), (MS Z'4 a0 (updP (updP g10 (16 : Int).toNat (dvQ g11 (g10 (10 : Int).toNat) (g10 (11 : Int).toNat))) (17 : Int).toNat (dvR g11 (g10 (10 : Int).toNat) (g10 (11 : Int).toNat))) ∧ Oth Z Z'4 (O4 a0)) → (∃ g12 : Nat → Nat → Int, (MS Z'4 a0 g12 ∧ (0 ≤ (10 : Int) ∧ (10 : Int) < 27) ∧ (0 ≤ (11 : Int) ∧ (11 : Int) < 27) ∧ (∀ (Z'5 : Zt), (MS Z'5 a0 (updP g12 (10 : Int).toNat (g12 (11 : Int).toNat)) ∧ Oth Z'4 Z'5 (O4 a0)) → (∃ g13 : Nat → Nat → Int, (MS Z'5 a0 g13 ∧ (0 ≤ (11 : Int) ∧ (11 : Int) < 27) ∧ (0 ≤ (17 : Int) ∧ (17 : Int) < 27) ∧ (∀ (Z'6 : Zt), (MS Z'6 a0 (updP g13 (11 : Int).toNat (g13 (17 : Int).toNat)) ∧ Oth Z'5 Z'6 (O4 a0)) → (∃ g14 : Nat → Nat → Int, (∃ g15 : Int, ((IsP g15 ∧ Z'6 a0 11 = g15) ∧ MS Z'6 a0 g14 ∧ ((0 ≤ (12 : Int) ∧ (12 : Int) < 16) ∧ (0 ≤ (13 : Int) ∧ (13 : Int) < 16) ∧ (12 : Int) ≠ (13 : Int)) ∧ (InP g15 (g14 16) ∧ Fin (g14 16)) ∧ InP g15 (g14 (12 : Int).toNat) ∧ InP g15 (g14 (13 : Int).toNat) ∧ (∀ (Z'7 : Zt) (P'1 : Nat → Nat → Int), (MS Z'7 a0 P'1 ∧ Oth Z'6 Z'7 (O4 a0) ∧ P'1 (12 : Int).toNat = g14 (13 : Int).toNat ∧ P'1 (13 : Int).toNat = padd g15 (g14 (12 : Int).toNat) (pmul g15 (g14 16) (g14 (13 : Int).toNat)) (-1) ∧ (∀ q : Nat, q ≠ (12 : Int).toNat → q ≠ (13 : Int).toNat → q ≠ 17 → q ≠ 21 → P'1 q = g14 q)) → (∃ g16 : Nat → Nat → Int, (∃ g17 : Int, ((IsP g17 ∧ Z'7 a0 11 = g17) ∧ MS Z'7 a0 g16 ∧ ((0 ≤ (14 : Int) ∧ (14 : Int) < 16) ∧ (0 ≤ (15 : Int) ∧ (15 : Int) < 16) ∧ (14 : Int) ≠ (15 : Int)) ∧ (InP g17 (g16 16) ∧ Fin (g16 16)) ∧ InP g17 (g16 (14 : Int).toNat) ∧ InP g17 (g16 (15 : Int).toNat) ∧ (∀ (Z'8 : Zt) (P'2 : Nat → Nat → Int), (MS Z'8 a0 P'2 ∧ Oth Z'7 Z'8 (O4 a0) ∧ P'2 (14 : Int).toNat = g16 (15 : Int).toNat ∧ P'2 (15 : Int).toNat = padd g17 (g16 (14 : Int).toNat) (pmul g17 (g16 16) (g16 (15 : Int).toNat)) (-1) ∧ (∀ q : Nat, q ≠ (14 : Int).toNat → q ≠ (15 : Int).toNat → q ≠ 17 → q ≠ 21 → P'2 q = g16 q)) → (V mX12_common k n 56 [some (r_ a0), none, none, none] [] x Z'8 Q)))))))))))))))))))))))) :
    V mX12_common k n 56 [some (r_ a0), none, none, none] [] x Z Q :=
  V_aload_n dX12_common_56 rfl (V_bipush dX12_common_57 rfl (Exists.elim h (fun g1 w1 => V_callV (k' := 0) (n' := 0) (t := 12) (q := (RX12, TX12, 46)) [i_ 11] [] okX12_deg o_a0.1 rfl rfl lm_12_192 liX12_deg lqX12_deg (Nat.le_of_ble_eq_true rfl) (Nat.le_of_ble_eq_true rfl) (Nat.le_of_ble_eq_true rfl) (cat_of rfl) (Nat.le_of_ble_eq_true rfl) (Nat.zero_le _) (Nat.zero_le _) rfl dX12_common_59 (sp_X12_deg o_a0 w1.1 w1.2.1 w1.2.2.1 (V_if_lt (tgt := 112) dX12_common_62 rfl w1.2.2.2.1 (fun c1 => V_aload_n dX12_common_112 rfl (V_aload_n dX12_common_113 rfl (V_bipush dX12_common_114 rfl (V_aload_n dX12_common_116 rfl (V_bipush dX12_common_117 rfl (Exists.elim (w1.2.2.2.2.1 c1) (fun g2 w2 => V_callV (k' := 0) (n' := 0) (t := 12) (q := (RX12, TX12, 46)) [i_ 10] [i_ 10, r_ a0, r_ a0] okX12_deg o_a0.1 rfl rfl lm_12_192 liX12_deg lqX12_deg (Nat.le_of_ble_eq_true rfl) (Nat.le_of_ble_eq_true rfl) (Nat.le_of_ble_eq_true rfl) (cat_of rfl) (Nat.le_of_ble_eq_true rfl) (Nat.zero_le _) (Nat.zero_le _) rfl dX12_common_119 (sp_X12_deg o_a0 w2.1 w2.2.1 w2.2.2.1 (V_callV (k' := 0) (n' := 0) (t := 12) (q := (RX12, TX12, 46)) [i_ 10, i_ (pd (g2 (10 : Int).toNat))] [r_ a0] okX12_at o_a0.1 rfl rfl lm_12_185 liX12_at lqX12_at (Nat.le_of_ble_eq_true rfl) (Nat.le_of_ble_eq_true rfl) (Nat.le_of_ble_eq_true rfl) (cat_of rfl) (Nat.le_of_ble_eq_true rfl) (Nat.zero_le _) (Nat.zero_le _) rfl dX12_common_122 (sp_X12_at o_a0 w2.2.2.2.1 (Exists.elim w2.2.2.2.2 (fun g3 w3 => V_callV (k' := 0) (n' := 0) (t := 12) (q := (RX12, TX12, 46)) [i_ (Z (a0 + 4) (24 * (10 : Int) + (pd (g2 (10 : Int).toNat))).toNat)] [] okX12_inverse o_a0.1 rfl rfl lm_12_202 liX12_inverse lqX12_inverse (Nat.le_of_ble_eq_true rfl) (Nat.le_of_ble_eq_true rfl) (Nat.le_of_ble_eq_true rfl) (cat_of rfl) (Nat.le_of_ble_eq_true rfl) (Nat.zero_le _) (Nat.zero_le _) rfl dX12_common_125 (sp_X12_inverse o_a0 w3.1 w3.2.1 (V_nmi (fun i1 ei1 => V_istore_n (lv' := [some (r_ a0), none, none, some (i_ i1)]) dX12_common_128 (Nat.le_of_ble_eq_true rfl) rfl (V_aload_n dX12_common_129 rfl (V_bipush dX12_common_130 rfl (V_iload_n dX12_common_132 rfl (V_bipush dX12_common_133 rfl (Exists.elim (w3.2.2 i1 ei1) (fun g4 w4 => Exists.elim w4 (fun g5 w5 => V_callV (k' := 0) (n' := 0) (t := 12) (q := (RX12, TX12, 46)) [i_ 10, i_ i1, i_ 7] [] okX12_scaled o_a0.1 rfl rfl lm_12_211 liX12_scaled lqX12_scaled (Nat.le_of_ble_eq_true rfl) (Nat.le_of_ble_eq_true rfl) (Nat.le_of_ble_eq_true rfl) (cat_of rfl) (Nat.le_of_ble_eq_true rfl) (Nat.zero_le _) (Nat.zero_le _) rfl dX12_common_135 (sp_X12_scaled o_a0 w5.1 w5.2.1 w5.2.2.1 w5.2.2.2.1 w5.2.2.2.2.1 (fun Z'1 p1 => V_aload_n dX12_common_138 rfl (V_bipush dX12_common_139 rfl (V_iload_n dX12_common_141 rfl (V_bipush dX12_common_142 rfl (Exists.elim (w5.2.2.2.2.2 Z'1 p1) (fun g6 w6 => Exists.elim w6 (fun g7 w7 => V_callV (k' := 0) (n' := 0) (t := 12) (q := (RX12, TX12, 46)) [i_ 12, i_ i1, i_ 8] [] okX12_scaled o_a0.1 rfl rfl lm_12_211 liX12_scaled lqX12_scaled (Nat.le_of_ble_eq_true rfl) (Nat.le_of_ble_eq_true rfl) (Nat.le_of_ble_eq_true rfl) (cat_of rfl) (Nat.le_of_ble_eq_true rfl) (Nat.zero_le _) (Nat.zero_le _) rfl dX12_common_144 (sp_X12_scaled o_a0 w7.1 w7.2.1 w7.2.2.1 w7.2.2.2.1 w7.2.2.2.2.1 (fun Z'2 p2 => V_aload_n dX12_common_147 rfl (V_bipush dX12_common_148 rfl (V_iload_n dX12_common_150 rfl (V_bipush dX12_common_151 rfl (Exists.elim (w7.2.2.2.2.2 Z'2 p2) (fun g8 w8 => Exists.elim w8 (fun g9 w9 => V_callV (k' := 0) (n' := 0) (t := 12) (q := (RX12, TX12, 46)) [i_ 14, i_ i1, i_ 9] [] okX12_scaled o_a0.1 rfl rfl lm_12_211 liX12_scaled lqX12_scaled (Nat.le_of_ble_eq_true rfl) (Nat.le_of_ble_eq_true rfl) (Nat.le_of_ble_eq_true rfl) (cat_of rfl) (Nat.le_of_ble_eq_true rfl) (Nat.zero_le _) (Nat.zero_le _) rfl dX12_common_153 (sp_X12_scaled o_a0 w9.1 w9.2.1 w9.2.2.1 w9.2.2.2.1 w9.2.2.2.2.1 (fun Z'3 p3 => V_ret dX12_common_156 rfl (w9.2.2.2.2.2 Z'3 p3))))))))))))))))))))))))))))))))))))))))) (fun c1 => V_aload_n dX12_common_65 rfl (V_bipush dX12_common_66 rfl (V_bipush dX12_common_68 rfl (V_bipush dX12_common_70 rfl (V_bipush dX12_common_72 rfl (Exists.elim (w1.2.2.2.2.2 c1) (fun g10 w10 => Exists.elim w10 (fun g11 w11 => V_callV (k' := 0) (n' := 0) (t := 12) (q := (RX12, TX12, 46)) [i_ 10, i_ 11, i_ 16, i_ 17] [] okX12_divides o_a0.1 rfl rfl lm_12_205 liX12_divides lqX12_divides (Nat.le_of_ble_eq_true rfl) (Nat.le_of_ble_eq_true rfl) (Nat.le_of_ble_eq_true rfl) (cat_of rfl) (Nat.le_of_ble_eq_true rfl) (Nat.zero_le _) (Nat.zero_le _) rfl dX12_common_74 (sp_X12_divides o_a0 w11.1 w11.2.1 w11.2.2.1 w11.2.2.2.1 w11.2.2.2.2.1 (fun Z'4 p4 => V_aload_n dX12_common_77 rfl (V_bipush dX12_common_78 rfl (V_bipush dX12_common_80 rfl (Exists.elim (w11.2.2.2.2.2 Z'4 p4) (fun g12 w12 => V_callV (k' := 0) (n' := 0) (t := 12) (q := (RX12, TX12, 46)) [i_ 11, i_ 10] [] okX12_copy o_a0.1 rfl rfl lm_12_199 liX12_copy lqX12_copy (Nat.le_of_ble_eq_true rfl) (Nat.le_of_ble_eq_true rfl) (Nat.le_of_ble_eq_true rfl) (cat_of rfl) (Nat.le_of_ble_eq_true rfl) (Nat.zero_le _) (Nat.zero_le _) rfl dX12_common_82 (sp_X12_copy o_a0 w12.1 w12.2.1 w12.2.2.1 (fun Z'5 p5 => V_aload_n dX12_common_85 rfl (V_bipush dX12_common_86 rfl (V_bipush dX12_common_88 rfl (Exists.elim (w12.2.2.2 Z'5 p5) (fun g13 w13 => V_callV (k' := 0) (n' := 0) (t := 12) (q := (RX12, TX12, 46)) [i_ 17, i_ 11] [] okX12_copy o_a0.1 rfl rfl lm_12_199 liX12_copy lqX12_copy (Nat.le_of_ble_eq_true rfl) (Nat.le_of_ble_eq_true rfl) (Nat.le_of_ble_eq_true rfl) (cat_of rfl) (Nat.le_of_ble_eq_true rfl) (Nat.zero_le _) (Nat.zero_le _) rfl dX12_common_90 (sp_X12_copy o_a0 w13.1 w13.2.1 w13.2.2.1 (fun Z'6 p6 => V_aload_n dX12_common_93 rfl (V_bipush dX12_common_94 rfl (V_bipush dX12_common_96 rfl (Exists.elim (w13.2.2.2 Z'6 p6) (fun g14 w14 => Exists.elim w14 (fun g15 w15 => V_callV (k' := 0) (n' := 0) (t := 12) (q := (RX12, TX12, 46)) [i_ 12, i_ 13] [] okX12_steps o_a0.1 rfl rfl lm_12_208 liX12_steps lqX12_steps (Nat.le_of_ble_eq_true rfl) (Nat.le_of_ble_eq_true rfl) (Nat.le_of_ble_eq_true rfl) (cat_of rfl) (Nat.le_of_ble_eq_true rfl) (Nat.zero_le _) (Nat.zero_le _) rfl dX12_common_98 (sp_X12_steps o_a0 w15.1 w15.2.1 w15.2.2.1 w15.2.2.2.1 w15.2.2.2.2.1 w15.2.2.2.2.2.1 (fun Z'7 P'1 p7 => V_aload_n dX12_common_101 rfl (V_bipush dX12_common_102 rfl (V_bipush dX12_common_104 rfl (Exists.elim (w15.2.2.2.2.2.2 Z'7 P'1 p7) (fun g16 w16 => Exists.elim w16 (fun g17 w17 => V_callV (k' := 0) (n' := 0) (t := 12) (q := (RX12, TX12, 46)) [i_ 14, i_ 15] [] okX12_steps o_a0.1 rfl rfl lm_12_208 liX12_steps lqX12_steps (Nat.le_of_ble_eq_true rfl) (Nat.le_of_ble_eq_true rfl) (Nat.le_of_ble_eq_true rfl) (cat_of rfl) (Nat.le_of_ble_eq_true rfl) (Nat.zero_le _) (Nat.zero_le _) rfl dX12_common_106 (sp_X12_steps o_a0 w17.1 w17.2.1 w17.2.2.1 w17.2.2.2.1 w17.2.2.2.2.1 w17.2.2.2.2.2.1 (fun Z'8 P'2 p8 => V_goto (tgt := 56) dX12_common_109 rfl (V_msk [true, false, false, false] rfl (w17.2.2.2.2.2.2 Z'8 P'2 p8)))))))))))))))))))))))))))))))))))))))))))
theorem sp_X12_common {k n : Nat} {x : Wx} {Z : Zt} {Q : Option Value → Wx → Zt → Prop} {b : Nat} {u w : Int} (o : Is12 x b) {P : Nat → Nat → Int} {p : Int} (hp : IsP p ∧ Z b 11 = p) (hP : MS Z b P) (hu : (0 ≤ u ∧ u < 27) ∧ (0 ≤ w ∧ w < 27) ∧ w ≠ 10) (hf : InP p (P u.toNat) ∧ Fin (P u.toNat)) (hg : InP p (P w.toNat) ∧ Fin (P w.toNat)) (hd : 0 ≤ pd (P u.toNat) ∧ pd (P u.toNat) ≤ 9 ∧ pd (P w.toNat) ≤ 9) (h : ∀ (Z' : Zt) (P' : Nat → Nat → Int), (MS Z' b P' ∧ Oth Z Z' (O4 b) ∧ P' 7 = eG p (P u.toNat) (P w.toNat) ∧ P' 8 = eS p (P u.toNat) (P w.toNat) ∧ P' 9 = eT p (P u.toNat) (P w.toNat) ∧ (∀ q : Nat, (q < 7 ∨ 17 < q) → q ≠ 21 → P' q = P q)) → Q none x Z') : V mX12_common k n 0 [some (r_ b), some (i_ u), some (i_ w), none] [] x Z Q := by
  obtain ⟨hp', hb⟩ := hp
  have hr := hp'.rg
  have hp0 : 0 < p := by omega
  have hb1 : ∀ Z1 : Zt, Oth Z Z1 (O4 b) → Z1 b 11 = p := fun Z1 h1 => by rw [h1 b (by show ¬ (b = b + 4); omega)]; exact hb
  have o1 := pone_ok (p := p) (by omega)
  have o0 := pzero_ok (p := p) (by omega)
  generalize hF : P u.toNat = f at *
  generalize hG : P w.toNat = g at *
  have g1 := pd_ge g
  have EO : EOk p (e0 f g) := ⟨hf, hg, ⟨o1.1, o1.2.1⟩, ⟨o0.1, o0.2.1⟩, ⟨o0.1, o0.2.1⟩, ⟨o1.1, o1.2.1⟩⟩
  have EBB : EB (max (pd g) (pd f - 1)) (max (pd f) (pd g - 1)) (e0 f g) := by
    refine ⟨?_, ?_, ?_, ?_⟩
    · show pd pzero + pd f ≤ _; omega
    · show pd pone + pd g ≤ _; omega
    · show pd pone + pd f ≤ _; omega
    · show pd pzero + pd g ≤ _; omega
  have rgI : ∀ f : Nat → Int, InP p f → ∀ i : Nat, i < 24 → Rg (f i) := fun f h i _ => by have := h i; exact ⟨by omega, by omega⟩
  have lp : ∀ (m : Nat) (e : E6) (P1 : Nat → Nat → Int) (Z1 : Zt), EOk p e → EB (max (pd g) (pd f - 1)) (max (pd f) (pd g - 1)) e → 0 ≤ pd e.1 → pd e.2.1 < m → pd e.2.1 ≤ max (pd f) (pd g) → (pd e.2.1 - 1 ≤ max (pd g) (pd f - 1) ∧ pd e.2.1 - 1 ≤ max (pd f) (pd g - 1)) → eun p m e = eEnd p f g → MS Z1 b P1 → Oth Z Z1 (O4 b) → (P1 10 = e.1 ∧ P1 11 = e.2.1 ∧ P1 12 = e.2.2.1 ∧ P1 13 = e.2.2.2.1 ∧ P1 14 = e.2.2.2.2.1 ∧ P1 15 = e.2.2.2.2.2) → (∀ q : Nat, (q < 7 ∨ 17 < q) → q ≠ 21 → P1 q = P q) → V mX12_common k n 56 [some (r_ b), none, none, none] [] x Z1 Q := by
    intro m
    induction m with
    | zero =>
      intro e P1 Z1 hE hB h0 h1 hx h2 he hM hO hR hk
      obtain ⟨e10, e11, e12, e13, e14, e15⟩ := hR
      obtain ⟨s1, s7, s3, s9, s5, s11⟩ := hE
      have he : e = eEnd p f g := he
      have k0 := pd_lt e.1
      have hl := pd_lead s1.1 h0
      have ha := hM.at (u := 10) (i := pd (P1 10)) (by decide) (by rw [e10]; omega)
      rw [show (10 : Int).toNat = 10 from rfl, e10] at ha
      have hi := inv_rg hp' hl
      refine b_X12_common_56 o ⟨P1, hM, by decide, by show ∀ i : Nat, i < 24 → Rg (P1 11 i); rw [e11]; exact rgI _ s7.1, ?_⟩
      show Rg (pd (P1 11)) ∧ _
      refine ⟨by rw [e11]; have := pd_ge e.2.1; exact ⟨by omega, by omega⟩, fun _ => ⟨P1, hM, by decide, by show ∀ i : Nat, i < 24 → Rg (P1 10 i); rw [e10]; exact rgI _ s1.1, by show 0 ≤ 24 * (10 : Int) + pd (P1 10) ∧ 24 * (10 : Int) + pd (P1 10) < 648; rw [e10]; omega, p, ⟨hp', hb1 Z1 hO⟩, ?_, fun i1 ei1 => ?_⟩, fun c => ?_⟩
      · show 0 < Z1 (b + 4) (24 * (10 : Int) + pd (P1 10)).toNat ∧ Z1 (b + 4) (24 * (10 : Int) + pd (P1 10)).toNat < p
        rw [e10, ha]; exact hl
      · have ei : i1 = eInv p (eEnd p f g) := by
          rw [← he, ei1]; unfold eInv
          show inv p (Z1 (b + 4) (24 * (10 : Int) + pd (P1 10)).toNat) = _
          rw [e10, ha]
        have ib : -100 ≤ i1 ∧ i1 ≤ 100 := by
          rw [ei, ← he]; unfold eInv; omega
        refine ⟨P1, p, ⟨hp', hb1 Z1 hO⟩, hM, by decide, ib, by show InP p (P1 10); rw [e10]; exact s1.1, fun Z2 z2 => ⟨_, p, ⟨hp', hb1 _ (hO.tr z2.2)⟩, z2.1, by decide, ib, by show InP p (P1 12); rw [e12]; exact s3.1, fun Z3 z3 => ⟨_, p, ⟨hp', hb1 _ ((hO.tr z2.2).tr z3.2)⟩, z3.1, by decide, ib, by show InP p (P1 14); rw [e14]; exact s5.1, fun Z4 z4 => ?_⟩⟩⟩
        refine h Z4 _ ⟨z4.1, ((hO.tr z2.2).tr z3.2).tr z4.2, ?_, ?_, ?_, ?_⟩
        · show pscl p (P1 10) i1 = _; rw [e10, ei, he]; rfl
        · show pscl p (P1 12) i1 = _; rw [e12, ei, he]; rfl
        · show pscl p (P1 14) i1 = _; rw [e14, ei, he]; rfl
        · intro q h1 h2
          rw [← hk q h1 h2]
          show updP (updP (updP P1 7 _) 8 _) 9 _ q = _
          rw [updP_n _ _ (by omega), updP_n _ _ (by omega), updP_n _ _ (by omega)]
      · exfalso
        have c : 0 ≤ pd (P1 11) := c
        rw [e11] at c; omega
    | succ m ih =>
      intro e P1 Z1 hE hB h0 h1 hx h2 he hM hO hR hk
      by_cases c : pd e.2.1 < 0
      · -- at its end
        have hee : e = eEnd p f g := by rw [← he]; unfold eun; rw [if_pos c]
        obtain ⟨e10, e11, e12, e13, e14, e15⟩ := hR
        obtain ⟨s1, s7, s3, s9, s5, s11⟩ := hE
        have k0 := pd_lt e.1
        have hl := pd_lead s1.1 h0
        have ha := hM.at (u := 10) (i := pd (P1 10)) (by decide) (by rw [e10]; omega)
        rw [show (10 : Int).toNat = 10 from rfl, e10] at ha
        have hi := inv_rg hp' hl
        refine b_X12_common_56 o ⟨P1, hM, by decide, by show ∀ i : Nat, i < 24 → Rg (P1 11 i); rw [e11]; exact rgI _ s7.1, ?_⟩
        show Rg (pd (P1 11)) ∧ _
        refine ⟨by rw [e11]; have := pd_ge e.2.1; exact ⟨by omega, by omega⟩, fun _ => ⟨P1, hM, by decide, by show ∀ i : Nat, i < 24 → Rg (P1 10 i); rw [e10]; exact rgI _ s1.1, by show 0 ≤ 24 * (10 : Int) + pd (P1 10) ∧ 24 * (10 : Int) + pd (P1 10) < 648; rw [e10]; omega, p, ⟨hp', hb1 Z1 hO⟩, ?_, fun i1 ei1 => ?_⟩, fun c => ?_⟩
        · show 0 < Z1 (b + 4) (24 * (10 : Int) + pd (P1 10)).toNat ∧ Z1 (b + 4) (24 * (10 : Int) + pd (P1 10)).toNat < p
          rw [e10, ha]; exact hl
        · have ei : i1 = eInv p (eEnd p f g) := by
            rw [← hee, ei1]; unfold eInv
            show inv p (Z1 (b + 4) (24 * (10 : Int) + pd (P1 10)).toNat) = _
            rw [e10, ha]
          have ib : -100 ≤ i1 ∧ i1 ≤ 100 := by
            rw [ei, ← hee]; unfold eInv; omega
          refine ⟨P1, p, ⟨hp', hb1 Z1 hO⟩, hM, by decide, ib, by show InP p (P1 10); rw [e10]; exact s1.1, fun Z2 z2 => ⟨_, p, ⟨hp', hb1 _ (hO.tr z2.2)⟩, z2.1, by decide, ib, by show InP p (P1 12); rw [e12]; exact s3.1, fun Z3 z3 => ⟨_, p, ⟨hp', hb1 _ ((hO.tr z2.2).tr z3.2)⟩, z3.1, by decide, ib, by show InP p (P1 14); rw [e14]; exact s5.1, fun Z4 z4 => ?_⟩⟩⟩
          refine h Z4 _ ⟨z4.1, ((hO.tr z2.2).tr z3.2).tr z4.2, ?_, ?_, ?_, ?_⟩
          · show pscl p (P1 10) i1 = _; rw [e10, ei, hee]; rfl
          · show pscl p (P1 12) i1 = _; rw [e12, ei, hee]; rfl
          · show pscl p (P1 14) i1 = _; rw [e14, ei, hee]; rfl
          · intro q h1 h2
            rw [← hk q h1 h2]
            show updP (updP (updP P1 7 _) 8 _) 9 _ q = _
            rw [updP_n _ _ (by omega), updP_n _ _ (by omega), updP_n _ _ (by omega)]
        · exfalso
          have c : 0 ≤ pd (P1 11) := c
          rw [e11] at c; omega
      · obtain ⟨e10, e11, e12, e13, e14, e15⟩ := hR
        obtain ⟨k1, k2⟩ := estep_ok hp' hE hB (by omega) (by omega) (by omega) h2.1 h2.2
        have hlt : pd (estep p e).2.1 < pd e.2.1 := pd_dvR_lt hp' hE.1.2 hE.2.1.1 (by omega)
        have he2 : eun p m (estep p e) = eEnd p f g := by rw [← he]; show _ = (if pd e.2.1 < 0 then e else _); rw [if_neg c]
        obtain ⟨s1, s7, s3, s9, s5, s11⟩ := hE
        refine b_X12_common_56 o ⟨P1, hM, by decide, by show ∀ i : Nat, i < 24 → Rg (P1 11 i); rw [e11]; exact rgI _ s7.1, ?_⟩
        show Rg (pd (P1 11)) ∧ _
        refine ⟨by rw [e11]; have := pd_lt e.2.1; exact ⟨by omega, by omega⟩, fun c2 => ?_, fun _ => ⟨P1, p, ⟨hp', hb1 Z1 hO⟩, hM, by decide, by show InP p (P1 10) ∧ Fin (P1 10); rw [e10]; exact s1, by show InP p (P1 11) ∧ 0 ≤ pd (P1 11); rw [e11]; exact ⟨s7.1, by omega⟩, fun Z2 z2 => ⟨_, z2.1, by decide, by decide, fun Z3 z3 => ⟨_, z3.1, by decide, by decide, fun Z4 z4 => ?_⟩⟩⟩⟩
        · exfalso
          have c2 : pd (P1 11) < 0 := c2
          rw [e11] at c2; omega
        · have dq : dvQ p (P1 10) (P1 11) = dvQ p e.1 e.2.1 := by rw [e10, e11]
          have dr : dvR p (P1 10) (P1 11) = dvR p e.1 e.2.1 := by rw [e10, e11]
          have iq : InP p (dvQ p e.1 e.2.1) ∧ Fin (dvQ p e.1 e.2.1) := ⟨dvQ_in hp0, dvq_fin (by omega)⟩
          have h4 : ∃ P4 : Nat → Nat → Int, MS Z4 b P4 ∧ P4 10 = e.2.1 ∧ P4 11 = dvR p e.1 e.2.1 ∧ P4 12 = e.2.2.1 ∧ P4 13 = e.2.2.2.1 ∧ P4 14 = e.2.2.2.2.1 ∧ P4 15 = e.2.2.2.2.2 ∧ P4 16 = dvQ p e.1 e.2.1 ∧ (∀ q : Nat, (q < 7 ∨ 17 < q) → q ≠ 21 → P4 q = P q) := by
            refine ⟨_, z4.1, ?_, ?_, ?_, ?_, ?_, ?_, ?_, ?_⟩
            · show P1 11 = _; exact e11
            · show dvR p (P1 10) (P1 11) = _; exact dr
            · show P1 12 = _; exact e12
            · show P1 13 = _; exact e13
            · show P1 14 = _; exact e14
            · show P1 15 = _; exact e15
            · show dvQ p (P1 10) (P1 11) = _; exact dq
            · intro q h1 h2
              rw [← hk q h1 h2]
              show updP (updP (updP (updP P1 16 _) 17 _) 10 _) 11 _ q = _
              rw [updP_n _ _ (by omega), updP_n _ _ (by omega), updP_n _ _ (by omega), updP_n _ _ (by omega)]
          obtain ⟨P4, m4, f10, f11, f12, f13, f14, f15, f16, fk⟩ := h4
          refine ⟨P4, p, ⟨hp', hb1 _ (((hO.tr z2.2).tr z3.2).tr z4.2)⟩, m4, by decide, by rw [f16]; exact iq, by show InP p (P4 12); rw [f12]; exact s3.1, by show InP p (P4 13); rw [f13]; exact s9.1, fun Z5 P5 z5 => ?_⟩
          obtain ⟨m5, o5, a1, a2, a3⟩ := z5
          have a1 : P5 12 = P4 13 := a1
          have a2 : P5 13 = padd p (P4 12) (pmul p (P4 16) (P4 13)) (-1) := a2
          have a3 : ∀ q : Nat, q ≠ 12 → q ≠ 13 → q ≠ 17 → q ≠ 21 → P5 q = P4 q := a3
          refine ⟨P5, p, ⟨hp', hb1 _ ((((hO.tr z2.2).tr z3.2).tr z4.2).tr o5)⟩, m5, by decide, by rw [a3 16 (by decide) (by decide) (by decide) (by decide), f16]; exact iq, by show InP p (P5 14); rw [a3 14 (by decide) (by decide) (by decide) (by decide), f14]; exact s5.1, by show InP p (P5 15); rw [a3 15 (by decide) (by decide) (by decide) (by decide), f15]; exact s11.1, fun Z6 P6 z6 => ?_⟩
          obtain ⟨m6, o6, b1, b2, b3⟩ := z6
          have b1 : P6 14 = P5 15 := b1
          have b2 : P6 15 = padd p (P5 14) (pmul p (P5 16) (P5 15)) (-1) := b2
          have b3 : ∀ q : Nat, q ≠ 14 → q ≠ 15 → q ≠ 17 → q ≠ 21 → P6 q = P5 q := b3
          refine ih (estep p e) P6 Z6 k1 k2 (by show 0 ≤ pd e.2.1; omega) (by omega) (by omega) (by omega) he2 m6 (((((hO.tr z2.2).tr z3.2).tr z4.2).tr o5).tr o6) ⟨?_, ?_, ?_, ?_, ?_, ?_⟩ (fun q h1 h2 => ?_)
          · show _ = e.2.1; rw [b3 10 (by decide) (by decide) (by decide) (by decide), a3 10 (by decide) (by decide) (by decide) (by decide), f10]
          · show _ = dvR p e.1 e.2.1; rw [b3 11 (by decide) (by decide) (by decide) (by decide), a3 11 (by decide) (by decide) (by decide) (by decide), f11]
          · show _ = e.2.2.2.1; rw [b3 12 (by decide) (by decide) (by decide) (by decide), a1, f13]
          · show _ = padd p e.2.2.1 (pmul p (dvQ p e.1 e.2.1) e.2.2.2.1) (-1); rw [b3 13 (by decide) (by decide) (by decide) (by decide), a2, f12, f13, f16]
          · show _ = e.2.2.2.2.2; rw [b1, a3 15 (by decide) (by decide) (by decide) (by decide), f15]
          · show _ = padd p e.2.2.2.2.1 (pmul p (dvQ p e.1 e.2.1) e.2.2.2.2.2) (-1); rw [b2, a3 14 (by decide) (by decide) (by decide) (by decide), a3 15 (by decide) (by decide) (by decide) (by decide), a3 16 (by decide) (by decide) (by decide) (by decide), f14, f15, f16]
          · rw [b3 q (by omega) (by omega) (by omega) h2, a3 q (by omega) (by omega) (by omega) h2]; exact fk q h1 h2
  refine b_X12_common_0 o ⟨P, hP, by decide, hu.1, fun Z1 z1 => ⟨_, z1.1, by decide, hu.2.1, fun Z2 z2 => ⟨_, z2.1, by decide, fun Z3 z3 => ⟨_, z3.1, by decide, fun Z4 z4 => ⟨_, z4.1, by decide, fun Z5 z5 => ⟨_, z5.1, by decide, fun Z6 z6 Z7 e7 Z8 e8 => ?_⟩⟩⟩⟩⟩⟩
  have g7 := z6.1.put (u := 12) (i := 0) (v := 1) (by decide) (by decide) e7
  have g8 := g7.1.put (u := 15) (i := 0) (v := 1) (by decide) (by decide) e8
  have ew : updP P 10 (P u.toNat) w.toNat = P w.toNat := updP_n _ _ (by omega)
  refine lp 20 (e0 f g) _ Z8 EO EBB hd.1 (by show pd g < 20; omega) (by show pd g ≤ _; omega) (by show pd g - 1 ≤ _ ∧ pd g - 1 ≤ _; omega) rfl g8.1 (((((((z1.2.tr z2.2).tr z3.2).tr z4.2).tr z5.2).tr z6.2).tr g7.2).tr g8.2) ⟨?_, ?_, ?_, ?_, ?_, ?_⟩ (fun q h1 h2 => ?_)
  · show P u.toNat = _; exact hF
  · show updP P 10 (P u.toNat) w.toNat = _; rw [ew]; exact hG
  · show (fun j => if j = 0 then (1 : Int) else 0) = pone; rfl
  · rfl
  · rfl
  · show (fun j => if j = 0 then (1 : Int) else 0) = pone; rfl
  · show updP (updP (updP (updP (updP (updP (updP (updP P 10 _) 11 _) 12 _) 13 _) 14 _) 15 _) 12 _) 15 _ q = _
    rw [updP_n _ _ (by omega), updP_n _ _ (by omega), updP_n _ _ (by omega), updP_n _ _ (by omega), updP_n _ _ (by omega), updP_n _ _ (by omega), updP_n _ _ (by omega), updP_n _ _ (by omega)]
