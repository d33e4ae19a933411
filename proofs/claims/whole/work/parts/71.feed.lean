theorem dX11_feed_0 : decode cX11_feed 0 = .ok (.aload_n 0, 1) := by decide +kernel
theorem dX11_feed_1 : decode cX11_feed 1 = .ok (.getfield 10, 3) := by decide +kernel
theorem dX11_feed_4 : decode cX11_feed 4 = .ok (.getfield 109, 3) := by decide +kernel
theorem dX11_feed_7 : decode cX11_feed 7 = .ok (.bipush 20, 2) := by decide +kernel
theorem dX11_feed_9 : decode cX11_feed 9 = .ok (.iadd, 1) := by decide +kernel
theorem dX11_feed_10 : decode cX11_feed 10 = .ok (.sipush 600, 3) := by decide +kernel
theorem dX11_feed_13 : decode cX11_feed 13 = .ok (.if_icmp .le 5, 3) := by decide +kernel
theorem dX11_feed_16 : decode cX11_feed 16 = .ok (.iconst (-1), 1) := by decide +kernel
theorem dX11_feed_17 : decode cX11_feed 17 = .ok (.ireturn, 1) := by decide +kernel
theorem dX11_feed_18 : decode cX11_feed 18 = .ok (.aload_n 0, 1) := by decide +kernel
theorem dX11_feed_19 : decode cX11_feed 19 = .ok (.getfield 10, 3) := by decide +kernel
theorem dX11_feed_22 : decode cX11_feed 22 = .ok (.iload_n 1, 1) := by decide +kernel
theorem dX11_feed_23 : decode cX11_feed 23 = .ok (.invokevirtual 112, 3) := by decide +kernel
theorem dX11_feed_26 : decode cX11_feed 26 = .ok (.aload_n 0, 1) := by decide +kernel
theorem dX11_feed_27 : decode cX11_feed 27 = .ok (.getfield 10, 3) := by decide +kernel
theorem dX11_feed_30 : decode cX11_feed 30 = .ok (.iload_n 2, 1) := by decide +kernel
theorem dX11_feed_31 : decode cX11_feed 31 = .ok (.invokevirtual 112, 3) := by decide +kernel
theorem dX11_feed_34 : decode cX11_feed 34 = .ok (.aload_n 0, 1) := by decide +kernel
theorem dX11_feed_35 : decode cX11_feed 35 = .ok (.getfield 10, 3) := by decide +kernel
theorem dX11_feed_38 : decode cX11_feed 38 = .ok (.iload_n 3, 1) := by decide +kernel
theorem dX11_feed_39 : decode cX11_feed 39 = .ok (.invokevirtual 112, 3) := by decide +kernel
theorem dX11_feed_42 : decode cX11_feed 42 = .ok (.aload_n 0, 1) := by decide +kernel
theorem dX11_feed_43 : decode cX11_feed 43 = .ok (.getfield 10, 3) := by decide +kernel
theorem dX11_feed_46 : decode cX11_feed 46 = .ok (.iload 4, 2) := by decide +kernel
theorem dX11_feed_48 : decode cX11_feed 48 = .ok (.invokevirtual 112, 3) := by decide +kernel
theorem dX11_feed_51 : decode cX11_feed 51 = .ok (.aload_n 0, 1) := by decide +kernel
theorem dX11_feed_52 : decode cX11_feed 52 = .ok (.getfield 10, 3) := by decide +kernel
theorem dX11_feed_55 : decode cX11_feed 55 = .ok (.iload 5, 2) := by decide +kernel
theorem dX11_feed_57 : decode cX11_feed 57 = .ok (.invokevirtual 112, 3) := by decide +kernel
theorem dX11_feed_60 : decode cX11_feed 60 = .ok (.aload_n 0, 1) := by decide +kernel
theorem dX11_feed_61 : decode cX11_feed 61 = .ok (.getfield 10, 3) := by decide +kernel
theorem dX11_feed_64 : decode cX11_feed 64 = .ok (.getfield 109, 3) := by decide +kernel
theorem dX11_feed_67 : decode cX11_feed 67 = .ok (.ireturn, 1) := by decide +kernel
set_option maxRecDepth 20000 in
theorem b_X11_feed_0 {k n : Nat} {x : Wx} {Z : Zt} {Q : Option Value → Wx → Zt → Prop} {a0 : Nat} {v1 : Int} {v2 : Int} {v3 : Int} {v4 : Int} {v5 : Int} (o_a0 : Is11 x a0)
    (h : Rg ((Z (a0 + 1) 1) + 20) ∧ ((((Z (a0 + 1) 1) + 20 ≤ 600) → ((0 ≤ Z (a0 + 1) 1 ∧ Z (a0 + 1) 1 ≤ 596) ∧ (∀ Z1 : Zt, Z1 = apZ Z (a0 + 1) v1 4 → ((0 ≤ Z1 (a0 + 1) 1 ∧ Z1 (a0 + 1) 1 ≤ 596) ∧ (∀ Z2 : Zt, Z2 = apZ Z1 (a0 + 1) v2 4 → ((0 ≤ Z2 (a0 + 1) 1 ∧ Z2 (a0 + 1) 1 ≤ 596) ∧ (∀ Z3 : Zt, Z3 = apZ Z2 (a0 + 1) v3 4 → ((0 ≤ Z3 (a0 + 1) 1 ∧ Z3 (a0 + 1) 1 ≤ 596) ∧ (∀ Z4 : Zt, Z4 = apZ Z3 (a0 + 1) v4 4 → ((0 ≤ Z4 (a0 + 1) 1 ∧ Z4 (a0 + 1) 1 ≤ 596) ∧ (∀ Z5 : Zt, Z5 = apZ Z4 (a0 + 1) v5 4 → (Q (some (i_ (Z5 (a0 + 1) 1))) x Z5)))))))))))) ∧ ((600 < (Z (a0 + 1) 1) + 20) → (Q (some (i_ (-1))) x Z)))) :
    V mX11_feed k n 0 [some (r_ a0), some (i_ v1), some (i_ v2), some (i_ v3), some (i_ v4), some (i_ v5)] [] x Z Q :=
  V_aload_n dX11_feed_0 rfl (G_11_0 o_a0.1 o_a0.qR0 lf_11_10 dX11_feed_1 (G_10_1 o_a0.qK0.1 lf_11_109 dX11_feed_4 (V_bipush dX11_feed_7 rfl (V_iadd dX11_feed_9 (V_sipush dX11_feed_10 rfl (V_icmp_le (tgt := 18) dX11_feed_13 rfl h.1 (rg_c rfl) (fun c1 => V_aload_n dX11_feed_18 rfl (G_11_0 o_a0.1 o_a0.qR0 lf_11_10 dX11_feed_19 (V_iload_n dX11_feed_22 rfl (V_callV (k' := 0) (n' := 0) (t := 10) (q := (RX10, TX10, 6)) [i_ v1] [] okX10_append o_a0.qK0.1 rfl rfl lm_11_112 liX10_append lqX10_append (Nat.le_of_ble_eq_true rfl) (Nat.le_of_ble_eq_true rfl) (Nat.le_of_ble_eq_true rfl) (cat_of rfl) (Nat.le_of_ble_eq_true rfl) (Nat.zero_le _) (Nat.zero_le _) rfl dX11_feed_23 (sp_X10_append o_a0.qK0 (h.2.1 c1).1 (V_nmZ (fun Z1 eZ1 => V_aload_n dX11_feed_26 rfl (G_11_0 o_a0.1 o_a0.qR0 lf_11_10 dX11_feed_27 (V_iload_n dX11_feed_30 rfl (V_callV (k' := 0) (n' := 0) (t := 10) (q := (RX10, TX10, 6)) [i_ v2] [] okX10_append o_a0.qK0.1 rfl rfl lm_11_112 liX10_append lqX10_append (Nat.le_of_ble_eq_true rfl) (Nat.le_of_ble_eq_true rfl) (Nat.le_of_ble_eq_true rfl) (cat_of rfl) (Nat.le_of_ble_eq_true rfl) (Nat.zero_le _) (Nat.zero_le _) rfl dX11_feed_31 (sp_X10_append o_a0.qK0 ((h.2.1 c1).2 Z1 eZ1).1 (V_nmZ (fun Z2 eZ2 => V_aload_n dX11_feed_34 rfl (G_11_0 o_a0.1 o_a0.qR0 lf_11_10 dX11_feed_35 (V_iload_n dX11_feed_38 rfl (V_callV (k' := 0) (n' := 0) (t := 10) (q := (RX10, TX10, 6)) [i_ v3] [] okX10_append o_a0.qK0.1 rfl rfl lm_11_112 liX10_append lqX10_append (Nat.le_of_ble_eq_true rfl) (Nat.le_of_ble_eq_true rfl) (Nat.le_of_ble_eq_true rfl) (cat_of rfl) (Nat.le_of_ble_eq_true rfl) (Nat.zero_le _) (Nat.zero_le _) rfl dX11_feed_39 (sp_X10_append o_a0.qK0 (((h.2.1 c1).2 Z1 eZ1).2 Z2 eZ2).1 (V_nmZ (fun Z3 eZ3 => V_aload_n dX11_feed_42 rfl (G_11_0 o_a0.1 o_a0.qR0 lf_11_10 dX11_feed_43 (V_iload dX11_feed_46 rfl (V_callV (k' := 0) (n' := 0) (t := 10) (q := (RX10, TX10, 6)) [i_ v4] [] okX10_append o_a0.qK0.1 rfl rfl lm_11_112 liX10_append lqX10_append (Nat.le_of_ble_eq_true rfl) (Nat.le_of_ble_eq_true rfl) (Nat.le_of_ble_eq_true rfl) (cat_of rfl) (Nat.le_of_ble_eq_true rfl) (Nat.zero_le _) (Nat.zero_le _) rfl dX11_feed_48 (sp_X10_append o_a0.qK0 ((((h.2.1 c1).2 Z1 eZ1).2 Z2 eZ2).2 Z3 eZ3).1 (V_nmZ (fun Z4 eZ4 => V_aload_n dX11_feed_51 rfl (G_11_0 o_a0.1 o_a0.qR0 lf_11_10 dX11_feed_52 (V_iload dX11_feed_55 rfl (V_callV (k' := 0) (n' := 0) (t := 10) (q := (RX10, TX10, 6)) [i_ v5] [] okX10_append o_a0.qK0.1 rfl rfl lm_11_112 liX10_append lqX10_append (Nat.le_of_ble_eq_true rfl) (Nat.le_of_ble_eq_true rfl) (Nat.le_of_ble_eq_true rfl) (cat_of rfl) (Nat.le_of_ble_eq_true rfl) (Nat.zero_le _) (Nat.zero_le _) rfl dX11_feed_57 (sp_X10_append o_a0.qK0 (((((h.2.1 c1).2 Z1 eZ1).2 Z2 eZ2).2 Z3 eZ3).2 Z4 eZ4).1 (V_nmZ (fun Z5 eZ5 => V_aload_n dX11_feed_60 rfl (G_11_0 o_a0.1 o_a0.qR0 lf_11_10 dX11_feed_61 (G_10_1 o_a0.qK0.1 lf_11_109 dX11_feed_64 (V_iret (ty := .int) dX11_feed_67 rfl rfl ((((((h.2.1 c1).2 Z1 eZ1).2 Z2 eZ2).2 Z3 eZ3).2 Z4 eZ4).2 Z5 eZ5))))))))))))))))))))))))))))))))))) (fun c1 => V_iconst dX11_feed_16 (V_iret (ty := .int) dX11_feed_17 rfl rfl (h.2.2 c1)))))))))
theorem dX11_again_0 : decode cX11_again 0 = .ok (.iload_n 1, 1) := by decide +kernel
theorem dX11_again_1 : decode cX11_again 1 = .ok (.ifCond .lt 17, 3) := by decide +kernel
theorem dX11_again_4 : decode cX11_again 4 = .ok (.iload_n 1, 1) := by decide +kernel
theorem dX11_again_5 : decode cX11_again 5 = .ok (.iconst 3, 1) := by decide +kernel
theorem dX11_again_6 : decode cX11_again 6 = .ok (.if_icmp .ge 12, 3) := by decide +kernel
theorem dX11_again_9 : decode cX11_again 9 = .ok (.aload_n 0, 1) := by decide +kernel
theorem dX11_again_10 : decode cX11_again 10 = .ok (.getfield 16, 3) := by decide +kernel
theorem dX11_again_13 : decode cX11_again 13 = .ok (.iload_n 1, 1) := by decide +kernel
theorem dX11_again_14 : decode cX11_again 14 = .ok (.aaload, 1) := by decide +kernel
theorem dX11_again_15 : decode cX11_again 15 = .ok (.ifnonnull 5, 3) := by decide +kernel
theorem dX11_again_18 : decode cX11_again 18 = .ok (.iconst 0, 1) := by decide +kernel
theorem dX11_again_19 : decode cX11_again 19 = .ok (.ireturn, 1) := by decide +kernel
theorem dX11_again_20 : decode cX11_again 20 = .ok (.aload_n 0, 1) := by decide +kernel
theorem dX11_again_21 : decode cX11_again 21 = .ok (.getfield 10, 3) := by decide +kernel
theorem dX11_again_24 : decode cX11_again 24 = .ok (.aload_n 0, 1) := by decide +kernel
theorem dX11_again_25 : decode cX11_again 25 = .ok (.getfield 16, 3) := by decide +kernel
theorem dX11_again_28 : decode cX11_again 28 = .ok (.iload_n 1, 1) := by decide +kernel
theorem dX11_again_29 : decode cX11_again 29 = .ok (.aaload, 1) := by decide +kernel
theorem dX11_again_30 : decode cX11_again 30 = .ok (.invokevirtual 357, 3) := by decide +kernel
theorem dX11_again_33 : decode cX11_again 33 = .ok (.aload_n 0, 1) := by decide +kernel
theorem dX11_again_34 : decode cX11_again 34 = .ok (.invokevirtual 149, 3) := by decide +kernel
theorem dX11_again_37 : decode cX11_again 37 = .ok (.iconst 1, 1) := by decide +kernel
theorem dX11_again_38 : decode cX11_again 38 = .ok (.ireturn, 1) := by decide +kernel
set_option maxRecDepth 20000 in
theorem b_X11_again_0 {k n : Nat} {x : Wx} {Z : Zt} {Q : Option Value → Wx → Zt → Prop} {a0 : Nat} {v1 : Int} (o_a0 : Is11 x a0)
    (h : Rg v1 ∧ (((v1 < 0) → (V mX11_again k n 18 [none, none] [] x Z Q)) ∧ ((0 ≤ v1) → (((3 ≤ v1) → (V mX11_again k n 18 [none, none] [] x Z Q)) ∧ ((v1 < 3) → ((x.2.1 (a0 + 13) v1.toNat = none → (V mX11_again k n 18 [none, none] [] x Z Q)) ∧ (∀ b1, x.2.1 (a0 + 13) v1.toNat = some b1 → (Is10 x b1 ∧ ((x.2.1 (a0 + 13) v1.toNat = none → (False)) ∧ (∀ b2, x.2.1 (a0 + 13) v1.toNat = some b2 → (Is10 x b2 ∧ (∃ g1 : Td, ((b2 + 12 ≤ (a0 + 1) ∨ (a0 + 1) + 12 ≤ b2) ∧ TdC Z b2 g1 ∧ TdV g1 ∧ ((∀ i : Nat, 600 ≤ i → Z ((a0 + 1) + 1) i = 0) ∧ ∀ r i : Nat, r < 8 → 26 ≤ i → Z ((a0 + 1) + 4 + r) i = 0) ∧ (∀ (Z'1 : Zt), (TdC Z'1 (a0 + 1) g1 ∧ Oth Z Z'1 (fun b => (a0 + 1) ≤ b ∧ b < (a0 + 1) + 12)) → (∀ Z1 : Zt, Z1 = fgt Z'1 a0 → (Q (some (i_ 1)) x Z1)))))))))))))))) :
    V mX11_again k n 0 [some (r_ a0), some (i_ v1)] [] x Z Q :=
  V_iload_n dX11_again_0 rfl (V_if_lt (tgt := 18) dX11_again_1 rfl h.1 (fun c1 => V_msk [false, false] rfl (h.2.1 c1)) (fun c1 => V_iload_n dX11_again_4 rfl (V_iconst dX11_again_5 (V_icmp_ge (tgt := 18) dX11_again_6 rfl h.1 (rg_c rfl) (fun c2 => V_msk [false, false] rfl ((h.2.2 c1).1 c2)) (fun c2 => V_aload_n dX11_again_9 rfl (G_11_1 o_a0.1 o_a0.qR1 lf_11_16 dX11_again_10 (V_iload_n dX11_again_13 rfl (V_aald (t := 105) o_a0.qK1 (by decide) (fun _ _ => rfl) rfl c1 c2 (Nat.le_of_ble_eq_true rfl) dX11_again_14 (V_q (fun c3 => V_ifnonnull_n dX11_again_15 (V_msk [false, false] rfl (((h.2.2 c1).2 c2).1 c3))) (fun b1 c4 => have s1 := (((h.2.2 c1).2 c2).2 b1 c4).1; V_ifnonnull_r (tgt := 20) dX11_again_15 rfl (V_aload_n dX11_again_20 rfl (G_11_0 o_a0.1 o_a0.qR0 lf_11_10 dX11_again_21 (V_aload_n dX11_again_24 rfl (G_11_1 o_a0.1 o_a0.qR1 lf_11_16 dX11_again_25 (V_iload_n dX11_again_28 rfl (V_aald (t := 105) o_a0.qK1 (by decide) (fun _ _ => rfl) rfl c1 c2 (Nat.le_of_ble_eq_true rfl) dX11_again_29 (V_q (fun c5 => (False.elim ((((h.2.2 c1).2 c2).2 b1 c4).2.1 c5))) (fun b2 c6 => have s2 := ((((h.2.2 c1).2 c2).2 b1 c4).2.2 b2 c6).1; Exists.elim ((((h.2.2 c1).2 c2).2 b1 c4).2.2 b2 c6).2 (fun g1 w1 => V_callV (k' := 0) (n' := 0) (t := 10) (q := (RX10, TX10, 6)) [r_ b2] [] okX10_copy o_a0.qK0.1 rfl rfl lm_11_357 liX10_copy lqX10_copy (Nat.le_of_ble_eq_true rfl) (Nat.le_of_ble_eq_true rfl) (Nat.le_of_ble_eq_true rfl) (cat_of rfl) (Nat.le_of_ble_eq_true rfl) (Nat.zero_le _) (Nat.zero_le _) rfl dX11_again_30 (sp_X10_copy2 o_a0.qK0 s2 w1.1 w1.2.1 w1.2.2.1 w1.2.2.2.1 (fun Z'1 p1 => V_aload_n dX11_again_33 rfl (V_callV (k' := 0) (n' := 0) (t := 11) (q := (RX11, TX11, 17)) [] [] okX11_forget o_a0.1 rfl rfl lm_11_149 liX11_forget lqX11_forget (Nat.le_of_ble_eq_true rfl) (Nat.le_of_ble_eq_true rfl) (Nat.le_of_ble_eq_true rfl) (cat_of rfl) (Nat.le_of_ble_eq_true rfl) (Nat.zero_le _) (Nat.zero_le _) rfl dX11_again_34 (sp_X11_forget o_a0  (V_nmZ (fun Z1 eZ1 => V_iconst dX11_again_37 (V_iret (ty := .boolean) dX11_again_38 rfl rfl ((w1.2.2.2.2 Z'1 p1) Z1 eZ1)))))))))))))))))))))))))))
set_option maxRecDepth 20000 in
theorem b_X11_again_18 {k n : Nat} {x : Wx} {Z : Zt} {Q : Option Value → Wx → Zt → Prop}  
    (h : Q (some (i_ 0)) x Z) :
    V mX11_again k n 18 [none, none] [] x Z Q :=
  V_iconst dX11_again_18 (V_iret (ty := .boolean) dX11_again_19 rfl rfl h)
/-! ===== CurveShares: feed, end, again ===== -/
theorem Cch.told {x : Wx} {Z Z' : Zt} {a : Nat} {T T' : Td} {σ : Nat → Nat} (hT : T'.ct = T.ct ∧ T'.rw = T.rw) (hV : TdV T) (h : Cch x Z a T σ) (h0 : ∀ b, ¬ (a + 1 ≤ b ∧ b < a + 13) → Z' b = Z b) : Cch x Z' a T' σ := by
  unfold Cch at h ⊢
  rw [h0 a (by omega)]
  rcases h with h | ⟨c, hc, g1, g2, g3, g4, g5, g6, g7⟩
  · exact Or.inl h
  · have hp := (hV.2.2.2.2.2.2.2.1 c g1).1
    refine Or.inr ⟨c, hc, ?_⟩
    unfold CrvC
    rw [hT.1, hT.2]
    refine ⟨g1, g2.kept (fun b b1 b2 => h0 b (by omega)) (fun i _ => by rw [h0 _ (by omega)]), g3, g4, ?_, ?_, ?_⟩
    · rw [h0 _ (by omega)]; exact g5
    · unfold LstC at g6 ⊢
      rw [h0 (a + 229) (by omega)]
      rcases g6 with e | ⟨e, g⟩
      · exact Or.inl e
      · exact Or.inr ⟨e, g.kept (h0 _ (by omega)) (h0 _ (by omega)) (h0 _ (by omega))⟩
    · unfold SumC at g7 ⊢
      rw [h0 a (by omega), hT.1, hT.2]
      rcases g7 with g7 | ⟨s, q1, q2, q3, q4, q5⟩
      · exact Or.inl g7
      · refine Or.inr ⟨s, q1, q2, q3, q4.kept hp (fun b b1 b2 => h0 b (by omega)), ?_⟩
        rcases q5 with e | ⟨e, w1, w2⟩
        · exact Or.inl e
        · refine Or.inr ⟨e, w1.kept hp (fun i hi => by rw [h0 _ (by omega)]) (fun b hb => h0 b (by omega)), ?_⟩
          rw [h0 (a + 116) (by omega), h0 (a + 116 + 1) (by omega)]; exact w2
/-- only what is told has changed, and neither counts nor rows -/
theorem OI.tld {x : Wx} {Z Z' : Zt} {a : Nat} {S : Ab} (h : OI x Z a S) {T : Td} (hT : T.ct = S.nw.ct ∧ T.rw = S.nw.rw) (hV : TdV T) (hc : TdC Z' (a + 1) T) (h0 : ∀ b, ¬ (a + 1 ≤ b ∧ b < a + 13) → Z' b = Z b) : OI x Z' a (T, S.im) ∧ Fx a x x Z Z' := by
  obtain ⟨o, hk, hr, ht, hi, hVV, σ, hl, hcc⟩ := h
  have f : Fx a x x Z Z' := ⟨rfl, rfl, fun b hb => ⟨rfl, h0 b (by omega)⟩, rfl⟩
  exact ⟨⟨o, hk.fx f, hr, hc, hi.fx f, ⟨hV, hVV.2⟩, σ, hl, Cch.told hT hVV.1 hcc h0⟩, f⟩
def Td.sLn (T : Td) (n : Int) : Td := (T.tp, n, T.fl, T.pc, T.ct, T.rw)
theorem TdV.sLn {T : Td} (h : TdV T) {n : Int} (hn : 0 ≤ n ∧ n ≤ 600) : TdV (T.sLn n) := ⟨h.1, hn, h.2.2⟩
def aEnd (T : Td) (n : Int) : Int := if 0 ≤ n ∧ n ≤ T.ln then n else -1
def nEnd (T : Td) (n : Int) : Td := if 0 ≤ n ∧ n ≤ T.ln then T.sLn n else T
theorem sp_X11_end {k n : Nat} {x : Wx} {Z : Zt} {Q : Option Value → Wx → Zt → Prop} {a : Nat} {v : Int} (o : Is11 x a) {S : Ab} (hI : OI x Z a S) (hv : Rg v) (h : ∀ Z' : Zt, OI x Z' a (nEnd S.nw v, S.im) → Fx a x x Z Z' → Q (some (i_ (aEnd S.nw v))) x Z') : V mX11_end k n 0 [some (r_ a), some (i_ v)] [] x Z Q := by
  unfold aEnd nEnd at h
  have hV := hI.2.2.2.2.2.1.1
  have ht := hI.2.2.2.1
  have hln := hV.2.1
  have no : ¬ (0 ≤ v ∧ v ≤ S.nw.ln) → V mX11_end k n 15 [none, none] [] x Z Q := fun e => b_X11_end_15 (by rw [if_neg e, if_neg e] at h; exact h Z hI Fx.rf)
  refine b_X11_end_0 o ?_
  rw [ht.2.1.1]
  refine ⟨hv, fun c => no (by omega), fun c => ⟨⟨by omega, by omega⟩, fun c2 Z1 e1 => ?_, fun c2 => no (by omega)⟩⟩
  rw [if_pos ⟨c, c2⟩, if_pos ⟨c, c2⟩] at h
  have hI1 := hI.tld (Z' := Z1) (T := S.nw.sLn v) ⟨rfl, rfl⟩ (hV.sLn ⟨c, by omega⟩) ⟨?_, ⟨?_, ?_, ?_⟩, fun i hi => ?_, fun r hr => ?_⟩ (fun b hb => ?_)
  · exact h Z1 hI1.1 hI1.2
  · rw [e1, up_row _ _ _ _ _ (by omega)]; exact ht.1
  · rw [e1, up_at, if_pos rfl]; rfl
  · rw [e1, up_at, if_neg (by decide)]; exact ht.2.1.2.1
  · rw [e1, up_at, if_neg (by decide)]; exact ht.2.1.2.2
  · rw [e1, up_row _ _ _ _ _ (by omega)]; exact ht.2.2.1 i hi
  · rw [e1, up_row _ _ _ _ _ (by omega)]; exact ht.2.2.2 r hr
  · rw [e1, up_row _ _ _ _ _ (by omega)]
/-- the j-th byte that is fed -/
def fdB (v1 v2 v3 v4 v5 : Int) (j : Nat) : Int := if j < 4 then byt v1 j else if j < 8 then byt v2 (j - 4) else if j < 12 then byt v3 (j - 8) else if j < 16 then byt v4 (j - 12) else byt v5 (j - 16)
def nFeed (T : Td) (v1 v2 v3 v4 v5 : Int) : Td := if T.ln ≤ 580 then (fun i => if T.ln.toNat ≤ i ∧ i < T.ln.toNat + 20 then fdB v1 v2 v3 v4 v5 (i - T.ln.toNat) else T.tp i, T.ln + 20, T.fl, T.pc, T.ct, T.rw) else T
def aFeed (T : Td) : Int := if T.ln ≤ 580 then T.ln + 20 else -1
theorem byt_rg (v : Int) (j : Nat) : -128 ≤ byt v j ∧ byt v j < 128 := by
  unfold byt
  generalize v % 4294967296 / 2 ^ (24 - 8 * j) = w
  simp only [Int.bmod]
  split <;> omega
theorem ap_at {Z : Zt} {t : Nat} {v : Int} {m : Nat} (hm : Z t 1 = (m : Int)) (i : Nat) : apZ Z t v 4 (t + 1) i = if m ≤ i ∧ i < m + 4 then byt v (i - m) else Z (t + 1) i := by
  unfold apZ
  rw [hm, Int.toNat_natCast]
  by_cases c : m ≤ i ∧ i < m + 4
  · rw [if_pos ⟨rfl, c.1, c.2⟩, if_pos c]
  · rw [if_neg (fun e => c e.2), if_neg c, if_neg (by omega)]
theorem ap_t {Z : Zt} {t : Nat} {v : Int} (i : Nat) : apZ Z t v 4 t i = if i = 1 then Z t 1 + 4 else Z t i := by
  unfold apZ
  rw [if_neg (by omega)]
  by_cases c : i = 1
  · rw [if_pos ⟨rfl, c⟩, if_pos c]; rfl
  · rw [if_neg (fun e => c e.2), if_neg c]
theorem ap_o {Z : Zt} {t : Nat} {v : Int} {b : Nat} (h : b ≠ t) (h2 : b ≠ t + 1) : apZ Z t v 4 b = Z b := funext fun i => by
  unfold apZ
  rw [if_neg (fun e => h2 e.1), if_neg (fun e => h e.1)]
theorem sp_X11_feed {k n : Nat} {x : Wx} {Z : Zt} {Q : Option Value → Wx → Zt → Prop} {a : Nat} {v1 v2 v3 v4 v5 : Int} (o : Is11 x a) {S : Ab} (hI : OI x Z a S) (h : ∀ Z' : Zt, OI x Z' a (nFeed S.nw v1 v2 v3 v4 v5, S.im) → Fx a x x Z Z' → Q (some (i_ (aFeed S.nw))) x Z') : V mX11_feed k n 0 [some (r_ a), some (i_ v1), some (i_ v2), some (i_ v3), some (i_ v4), some (i_ v5)] [] x Z Q := by
  unfold aFeed nFeed at h
  have hV := hI.2.2.2.2.2.1.1
  have ht := hI.2.2.2.1
  have hln := hV.2.1
  obtain ⟨m, hm⟩ : ∃ m : Nat, S.nw.ln = (m : Int) := ⟨S.nw.ln.toNat, by omega⟩
  have e0 : Z (a + 1) 1 = (m : Int) := by rw [ht.2.1.1, hm]
  refine b_X11_feed_0 o ?_
  rw [e0]
  refine ⟨⟨by omega, by omega⟩, fun c => ⟨⟨by omega, by omega⟩, fun Z1 f1 => ?_⟩, fun c => ?_⟩
  · have n1 : Z1 (a + 1) 1 = ((m + 4 : Nat) : Int) := by rw [f1, ap_t, if_pos rfl, e0]; rfl
    refine ⟨by omega, fun Z2 f2 => ?_⟩
    have n2 : Z2 (a + 1) 1 = ((m + 8 : Nat) : Int) := by rw [f2, ap_t, if_pos rfl, n1]; omega
    refine ⟨by omega, fun Z3 f3 => ?_⟩
    have n3 : Z3 (a + 1) 1 = ((m + 12 : Nat) : Int) := by rw [f3, ap_t, if_pos rfl, n2]; omega
    refine ⟨by omega, fun Z4 f4 => ?_⟩
    have n4 : Z4 (a + 1) 1 = ((m + 16 : Nat) : Int) := by rw [f4, ap_t, if_pos rfl, n3]; omega
    refine ⟨by omega, fun Z5 f5 => ?_⟩
    have n5 : Z5 (a + 1) 1 = ((m + 20 : Nat) : Int) := by rw [f5, ap_t, if_pos rfl, n4]; omega
    have zo : ∀ b, b ≠ a + 1 → b ≠ a + 2 → Z5 b = Z b := fun b h1 h2 => by rw [f5, ap_o h1 h2, f4, ap_o h1 h2, f3, ap_o h1 h2, f2, ap_o h1 h2, f1, ap_o h1 h2]
    have zt : ∀ i : Nat, i ≠ 1 → Z5 (a + 1) i = Z (a + 1) i := fun i hi => by rw [f5, ap_t, if_neg hi, f4, ap_t, if_neg hi, f3, ap_t, if_neg hi, f2, ap_t, if_neg hi, f1, ap_t, if_neg hi]
    have ztp : Z5 (a + 1 + 1) = fun i => if m ≤ i ∧ i < m + 20 then fdB v1 v2 v3 v4 v5 (i - m) else S.nw.tp i := funext fun i => by
      rw [f5, ap_at n4, f4, ap_at n3, f3, ap_at n2, f2, ap_at n1, f1, ap_at e0, ht.1]
      unfold fdB
      by_cases c0 : m ≤ i ∧ i < m + 20
      · rw [if_pos c0]
        by_cases c1 : i < m + 4
        · rw [if_neg (by omega), if_neg (by omega), if_neg (by omega), if_neg (by omega), if_pos (by omega), if_pos (by omega)]
        · rw [if_neg (show ¬ i - m < 4 by omega)]
          by_cases c2 : i < m + 8
          · rw [if_neg (by omega), if_neg (by omega), if_neg (by omega), if_pos (by omega), if_pos (by omega), show i - (m + 4) = i - m - 4 by omega]
          · rw [if_neg (show ¬ i - m < 8 by omega)]
            by_cases c3 : i < m + 12
            · rw [if_neg (by omega), if_neg (by omega), if_pos (by omega), if_pos (by omega), show i - (m + 8) = i - m - 8 by omega]
            · rw [if_neg (show ¬ i - m < 12 by omega)]
              by_cases c4 : i < m + 16
              · rw [if_neg (by omega), if_pos (by omega), if_pos (by omega), show i - (m + 12) = i - m - 12 by omega]
              · rw [if_neg (show ¬ i - m < 16 by omega), if_pos (by omega), show i - (m + 16) = i - m - 16 by omega]
      · rw [if_neg c0, if_neg (by omega), if_neg (by omega), if_neg (by omega), if_neg (by omega), if_neg (by omega)]
    rw [hm, if_pos (by omega), if_pos (by omega), Int.toNat_natCast] at h
    have hfr : ∀ j : Nat, -128 ≤ fdB v1 v2 v3 v4 v5 j ∧ fdB v1 v2 v3 v4 v5 j < 128 := fun j => by
      unfold fdB
      split
      · exact byt_rg _ _
      · split
        · exact byt_rg _ _
        · split
          · exact byt_rg _ _
          · split <;> exact byt_rg _ _
    have hI5 := hI.tld (Z' := Z5) (T := (fun i => if m ≤ i ∧ i < m + 20 then fdB v1 v2 v3 v4 v5 (i - m) else S.nw.tp i, (m : Int) + 20, S.nw.fl, S.nw.pc, S.nw.ct, S.nw.rw)) ⟨rfl, rfl⟩ ⟨⟨fun i hi => ?_, fun i hi => ?_, hV.1.2.2⟩, ⟨by show (0 : Int) ≤ (m : Int) + 20; omega, by show (m : Int) + 20 ≤ 600; omega⟩, hV.2.2⟩ ⟨ztp, ⟨n5.trans (show ((m + 20 : Nat) : Int) = (m : Int) + 20 by omega), ?_, ?_⟩, fun i hi => ?_, fun r hr => ?_⟩ (fun b hb => zo b (by omega) (by omega))
    · rw [n5]; exact h Z5 hI5.1 hI5.2
    · show -128 ≤ (if m ≤ i ∧ i < m + 20 then fdB v1 v2 v3 v4 v5 (i - m) else S.nw.tp i) ∧ (if m ≤ i ∧ i < m + 20 then fdB v1 v2 v3 v4 v5 (i - m) else S.nw.tp i) < 128
      split
      · exact hfr _
      · exact hV.1.1 i hi
    · show (if m ≤ i ∧ i < m + 20 then fdB v1 v2 v3 v4 v5 (i - m) else S.nw.tp i) = 0
      rw [if_neg (by omega)]; exact hV.1.2.1 i hi
    · rw [zt 2 (by decide)]; exact ht.2.1.2.1
    · rw [zt 3 (by decide)]; exact ht.2.1.2.2
    · rw [zo _ (by omega) (by omega)]; exact ht.2.2.1 i hi
    · rw [zo _ (by omega) (by omega)]; exact ht.2.2.2 r hr
  · rw [hm, if_neg (by omega), if_neg (by omega)] at h
    exact h Z hI Fx.rf
theorem OI.new {x : Wx} {Z Z' : Zt} {a : Nat} {S : Ab} (h : OI x Z a S) {T : Td} (hV : TdV T) (hc : TdC Z' (a + 1) T) (h0 : ∀ b, ¬ (a ≤ b ∧ b < a + 40) → Z' b = Z b) (h1 : Z' a 14 = -1 ∧ Z' a 15 = -1 ∧ Z' a 16 = 0) : OI x Z' a (T, S.im) ∧ Fx a x x Z Z' := by
  obtain ⟨o, hk, hr, ht, hi, hVV, σ, hl, hcc⟩ := h
  have f : Fx a x x Z Z' := ⟨rfl, rfl, fun b hb => ⟨rfl, h0 b (by omega)⟩, rfl⟩
  exact ⟨⟨o, hk.fx f, hr, hc, hi.fx f, ⟨hV, hVV.2⟩, σ, hl, Or.inl h1⟩, f⟩
def aAgain (S : Ab) (k : Int) : Int := if 0 ≤ k ∧ k < 3 then (match S.im k.toNat with
  | none => 0
  | some _ => 1) else 0
def nAgain (S : Ab) (k : Int) : Td := if 0 ≤ k ∧ k < 3 then (match S.im k.toNat with
  | none => S.nw
  | some T => T) else S.nw
theorem sp_X11_again {k n : Nat} {x : Wx} {Z : Zt} {Q : Option Value → Wx → Zt → Prop} {a : Nat} {v : Int} (o : Is11 x a) {S : Ab} (hI : OI x Z a S) (hv : Rg v) (h : ∀ Z' : Zt, OI x Z' a (nAgain S v, S.im) → Fx a x x Z Z' → Q (some (i_ (aAgain S v))) x Z') : V mX11_again k n 0 [some (r_ a), some (i_ v)] [] x Z Q := by
  unfold aAgain nAgain at h
  have hV := hI.2.2.2.2.2.1
  have ht := hI.2.2.2.1
  have hi := hI.2.2.2.2.1
  refine b_X11_again_0 o ⟨hv, fun c => b_X11_again_18 ?_, fun c => ⟨fun c2 => b_X11_again_18 ?_, fun c2 => ⟨fun hn => b_X11_again_18 ?_, fun b hb => ?_⟩⟩⟩
  · rw [if_neg (by omega), if_neg (by omega)] at h; exact h Z hI Fx.rf
  · rw [if_neg (by omega), if_neg (by omega)] at h; exact h Z hI Fx.rf
  · rw [if_pos ⟨c, c2⟩, if_pos ⟨c, c2⟩, hi.1 v.toNat (by omega) hn] at h; exact h Z hI Fx.rf
  · obtain ⟨i1, i2, i3, T, i4, i5⟩ := hi.2.1 v.toNat b (by omega) hb
    rw [if_pos ⟨c, c2⟩, if_pos ⟨c, c2⟩, i4] at h
    refine ⟨i1, fun hn => (by rw [hb] at hn; cases hn), fun b2 hb2 => ?_⟩
    have : b2 = b := by rw [hb] at hb2; cases hb2; rfl
    subst this
    refine ⟨i1, T, Or.inr (by omega), i5, hV.2 v.toNat (by omega) T i4, ⟨fun i hi => ?_, fun r i hr hi => ?_⟩, fun Z1 hz1 Z2 e2 => ?_⟩
    · rw [ht.1]; exact hV.1.1.2.1 i hi
    · rw [ht.2.2.2 r hr]; exact hV.1.1.2.2 r i hr hi
    · have z2 : ∀ b, b ≠ a → Z2 b = Z1 b := fun b hb => by rw [e2, fgt_row _ _ hb]
      have hI2 := hI.new (Z' := Z2) (hV.2 v.toNat (by omega) T i4) (hz1.1.kept (fun b b1 b2 => z2 b (by omega))) (fun b hb => by rw [z2 b (by omega), hz1.2 b (by omega)]) (by rw [e2]; exact fgt_at Z1 a)
      exact h Z2 hI2.1 hI2.2
