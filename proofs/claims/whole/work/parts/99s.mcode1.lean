/-! ===== the reference: codes, powers and UNDER at a POINT ===== -/
theorem em_w (a p : Int) : ∃ t : Int, a % p = a + p * t := ⟨-(a / p), by have := Int.mul_ediv_add_emod a p; rw [Int.mul_neg]; omega⟩
theorem hor_unS {p q X : Int} {U : Nat → Int} : ∀ (n : Nat) (v v' t : Int), v' = (if n = 0 then 0 else U (n - 1)) + (X - q) * v + p * t → ∃ s : Int, hor p (unS p q U) X n v' = (X - q) * hor p U X n v + p * s
  | 0, v, v', t, h => ⟨t, by rw [if_pos rfl, Int.zero_add] at h; exact h⟩
  | n + 1, v, v', t, h => by
    rw [if_neg (by omega)] at h
    have h : v' = U n + (X - q) * v + p * t := h
    unfold hor
    obtain ⟨t1, h1⟩ := em_w (v * X + U n) p
    obtain ⟨t2, h2⟩ := em_w (v' * X + unS p q U n) p
    by_cases c : n = 0
    · subst c
      obtain ⟨t3, h3⟩ := em_w ((-q) * U 0) p
      have e : unS p q U 0 = ((-q) * U 0) % p := by unfold unS; rw [if_pos rfl]
      rw [h3] at e
      refine hor_unS 0 _ _ (t * X + t2 + t3 - (X - q) * t1) ?_
      rw [if_pos rfl, h2, h1, e, h]
      grind
    · obtain ⟨t3, h3⟩ := em_w (U (n - 1) - q * U n) p
      have e : unS p q U n = (U (n - 1) - q * U n) % p := by unfold unS; rw [if_neg c]
      rw [h3] at e
      refine hor_unS n _ _ (t * X + t2 + t3 - (X - q) * t1) ?_
      rw [if_neg c, h2, h1, e, h]
      grind
theorem evU_st {p q X : Int} (hp : 0 < p) {w : Un} (hw : UnI p w) : evU p (w.1 + 1, unS p q w.2) X = ((X - q) * evU p w X) % p := by
  unfold evU
  show hor p (unS p q w.2) X (w.1 + 1 + 1) 0 = _
  obtain ⟨s, hs⟩ := hor_unS (p := p) (q := q) (X := X) (U := w.2) (w.1 + 1 + 1) 0 (w.2 (w.1 + 1)) 0 (by rw [if_neg (by omega)]; show _ = w.2 (w.1 + 1) + (X - q) * 0 + p * 0; omega)
  have e0 : w.2 (w.1 + 1) = 0 := hw.2 _ (by omega)
  rw [e0] at hs
  have e1 : hor p w.2 X (w.1 + 1 + 1) 0 = hor p w.2 X (w.1 + 1) 0 := hor_0 1 (w.1 + 1) (fun i h1 h2 => hw.2 i (by omega))
  rw [e1] at hs
  have r := hor_rg hp (F := unS p q w.2) (x := X) (w.1 + 1 + 1) 0 ⟨Int.le_refl 0, hp⟩
  rw [← Int.emod_eq_of_lt r.1 r.2, hs, Int.add_mul_emod_self_left]
theorem evU_rg {p : Int} (hp : 0 < p) (w : Un) (X : Int) : 0 ≤ evU p w X ∧ evU p w X < p := hor_rg hp _ _ ⟨Int.le_refl 0, hp⟩
theorem undX_nz {p : Int} (hp : IsP p) {q X : Int} (hq : 0 ≤ q ∧ q < p) (hX : 0 ≤ X ∧ X < p) (hn : q ≠ X) : ∀ (n : Nat) (w : Un), UnI p w → evU p w X ≠ 0 → UnI p (undX p q n w) ∧ evU p (undX p q n w) X ≠ 0
  | 0, w, h1, h2 => ⟨h1, h2⟩
  | n + 1, w, h1, h2 => by
    have hpr := hp.rg
    unfold undX
    refine undX_nz hp hq hX hn n _ (h1.st (by omega)) ?_
    rw [evU_st (by omega) h1]
    have r1 := evU_rg (p := p) (by omega) w X
    have r2 := emr (X - q) (show 0 < p by omega)
    have n2 : (X - q) % p ≠ 0 := fun e => by
      by_cases c : q < X
      · rw [Int.emod_eq_of_lt (by omega) (by omega)] at e; omega
      · rw [← Int.add_emod_right, Int.emod_eq_of_lt (by omega) (by omega)] at e; omega
    have := (nzp hp ((X - q) % p) (evU p w X) (by omega) (by omega)).1
    rw [mul_md] at this
    exact this
theorem undA_nz {p : Int} (hp : IsP p) {X : Nat} (hX : (X : Int) < p) {D : Nat → Int} (hD : D X ≤ 0) : ∀ (m q : Nat) (w : Un), (q + m : Int) ≤ p → UnI p w → evU p w X ≠ 0 → evU p (undA p D m q w) X ≠ 0
  | 0, _, _, _, _, h => h
  | m + 1, q, w, hq, h1, h2 => by
    unfold undA
    by_cases c : q = X
    · have e : (D q).toNat = 0 := by rw [c]; omega
      rw [e]
      exact undA_nz hp hX hD m (q + 1) w (by omega) h1 h2
    · have := undX_nz hp (q := (q : Int)) (X := (X : Int)) (by omega) (by omega) (by omega) (D q).toNat w h1 h2
      exact undA_nz hp hX hD m (q + 1) _ (by omega) this.1 this.2
theorem und_nz {p : Int} (hp : IsP p) {X : Nat} (hX : (X : Int) < p) {D : Nat → Int} (hD : D X ≤ 0) : evU p (und p D) X ≠ 0 := by
  have hpr := hp.rg
  unfold und
  refine undA_nz hp hX hD p.toNat 0 _ (by omega) ⟨fun i => ?_, fun i hi => ?_⟩ ?_
  · show 0 ≤ (if i = 0 then (1 : Int) else 0) ∧ (if i = 0 then (1 : Int) else 0) < p
    split <;> omega
  · show (if i = 0 then (1 : Int) else 0) = 0
    have hi : 0 < i := hi
    rw [if_neg (by omega)]
  · show hor p (fun i => if i = 0 then (1 : Int) else 0) X 1 0 ≠ 0
    show (0 * (X : Int) + 1) % p ≠ 0
    rw [Int.zero_mul, Int.zero_add, Int.emod_eq_of_lt (by omega) (by omega)]
    decide
theorem dX12_powerAt_0 : decode cX12_powerAt 0 = .ok (.iload_n 1, 1) := by decide +kernel
theorem dX12_powerAt_1 : decode cX12_powerAt 1 = .ok (.iconst 2, 1) := by decide +kernel
theorem dX12_powerAt_2 : decode cX12_powerAt 2 = .ok (.irem, 1) := by decide +kernel
theorem dX12_powerAt_3 : decode cX12_powerAt 3 = .ok (.ifCond .ne 9, 3) := by decide +kernel
theorem dX12_powerAt_6 : decode cX12_powerAt 6 = .ok (.iload_n 1, 1) := by decide +kernel
theorem dX12_powerAt_7 : decode cX12_powerAt 7 = .ok (.iconst 2, 1) := by decide +kernel
theorem dX12_powerAt_8 : decode cX12_powerAt 8 = .ok (.idiv, 1) := by decide +kernel
theorem dX12_powerAt_9 : decode cX12_powerAt 9 = .ok (.goto 15, 3) := by decide +kernel
theorem dX12_powerAt_12 : decode cX12_powerAt 12 = .ok (.iload_n 1, 1) := by decide +kernel
theorem dX12_powerAt_13 : decode cX12_powerAt 13 = .ok (.iconst 2, 1) := by decide +kernel
theorem dX12_powerAt_14 : decode cX12_powerAt 14 = .ok (.aload_n 0, 1) := by decide +kernel
theorem dX12_powerAt_15 : decode cX12_powerAt 15 = .ok (.getfield 221, 3) := by decide +kernel
theorem dX12_powerAt_18 : decode cX12_powerAt 18 = .ok (.imul, 1) := by decide +kernel
theorem dX12_powerAt_19 : decode cX12_powerAt 19 = .ok (.isub, 1) := by decide +kernel
theorem dX12_powerAt_20 : decode cX12_powerAt 20 = .ok (.iconst 1, 1) := by decide +kernel
theorem dX12_powerAt_21 : decode cX12_powerAt 21 = .ok (.isub, 1) := by decide +kernel
theorem dX12_powerAt_22 : decode cX12_powerAt 22 = .ok (.iconst 2, 1) := by decide +kernel
theorem dX12_powerAt_23 : decode cX12_powerAt 23 = .ok (.idiv, 1) := by decide +kernel
theorem dX12_powerAt_24 : decode cX12_powerAt 24 = .ok (.istore 4, 2) := by decide +kernel
theorem dX12_powerAt_26 : decode cX12_powerAt 26 = .ok (.iload_n 1, 1) := by decide +kernel
theorem dX12_powerAt_27 : decode cX12_powerAt 27 = .ok (.iconst 2, 1) := by decide +kernel
theorem dX12_powerAt_28 : decode cX12_powerAt 28 = .ok (.irem, 1) := by decide +kernel
theorem dX12_powerAt_29 : decode cX12_powerAt 29 = .ok (.ifCond .ne 7, 3) := by decide +kernel
theorem dX12_powerAt_32 : decode cX12_powerAt 32 = .ok (.iconst 1, 1) := by decide +kernel
theorem dX12_powerAt_33 : decode cX12_powerAt 33 = .ok (.goto 4, 3) := by decide +kernel
theorem dX12_powerAt_36 : decode cX12_powerAt 36 = .ok (.iload_n 3, 1) := by decide +kernel
theorem dX12_powerAt_37 : decode cX12_powerAt 37 = .ok (.istore 5, 2) := by decide +kernel
theorem dX12_powerAt_39 : decode cX12_powerAt 39 = .ok (.iconst 0, 1) := by decide +kernel
theorem dX12_powerAt_40 : decode cX12_powerAt 40 = .ok (.istore 6, 2) := by decide +kernel
theorem dX12_powerAt_42 : decode cX12_powerAt 42 = .ok (.iload 6, 2) := by decide +kernel
theorem dX12_powerAt_44 : decode cX12_powerAt 44 = .ok (.iload 4, 2) := by decide +kernel
theorem dX12_powerAt_46 : decode cX12_powerAt 46 = .ok (.if_icmp .ge 19, 3) := by decide +kernel
theorem dX12_powerAt_49 : decode cX12_powerAt 49 = .ok (.aload_n 0, 1) := by decide +kernel
theorem dX12_powerAt_50 : decode cX12_powerAt 50 = .ok (.iload 5, 2) := by decide +kernel
theorem dX12_powerAt_52 : decode cX12_powerAt 52 = .ok (.iload_n 2, 1) := by decide +kernel
theorem dX12_powerAt_53 : decode cX12_powerAt 53 = .ok (.imul, 1) := by decide +kernel
theorem dX12_powerAt_54 : decode cX12_powerAt 54 = .ok (.invokevirtual 182, 3) := by decide +kernel
theorem dX12_powerAt_57 : decode cX12_powerAt 57 = .ok (.istore 5, 2) := by decide +kernel
theorem dX12_powerAt_59 : decode cX12_powerAt 59 = .ok (.iinc 6 1, 3) := by decide +kernel
theorem dX12_powerAt_62 : decode cX12_powerAt 62 = .ok (.goto (-20), 3) := by decide +kernel
theorem dX12_powerAt_65 : decode cX12_powerAt 65 = .ok (.iload 5, 2) := by decide +kernel
theorem dX12_powerAt_67 : decode cX12_powerAt 67 = .ok (.ireturn, 1) := by decide +kernel
set_option maxRecDepth 20000 in
theorem b_X12_powerAt_0 {k n : Nat} {x : Wx} {Z : Zt} {Q : Option Value → Wx → Zt → Prop} {a0 : Nat} {v1 : Int} {v2 : Int} {v3 : Int} (o_a0 : Is12 x a0)
    (h : Rg v1 ∧ (Rg (Int.tmod v1 2) ∧ (((Int.tmod v1 2 ≠ 0) → (Rg ((v1 - (2 * (Z a0 12))) - 1) ∧ (V mX12_powerAt k n 24 [some (r_ a0), some (i_ v1), some (i_ v2), some (i_ v3), none, none, none] [i_ (Int.tdiv ((v1 - (2 * (Z a0 12))) - 1) 2)] x Z Q))) ∧ ((Int.tmod v1 2 = 0) → (V mX12_powerAt k n 24 [some (r_ a0), some (i_ v1), some (i_ v2), some (i_ v3), none, none, none] [i_ (Int.tdiv v1 2)] x Z Q))))) :
    V mX12_powerAt k n 0 [some (r_ a0), some (i_ v1), some (i_ v2), some (i_ v3), none, none, none] [] x Z Q :=
  V_iload_n dX12_powerAt_0 rfl (V_iconst dX12_powerAt_1 (V_irem dX12_powerAt_2 h.1 (rg_c rfl) (by decide) (V_if_ne (tgt := 12) dX12_powerAt_3 rfl h.2.1 (fun c1 => V_iload_n dX12_powerAt_12 rfl (V_iconst dX12_powerAt_13 (V_aload_n dX12_powerAt_14 rfl (G_12_12 o_a0.1 lf_12_221 dX12_powerAt_15 (V_imul dX12_powerAt_18 (V_isub dX12_powerAt_19 (V_iconst dX12_powerAt_20 (V_isub dX12_powerAt_21 (V_iconst dX12_powerAt_22 (V_idiv dX12_powerAt_23 (h.2.2.1 c1).1 (rg_c rfl) (by decide) (V_msk [true, true, true, true, false, false, false] rfl (h.2.2.1 c1).2))))))))))) (fun c1 => V_iload_n dX12_powerAt_6 rfl (V_iconst dX12_powerAt_7 (V_idiv dX12_powerAt_8 h.1 (rg_c rfl) (by decide) (V_goto (tgt := 24) dX12_powerAt_9 rfl (V_msk [true, true, true, true, false, false, false] rfl (h.2.2.2 c1)))))))))
set_option maxRecDepth 20000 in
theorem b_X12_powerAt_24 {k n : Nat} {x : Wx} {Z : Zt} {Q : Option Value → Wx → Zt → Prop} {a0 : Nat} {v1 : Int} {v2 : Int} {v3 : Int} {t0 : Int} 
    (h : Rg v1 ∧ (Rg (Int.tmod v1 2) ∧ (((Int.tmod v1 2 ≠ 0) → (V mX12_powerAt k n 37 [some (r_ a0), none, some (i_ v2), none, some (i_ t0), none, none] [i_ v3] x Z Q)) ∧ ((Int.tmod v1 2 = 0) → (V mX12_powerAt k n 37 [some (r_ a0), none, some (i_ v2), none, some (i_ t0), none, none] [i_ 1] x Z Q))))) :
    V mX12_powerAt k n 24 [some (r_ a0), some (i_ v1), some (i_ v2), some (i_ v3), none, none, none] [i_ t0] x Z Q :=
  V_istore (lv' := [some (r_ a0), some (i_ v1), some (i_ v2), some (i_ v3), some (i_ t0), none, none]) dX12_powerAt_24 (Nat.le_of_ble_eq_true rfl) rfl (V_iload_n dX12_powerAt_26 rfl (V_iconst dX12_powerAt_27 (V_irem dX12_powerAt_28 h.1 (rg_c rfl) (by decide) (V_if_ne (tgt := 36) dX12_powerAt_29 rfl h.2.1 (fun c1 => V_iload_n dX12_powerAt_36 rfl (V_msk [true, false, true, false, true, false, false] rfl (h.2.2.1 c1))) (fun c1 => V_iconst dX12_powerAt_32 (V_goto (tgt := 37) dX12_powerAt_33 rfl (V_msk [true, false, true, false, true, false, false] rfl (h.2.2.2 c1))))))))
set_option maxRecDepth 20000 in
theorem b_X12_powerAt_37 {k n : Nat} {x : Wx} {Z : Zt} {Q : Option Value → Wx → Zt → Prop} {a0 : Nat} {v2 : Int} {v4 : Int} {t0 : Int} 
    (h : V mX12_powerAt k n 42 [some (r_ a0), none, some (i_ v2), none, some (i_ v4), some (i_ t0), some (i_ 0)] [] x Z Q) :
    V mX12_powerAt k n 37 [some (r_ a0), none, some (i_ v2), none, some (i_ v4), none, none] [i_ t0] x Z Q :=
  V_istore (lv' := [some (r_ a0), none, some (i_ v2), none, some (i_ v4), some (i_ t0), none]) dX12_powerAt_37 (Nat.le_of_ble_eq_true rfl) rfl (V_iconst dX12_powerAt_39 (V_istore (lv' := [some (r_ a0), none, some (i_ v2), none, some (i_ v4), some (i_ t0), some (i_ 0)]) dX12_powerAt_40 (Nat.le_of_ble_eq_true rfl) rfl (V_msk [true, false, true, false, true, true, true] rfl h)))
set_option maxRecDepth 20000 in
theorem b_X12_powerAt_42 {k n : Nat} {x : Wx} {Z : Zt} {Q : Option Value → Wx → Zt → Prop} {a0 : Nat} {v2 : Int} {v4 : Int} {v5 : Int} {v6 : Int} (o_a0 : Is12 x a0)
    (h : Rg v6 ∧ Rg v4 ∧ (((v4 ≤ v6) → (Q (some (i_ v5)) x Z)) ∧ ((v6 < v4) → (Rg (v5 * v2) ∧ 0 < Z a0 11 ∧ Z a0 11 ≤ 13 ∧ (V mX12_powerAt k n 42 [some (r_ a0), none, some (i_ v2), none, some (i_ v4), some (i_ ((v5 * v2) % Z a0 11)), some (i_ (v6 + 1))] [] x Z Q))))) :
    V mX12_powerAt k n 42 [some (r_ a0), none, some (i_ v2), none, some (i_ v4), some (i_ v5), some (i_ v6)] [] x Z Q :=
  V_iload dX12_powerAt_42 rfl (V_iload dX12_powerAt_44 rfl (V_icmp_ge (tgt := 65) dX12_powerAt_46 rfl h.1 h.2.1 (fun c1 => V_iload dX12_powerAt_65 rfl (V_iret (ty := .int) dX12_powerAt_67 rfl rfl (h.2.2.1 c1))) (fun c1 => V_aload_n dX12_powerAt_49 rfl (V_iload dX12_powerAt_50 rfl (V_iload_n dX12_powerAt_52 rfl (V_imul dX12_powerAt_53 (V_callV (k' := 0) (n' := 0) (t := 12) (q := (RX12, TX12, 46)) [i_ (v5 * v2)] [] okX12_mod o_a0.1 rfl rfl lm_12_182 liX12_mod lqX12_mod (Nat.le_of_ble_eq_true rfl) (Nat.le_of_ble_eq_true rfl) (Nat.le_of_ble_eq_true rfl) (cat_of rfl) (Nat.le_of_ble_eq_true rfl) (Nat.zero_le _) (Nat.zero_le _) rfl dX12_powerAt_54 (sp_X12_mod o_a0 (h.2.2.2 c1).1 (h.2.2.2 c1).2.1 (h.2.2.2 c1).2.2.1 (V_istore (lv' := [some (r_ a0), none, some (i_ v2), none, some (i_ v4), some (i_ ((v5 * v2) % Z a0 11)), some (i_ v6)]) dX12_powerAt_57 (Nat.le_of_ble_eq_true rfl) rfl (V_iinc (lv' := [some (r_ a0), none, some (i_ v2), none, some (i_ v4), some (i_ ((v5 * v2) % Z a0 11)), some (i_ (v6 + 1))]) dX12_powerAt_59 rfl (Nat.le_of_ble_eq_true rfl) rfl (V_goto (tgt := 42) dX12_powerAt_62 rfl (V_msk [true, false, true, false, true, true, true] rfl (h.2.2.2 c1).2.2.2))))))))))))
theorem dX12_underAt_0 : decode cX12_underAt 0 = .ok (.iconst 0, 1) := by decide +kernel
theorem dX12_underAt_1 : decode cX12_underAt 1 = .ok (.istore_n 2, 1) := by decide +kernel
theorem dX12_underAt_2 : decode cX12_underAt 2 = .ok (.aload_n 0, 1) := by decide +kernel
theorem dX12_underAt_3 : decode cX12_underAt 3 = .ok (.getfield 303, 3) := by decide +kernel
theorem dX12_underAt_6 : decode cX12_underAt 6 = .ok (.istore_n 3, 1) := by decide +kernel
theorem dX12_underAt_7 : decode cX12_underAt 7 = .ok (.iload_n 3, 1) := by decide +kernel
theorem dX12_underAt_8 : decode cX12_underAt 8 = .ok (.ifCond .lt 24, 3) := by decide +kernel
theorem dX12_underAt_11 : decode cX12_underAt 11 = .ok (.aload_n 0, 1) := by decide +kernel
theorem dX12_underAt_12 : decode cX12_underAt 12 = .ok (.iload_n 2, 1) := by decide +kernel
theorem dX12_underAt_13 : decode cX12_underAt 13 = .ok (.iload_n 1, 1) := by decide +kernel
theorem dX12_underAt_14 : decode cX12_underAt 14 = .ok (.imul, 1) := by decide +kernel
theorem dX12_underAt_15 : decode cX12_underAt 15 = .ok (.aload_n 0, 1) := by decide +kernel
theorem dX12_underAt_16 : decode cX12_underAt 16 = .ok (.getfield 45, 3) := by decide +kernel
theorem dX12_underAt_19 : decode cX12_underAt 19 = .ok (.iload_n 3, 1) := by decide +kernel
theorem dX12_underAt_20 : decode cX12_underAt 20 = .ok (.iaload, 1) := by decide +kernel
theorem dX12_underAt_21 : decode cX12_underAt 21 = .ok (.iadd, 1) := by decide +kernel
theorem dX12_underAt_22 : decode cX12_underAt 22 = .ok (.invokevirtual 182, 3) := by decide +kernel
theorem dX12_underAt_25 : decode cX12_underAt 25 = .ok (.istore_n 2, 1) := by decide +kernel
theorem dX12_underAt_26 : decode cX12_underAt 26 = .ok (.iinc 3 (-1), 3) := by decide +kernel
theorem dX12_underAt_29 : decode cX12_underAt 29 = .ok (.goto (-22), 3) := by decide +kernel
theorem dX12_underAt_32 : decode cX12_underAt 32 = .ok (.iload_n 2, 1) := by decide +kernel
theorem dX12_underAt_33 : decode cX12_underAt 33 = .ok (.ireturn, 1) := by decide +kernel
set_option maxRecDepth 20000 in
theorem b_X12_underAt_0 {k n : Nat} {x : Wx} {Z : Zt} {Q : Option Value → Wx → Zt → Prop} {a0 : Nat} {v1 : Int} (o_a0 : Is12 x a0)
    (h : V mX12_underAt k n 7 [some (r_ a0), some (i_ v1), some (i_ 0), some (i_ (Z a0 23))] [] x Z Q) :
    V mX12_underAt k n 0 [some (r_ a0), some (i_ v1), none, none] [] x Z Q :=
  V_iconst dX12_underAt_0 (V_istore_n (lv' := [some (r_ a0), some (i_ v1), some (i_ 0), none]) dX12_underAt_1 (Nat.le_of_ble_eq_true rfl) rfl (V_aload_n dX12_underAt_2 rfl (G_12_23 o_a0.1 lf_12_303 dX12_underAt_3 (V_istore_n (lv' := [some (r_ a0), some (i_ v1), some (i_ 0), some (i_ (Z a0 23))]) dX12_underAt_6 (Nat.le_of_ble_eq_true rfl) rfl (V_msk [true, true, true, true] rfl h)))))
set_option maxRecDepth 20000 in
theorem b_X12_underAt_7 {k n : Nat} {x : Wx} {Z : Zt} {Q : Option Value → Wx → Zt → Prop} {a0 : Nat} {v1 : Int} {v2 : Int} {v3 : Int} (o_a0 : Is12 x a0)
    (h : Rg v3 ∧ (((v3 < 0) → (Q (some (i_ v2)) x Z)) ∧ ((0 ≤ v3) → (v3 < 96 ∧ (Rg ((v2 * v1) + (Z (a0 + 12) v3.toNat)) ∧ 0 < Z a0 11 ∧ Z a0 11 ≤ 13 ∧ (V mX12_underAt k n 7 [some (r_ a0), some (i_ v1), some (i_ (((v2 * v1) + (Z (a0 + 12) v3.toNat)) % Z a0 11)), some (i_ (v3 + (-1)))] [] x Z Q)))))) :
    V mX12_underAt k n 7 [some (r_ a0), some (i_ v1), some (i_ v2), some (i_ v3)] [] x Z Q :=
  V_iload_n dX12_underAt_7 rfl (V_if_lt (tgt := 32) dX12_underAt_8 rfl h.1 (fun c1 => V_iload_n dX12_underAt_32 rfl (V_iret (ty := .int) dX12_underAt_33 rfl rfl (h.2.1 c1))) (fun c1 => V_aload_n dX12_underAt_11 rfl (V_iload_n dX12_underAt_12 rfl (V_iload_n dX12_underAt_13 rfl (V_imul dX12_underAt_14 (V_aload_n dX12_underAt_15 rfl (G_12_22 o_a0.1 o_a0.qR22 lf_12_45 dX12_underAt_16 (V_iload_n dX12_underAt_19 rfl (V_iald (t := 100) o_a0.qK22 (by decide) rfl c1 (h.2.2 c1).1 (Nat.le_of_ble_eq_true rfl) dX12_underAt_20 (V_iadd dX12_underAt_21 (V_callV (k' := 0) (n' := 0) (t := 12) (q := (RX12, TX12, 46)) [i_ ((v2 * v1) + (Z (a0 + 12) v3.toNat))] [] okX12_mod o_a0.1 rfl rfl lm_12_182 liX12_mod lqX12_mod (Nat.le_of_ble_eq_true rfl) (Nat.le_of_ble_eq_true rfl) (Nat.le_of_ble_eq_true rfl) (cat_of rfl) (Nat.le_of_ble_eq_true rfl) (Nat.zero_le _) (Nat.zero_le _) rfl dX12_underAt_22 (sp_X12_mod o_a0 (h.2.2 c1).2.1 (h.2.2 c1).2.2.1 (h.2.2 c1).2.2.2.1 (V_istore_n (lv' := [some (r_ a0), some (i_ v1), some (i_ (((v2 * v1) + (Z (a0 + 12) v3.toNat)) % Z a0 11)), some (i_ v3)]) dX12_underAt_25 (Nat.le_of_ble_eq_true rfl) rfl (V_iinc (lv' := [some (r_ a0), some (i_ v1), some (i_ (((v2 * v1) + (Z (a0 + 12) v3.toNat)) % Z a0 11)), some (i_ (v3 + (-1)))]) dX12_underAt_26 rfl (Nat.le_of_ble_eq_true rfl) rfl (V_goto (tgt := 7) dX12_underAt_29 rfl (V_msk [true, true, true, true] rfl (h.2.2 c1).2.2.2.2))))))))))))))))
/-- the value of the j-th power at (X, Y) -/
def powA (p : Int) (g : Nat) (j : Nat) (X Y : Int) : Int := if j % 2 = 0 then pwV p 1 X (j / 2) else pwV p Y X ((j - 2 * g - 1) / 2)
theorem sp_X12_powerAt {k n : Nat} {x : Wx} {Z : Zt} {Q : Option Value → Wx → Zt → Prop} {b : Nat} {j X Y : Int} (o : Is12 x b) {p : Int} {g : Nat} (hp : (IsP p ∧ Z b 11 = p) ∧ (Z b 12 = (g : Int) ∧ g ≤ 2)) (hj : (0 ≤ j ∧ j ≤ 100) ∧ ¬ (j.toNat % 2 = 1 ∧ j.toNat < 2 * g + 1)) (hX : (0 ≤ X ∧ X < p) ∧ (0 ≤ Y ∧ Y < p)) (h : Q (some (i_ (powA p g j.toNat X Y))) x Z) : V mX12_powerAt k n 0 [some (r_ b), some (i_ j), some (i_ X), some (i_ Y), none, none, none] [] x Z Q := by
  obtain ⟨⟨hp, b11⟩, b12, hg⟩ := hp
  have hpr := hp.rg
  obtain ⟨j, rfl⟩ : ∃ j' : Nat, j = (j' : Int) := ⟨j.toNat, by omega⟩
  rw [Int.toNat_natCast] at h hj
  have lp : ∀ (e : Int) (N : Nat), (0 ≤ e ∧ e < p) → N ≤ 100 → powA p g j X Y = pwV p e X N → ∀ (m i : Nat), i + m = N → V mX12_powerAt k n 42 [some (r_ b), none, some (i_ X), none, some (i_ (N : Int)), some (i_ (pwV p e X i)), some (i_ (i : Int))] [] x Z Q := by
    intro e N he hN hR m
    induction m with
    | zero =>
      intro i hi
      refine b_X12_powerAt_42 o ⟨⟨by omega, by omega⟩, ⟨by omega, by omega⟩, fun _ => ?_, fun cc => by omega⟩
      rw [show i = N from by omega, ← hR]; exact h
    | succ m ih =>
      intro i hi
      have r := pwV_rg (X := X) (show 0 < p by omega) he i
      have r2 : 0 ≤ pwV p e X i * X ∧ pwV p e X i * X ≤ 169 := ⟨Int.mul_nonneg r.1 hX.1.1, Int.le_trans (Int.mul_le_mul (show _ ≤ (13 : Int) by omega) (show X ≤ 13 by omega) hX.1.1 (by decide)) (by decide)⟩
      refine b_X12_powerAt_42 o ?_
      rw [b11]
      exact ⟨⟨by omega, by omega⟩, ⟨by omega, by omega⟩, fun cc => by omega, fun _ => ⟨⟨by omega, by omega⟩, by omega, by omega, ih (i + 1) (by omega)⟩⟩
  have tm : Int.tmod (j : Int) 2 = ((j % 2 : Nat) : Int) := by rw [Int.tmod_eq_emod_of_nonneg (by omega)]; omega
  have td : Int.tdiv (j : Int) 2 = ((j / 2 : Nat) : Int) := by rw [Int.tdiv_eq_ediv_of_nonneg (by omega)]; omega
  refine b_X12_powerAt_0 o ?_
  rw [tm, td, b12]
  refine ⟨⟨by omega, by omega⟩, ⟨by omega, by omega⟩, fun c1 => ⟨⟨by omega, by omega⟩, ?_⟩, fun c1 => ?_⟩
  · have td2 : Int.tdiv ((j : Int) - 2 * (g : Int) - 1) 2 = (((j - 2 * g - 1) / 2 : Nat) : Int) := by rw [Int.tdiv_eq_ediv_of_nonneg (by omega)]; omega
    rw [td2]
    refine b_X12_powerAt_24 ?_
    rw [tm]
    refine ⟨⟨by omega, by omega⟩, ⟨by omega, by omega⟩, fun _ => b_X12_powerAt_37 (lp Y _ hX.2 (by omega) (by unfold powA; rw [if_neg (by omega)]) _ 0 (Nat.zero_add _)), fun cc => by omega⟩
  · refine b_X12_powerAt_24 ?_
    rw [tm]
    refine ⟨⟨by omega, by omega⟩, ⟨by omega, by omega⟩, fun cc => by omega, fun _ => b_X12_powerAt_37 (lp 1 _ (by omega) (by omega) (by unfold powA; rw [if_pos (by omega)]) _ 0 (Nat.zero_add _))⟩
theorem sp_X12_underAt {k n : Nat} {x : Wx} {Z : Zt} {Q : Option Value → Wx → Zt → Prop} {b : Nat} {X : Int} (o : Is12 x b) {p : Int} {u : Un} (hp : IsP p ∧ Z b 11 = p) (hU : MU Z b u) (hk : (∀ i : Nat, 0 ≤ u.2 i ∧ u.2 i < p) ∧ u.1 ≤ 90) (hX : 0 ≤ X ∧ X < p) (h : Q (some (i_ (evU p u X))) x Z) : V mX12_underAt k n 0 [some (r_ b), some (i_ X), none, none] [] x Z Q := by
  obtain ⟨hp, b11⟩ := hp
  have hpr := hp.rg
  have lp : ∀ (m : Nat) (v : Int), m ≤ u.1 + 1 → 0 ≤ v ∧ v < p → hor p u.2 X m v = evU p u X → V mX12_underAt k n 7 [some (r_ b), some (i_ X), some (i_ v), some (i_ ((m : Int) - 1))] [] x Z Q := by
    intro m
    induction m with
    | zero =>
      intro v _ hv he
      have he : v = evU p u X := he
      rw [← he] at h
      exact b_X12_underAt_7 o ⟨⟨by omega, by omega⟩, fun _ => h, fun cc => by omega⟩
    | succ m ih =>
      intro v hm hv he
      have e1 : ((m + 1 : Nat) : Int) - 1 = (m : Int) := by omega
      have e2 : Z (b + 12) m = u.2 m := hU.2 m (by omega)
      have r := hk.1 m
      have r2 : 0 ≤ v * X ∧ v * X ≤ 169 := ⟨Int.mul_nonneg hv.1 hX.1, Int.le_trans (Int.mul_le_mul (show v ≤ 13 by omega) (show X ≤ 13 by omega) hX.1 (by decide)) (by decide)⟩
      refine b_X12_underAt_7 o ?_
      rw [e1, Int.toNat_natCast, e2, b11]
      refine ⟨⟨by omega, by omega⟩, fun cc => by omega, fun _ => ⟨by omega, ⟨by omega, by omega⟩, by omega, by omega, ?_⟩⟩
      have := ih ((v * X + u.2 m) % p) (by omega) (emr _ (by omega)) he
      exact this
  refine b_X12_underAt_0 o ?_
  rw [hU.1]
  have := lp (u.1 + 1) 0 (Nat.le_refl _) (by omega) rfl
  rw [show ((u.1 + 1 : Nat) : Int) - 1 = (u.1 : Int) from by omega] at this
  exact this
