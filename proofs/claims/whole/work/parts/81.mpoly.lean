/-! ===== the reference: polynomials ===== -/
theorem dX12_adds_0 : decode cX12_adds 0 = .ok (.iconst 0, 1) := by decide +kernel
theorem dX12_adds_1 : decode cX12_adds 1 = .ok (.istore 5, 2) := by decide +kernel
theorem dX12_adds_3 : decode cX12_adds 3 = .ok (.iload 5, 2) := by decide +kernel
theorem dX12_adds_5 : decode cX12_adds 5 = .ok (.iload 4, 2) := by decide +kernel
theorem dX12_adds_7 : decode cX12_adds 7 = .ok (.iadd, 1) := by decide +kernel
theorem dX12_adds_8 : decode cX12_adds 8 = .ok (.bipush 24, 2) := by decide +kernel
theorem dX12_adds_10 : decode cX12_adds 10 = .ok (.if_icmp .ge 48, 3) := by decide +kernel
theorem dX12_adds_13 : decode cX12_adds 13 = .ok (.aload_n 0, 1) := by decide +kernel
theorem dX12_adds_14 : decode cX12_adds 14 = .ok (.getfield 20, 3) := by decide +kernel
theorem dX12_adds_17 : decode cX12_adds 17 = .ok (.bipush 24, 2) := by decide +kernel
theorem dX12_adds_19 : decode cX12_adds 19 = .ok (.iload_n 1, 1) := by decide +kernel
theorem dX12_adds_20 : decode cX12_adds 20 = .ok (.imul, 1) := by decide +kernel
theorem dX12_adds_21 : decode cX12_adds 21 = .ok (.iload 5, 2) := by decide +kernel
theorem dX12_adds_23 : decode cX12_adds 23 = .ok (.iadd, 1) := by decide +kernel
theorem dX12_adds_24 : decode cX12_adds 24 = .ok (.iload 4, 2) := by decide +kernel
theorem dX12_adds_26 : decode cX12_adds 26 = .ok (.iadd, 1) := by decide +kernel
theorem dX12_adds_27 : decode cX12_adds 27 = .ok (.aload_n 0, 1) := by decide +kernel
theorem dX12_adds_28 : decode cX12_adds 28 = .ok (.aload_n 0, 1) := by decide +kernel
theorem dX12_adds_29 : decode cX12_adds 29 = .ok (.iload_n 1, 1) := by decide +kernel
theorem dX12_adds_30 : decode cX12_adds 30 = .ok (.iload 5, 2) := by decide +kernel
theorem dX12_adds_32 : decode cX12_adds 32 = .ok (.iload 4, 2) := by decide +kernel
theorem dX12_adds_34 : decode cX12_adds 34 = .ok (.iadd, 1) := by decide +kernel
theorem dX12_adds_35 : decode cX12_adds 35 = .ok (.invokevirtual 185, 3) := by decide +kernel
theorem dX12_adds_38 : decode cX12_adds 38 = .ok (.iload_n 3, 1) := by decide +kernel
theorem dX12_adds_39 : decode cX12_adds 39 = .ok (.aload_n 0, 1) := by decide +kernel
theorem dX12_adds_40 : decode cX12_adds 40 = .ok (.iload_n 2, 1) := by decide +kernel
theorem dX12_adds_41 : decode cX12_adds 41 = .ok (.iload 5, 2) := by decide +kernel
theorem dX12_adds_43 : decode cX12_adds 43 = .ok (.invokevirtual 185, 3) := by decide +kernel
theorem dX12_adds_46 : decode cX12_adds 46 = .ok (.imul, 1) := by decide +kernel
theorem dX12_adds_47 : decode cX12_adds 47 = .ok (.iadd, 1) := by decide +kernel
theorem dX12_adds_48 : decode cX12_adds 48 = .ok (.invokevirtual 182, 3) := by decide +kernel
theorem dX12_adds_51 : decode cX12_adds 51 = .ok (.iastore, 1) := by decide +kernel
theorem dX12_adds_52 : decode cX12_adds 52 = .ok (.iinc 5 1, 3) := by decide +kernel
theorem dX12_adds_55 : decode cX12_adds 55 = .ok (.goto (-52), 3) := by decide +kernel
theorem dX12_adds_58 : decode cX12_adds 58 = .ok (.return_, 1) := by decide +kernel
set_option maxRecDepth 20000 in
theorem b_X12_adds_0 {k n : Nat} {x : Wx} {Z : Zt} {Q : Option Value → Wx → Zt → Prop} {a0 : Nat} {v1 : Int} {v2 : Int} {v3 : Int} {v4 : Int} 
    (h : V mX12_adds k n 3 [some (r_ a0), some (i_ v1), some (i_ v2), some (i_ v3), some (i_ v4), some (i_ 0)] [] x Z Q) :
    V mX12_adds k n 0 [some (r_ a0), some (i_ v1), some (i_ v2), some (i_ v3), some (i_ v4), none] [] x Z Q :=
  V_iconst dX12_adds_0 (V_istore (lv' := [some (r_ a0), some (i_ v1), some (i_ v2), some (i_ v3), some (i_ v4), some (i_ 0)]) dX12_adds_1 (Nat.le_of_ble_eq_true rfl) rfl (V_msk [true, true, true, true, true, true] rfl h))
set_option maxRecDepth 20000 in
theorem b_X12_adds_3 {k n : Nat} {x : Wx} {Z : Zt} {Q : Option Value → Wx → Zt → Prop} {a0 : Nat} {v1 : Int} {v2 : Int} {v3 : Int} {v4 : Int} {v5 : Int} (o_a0 : Is12 x a0)
    (h : Rg (v5 + v4) ∧ (((24 ≤ v5 + v4) → (Q none x Z)) ∧ ((v5 + v4 < 24) → ((0 ≤ 24 * v1 + (v5 + v4) ∧ 24 * v1 + (v5 + v4) < 648) ∧ ((0 ≤ 24 * v2 + v5 ∧ 24 * v2 + v5 < 648) ∧ (Rg ((Z (a0 + 4) (24 * v1 + (v5 + v4)).toNat) + (v3 * (Z (a0 + 4) (24 * v2 + v5).toNat))) ∧ 0 < Z a0 11 ∧ Z a0 11 ≤ 13 ∧ (0 ≤ ((24 * v1) + v5) + v4 ∧ ((24 * v1) + v5) + v4 < 648 ∧ (∀ Z1 : Zt, Z1 = up Z (a0 + 4) (((24 * v1) + v5) + v4).toNat (((Z (a0 + 4) (24 * v1 + (v5 + v4)).toNat) + (v3 * (Z (a0 + 4) (24 * v2 + v5).toNat))) % Z a0 11) → (V mX12_adds k n 3 [some (r_ a0), some (i_ v1), some (i_ v2), some (i_ v3), some (i_ v4), some (i_ (v5 + 1))] [] x Z1 Q))))))))) :
    V mX12_adds k n 3 [some (r_ a0), some (i_ v1), some (i_ v2), some (i_ v3), some (i_ v4), some (i_ v5)] [] x Z Q :=
  V_iload dX12_adds_3 rfl (V_iload dX12_adds_5 rfl (V_iadd dX12_adds_7 (V_bipush dX12_adds_8 rfl (V_icmp_ge (tgt := 58) dX12_adds_10 rfl h.1 (rg_c rfl) (fun c1 => V_ret dX12_adds_58 rfl (h.2.1 c1)) (fun c1 => V_aload_n dX12_adds_13 rfl (G_12_10 o_a0.1 o_a0.qR10 lf_12_20 dX12_adds_14 (V_bipush dX12_adds_17 rfl (V_iload_n dX12_adds_19 rfl (V_imul dX12_adds_20 (V_iload dX12_adds_21 rfl (V_iadd dX12_adds_23 (V_iload dX12_adds_24 rfl (V_iadd dX12_adds_26 (V_aload_n dX12_adds_27 rfl (V_aload_n dX12_adds_28 rfl (V_iload_n dX12_adds_29 rfl (V_iload dX12_adds_30 rfl (V_iload dX12_adds_32 rfl (V_iadd dX12_adds_34 (V_callV (k' := 0) (n' := 0) (t := 12) (q := (RX12, TX12, 46)) [i_ v1, i_ (v5 + v4)] [r_ a0, i_ (((24 * v1) + v5) + v4), r_ (a0 + 4)] okX12_at o_a0.1 rfl rfl lm_12_185 liX12_at lqX12_at (Nat.le_of_ble_eq_true rfl) (Nat.le_of_ble_eq_true rfl) (Nat.le_of_ble_eq_true rfl) (cat_of rfl) (Nat.le_of_ble_eq_true rfl) (Nat.zero_le _) (Nat.zero_le _) rfl dX12_adds_35 (sp_X12_at o_a0 (h.2.2 c1).1 (V_iload_n dX12_adds_38 rfl (V_aload_n dX12_adds_39 rfl (V_iload_n dX12_adds_40 rfl (V_iload dX12_adds_41 rfl (V_callV (k' := 0) (n' := 0) (t := 12) (q := (RX12, TX12, 46)) [i_ v2, i_ v5] [i_ v3, i_ (Z (a0 + 4) (24 * v1 + (v5 + v4)).toNat), r_ a0, i_ (((24 * v1) + v5) + v4), r_ (a0 + 4)] okX12_at o_a0.1 rfl rfl lm_12_185 liX12_at lqX12_at (Nat.le_of_ble_eq_true rfl) (Nat.le_of_ble_eq_true rfl) (Nat.le_of_ble_eq_true rfl) (cat_of rfl) (Nat.le_of_ble_eq_true rfl) (Nat.zero_le _) (Nat.zero_le _) rfl dX12_adds_43 (sp_X12_at o_a0 (h.2.2 c1).2.1 (V_imul dX12_adds_46 (V_iadd dX12_adds_47 (V_callV (k' := 0) (n' := 0) (t := 12) (q := (RX12, TX12, 46)) [i_ ((Z (a0 + 4) (24 * v1 + (v5 + v4)).toNat) + (v3 * (Z (a0 + 4) (24 * v2 + v5).toNat)))] [i_ (((24 * v1) + v5) + v4), r_ (a0 + 4)] okX12_mod o_a0.1 rfl rfl lm_12_182 liX12_mod lqX12_mod (Nat.le_of_ble_eq_true rfl) (Nat.le_of_ble_eq_true rfl) (Nat.le_of_ble_eq_true rfl) (cat_of rfl) (Nat.le_of_ble_eq_true rfl) (Nat.zero_le _) (Nat.zero_le _) rfl dX12_adds_48 (sp_X12_mod o_a0 (h.2.2 c1).2.2.1 (h.2.2 c1).2.2.2.1 (h.2.2 c1).2.2.2.2.1 (V_iast (t := 100) o_a0.qK10 (by decide) (by decide) rfl (h.2.2 c1).2.2.2.2.2.1 (h.2.2 c1).2.2.2.2.2.2.1 (Nat.le_of_ble_eq_true rfl) dX12_adds_51 (V_nmZ (fun Z1 eZ1 => V_iinc (lv' := [some (r_ a0), some (i_ v1), some (i_ v2), some (i_ v3), some (i_ v4), some (i_ (v5 + 1))]) dX12_adds_52 rfl (Nat.le_of_ble_eq_true rfl) rfl (V_goto (tgt := 3) dX12_adds_55 rfl (V_msk [true, true, true, true, true, true] rfl ((h.2.2 c1).2.2.2.2.2.2.2 Z1 eZ1)))))))))))))))))))))))))))))))))))))
theorem dX12_value_0 : decode cX12_value 0 = .ok (.iconst 0, 1) := by decide +kernel
theorem dX12_value_1 : decode cX12_value 1 = .ok (.istore_n 3, 1) := by decide +kernel
theorem dX12_value_2 : decode cX12_value 2 = .ok (.bipush 23, 2) := by decide +kernel
theorem dX12_value_4 : decode cX12_value 4 = .ok (.istore 4, 2) := by decide +kernel
theorem dX12_value_6 : decode cX12_value 6 = .ok (.iload 4, 2) := by decide +kernel
theorem dX12_value_8 : decode cX12_value 8 = .ok (.ifCond .lt 25, 3) := by decide +kernel
theorem dX12_value_11 : decode cX12_value 11 = .ok (.aload_n 0, 1) := by decide +kernel
theorem dX12_value_12 : decode cX12_value 12 = .ok (.iload_n 3, 1) := by decide +kernel
theorem dX12_value_13 : decode cX12_value 13 = .ok (.iload_n 2, 1) := by decide +kernel
theorem dX12_value_14 : decode cX12_value 14 = .ok (.imul, 1) := by decide +kernel
theorem dX12_value_15 : decode cX12_value 15 = .ok (.aload_n 0, 1) := by decide +kernel
theorem dX12_value_16 : decode cX12_value 16 = .ok (.iload_n 1, 1) := by decide +kernel
theorem dX12_value_17 : decode cX12_value 17 = .ok (.iload 4, 2) := by decide +kernel
theorem dX12_value_19 : decode cX12_value 19 = .ok (.invokevirtual 185, 3) := by decide +kernel
theorem dX12_value_22 : decode cX12_value 22 = .ok (.iadd, 1) := by decide +kernel
theorem dX12_value_23 : decode cX12_value 23 = .ok (.invokevirtual 182, 3) := by decide +kernel
theorem dX12_value_26 : decode cX12_value 26 = .ok (.istore_n 3, 1) := by decide +kernel
theorem dX12_value_27 : decode cX12_value 27 = .ok (.iinc 4 (-1), 3) := by decide +kernel
theorem dX12_value_30 : decode cX12_value 30 = .ok (.goto (-24), 3) := by decide +kernel
theorem dX12_value_33 : decode cX12_value 33 = .ok (.iload_n 3, 1) := by decide +kernel
theorem dX12_value_34 : decode cX12_value 34 = .ok (.ireturn, 1) := by decide +kernel
set_option maxRecDepth 20000 in
theorem b_X12_value_0 {k n : Nat} {x : Wx} {Z : Zt} {Q : Option Value → Wx → Zt → Prop} {a0 : Nat} {v1 : Int} {v2 : Int} 
    (h : V mX12_value k n 6 [some (r_ a0), some (i_ v1), some (i_ v2), some (i_ 0), some (i_ 23)] [] x Z Q) :
    V mX12_value k n 0 [some (r_ a0), some (i_ v1), some (i_ v2), none, none] [] x Z Q :=
  V_iconst dX12_value_0 (V_istore_n (lv' := [some (r_ a0), some (i_ v1), some (i_ v2), some (i_ 0), none]) dX12_value_1 (Nat.le_of_ble_eq_true rfl) rfl (V_bipush dX12_value_2 rfl (V_istore (lv' := [some (r_ a0), some (i_ v1), some (i_ v2), some (i_ 0), some (i_ 23)]) dX12_value_4 (Nat.le_of_ble_eq_true rfl) rfl (V_msk [true, true, true, true, true] rfl h))))
set_option maxRecDepth 20000 in
theorem b_X12_value_6 {k n : Nat} {x : Wx} {Z : Zt} {Q : Option Value → Wx → Zt → Prop} {a0 : Nat} {v1 : Int} {v2 : Int} {v3 : Int} {v4 : Int} (o_a0 : Is12 x a0)
    (h : Rg v4 ∧ (((v4 < 0) → (Q (some (i_ v3)) x Z)) ∧ ((0 ≤ v4) → ((0 ≤ 24 * v1 + v4 ∧ 24 * v1 + v4 < 648) ∧ (Rg ((v3 * v2) + (Z (a0 + 4) (24 * v1 + v4).toNat)) ∧ 0 < Z a0 11 ∧ Z a0 11 ≤ 13 ∧ (V mX12_value k n 6 [some (r_ a0), some (i_ v1), some (i_ v2), some (i_ (((v3 * v2) + (Z (a0 + 4) (24 * v1 + v4).toNat)) % Z a0 11)), some (i_ (v4 + (-1)))] [] x Z Q)))))) :
    V mX12_value k n 6 [some (r_ a0), some (i_ v1), some (i_ v2), some (i_ v3), some (i_ v4)] [] x Z Q :=
  V_iload dX12_value_6 rfl (V_if_lt (tgt := 33) dX12_value_8 rfl h.1 (fun c1 => V_iload_n dX12_value_33 rfl (V_iret (ty := .int) dX12_value_34 rfl rfl (h.2.1 c1))) (fun c1 => V_aload_n dX12_value_11 rfl (V_iload_n dX12_value_12 rfl (V_iload_n dX12_value_13 rfl (V_imul dX12_value_14 (V_aload_n dX12_value_15 rfl (V_iload_n dX12_value_16 rfl (V_iload dX12_value_17 rfl (V_callV (k' := 0) (n' := 0) (t := 12) (q := (RX12, TX12, 46)) [i_ v1, i_ v4] [i_ (v3 * v2), r_ a0] okX12_at o_a0.1 rfl rfl lm_12_185 liX12_at lqX12_at (Nat.le_of_ble_eq_true rfl) (Nat.le_of_ble_eq_true rfl) (Nat.le_of_ble_eq_true rfl) (cat_of rfl) (Nat.le_of_ble_eq_true rfl) (Nat.zero_le _) (Nat.zero_le _) rfl dX12_value_19 (sp_X12_at o_a0 (h.2.2 c1).1 (V_iadd dX12_value_22 (V_callV (k' := 0) (n' := 0) (t := 12) (q := (RX12, TX12, 46)) [i_ ((v3 * v2) + (Z (a0 + 4) (24 * v1 + v4).toNat))] [] okX12_mod o_a0.1 rfl rfl lm_12_182 liX12_mod lqX12_mod (Nat.le_of_ble_eq_true rfl) (Nat.le_of_ble_eq_true rfl) (Nat.le_of_ble_eq_true rfl) (cat_of rfl) (Nat.le_of_ble_eq_true rfl) (Nat.zero_le _) (Nat.zero_le _) rfl dX12_value_23 (sp_X12_mod o_a0 (h.2.2 c1).2.1 (h.2.2 c1).2.2.1 (h.2.2 c1).2.2.2.1 (V_istore_n (lv' := [some (r_ a0), some (i_ v1), some (i_ v2), some (i_ (((v3 * v2) + (Z (a0 + 4) (24 * v1 + v4).toNat)) % Z a0 11)), some (i_ v4)]) dX12_value_26 (Nat.le_of_ble_eq_true rfl) rfl (V_iinc (lv' := [some (r_ a0), some (i_ v1), some (i_ v2), some (i_ (((v3 * v2) + (Z (a0 + 4) (24 * v1 + v4).toNat)) % Z a0 11)), some (i_ (v4 + (-1)))]) dX12_value_27 rfl (Nat.le_of_ble_eq_true rfl) rfl (V_goto (tgt := 6) dX12_value_30 rfl (V_msk [true, true, true, true, true] rfl (h.2.2 c1).2.2.2.2)))))))))))))))))
theorem mul_bd {t c B : Int} (ht : -c ≤ t ∧ t ≤ c) (hB : 0 ≤ B ∧ B ≤ 13) : -(c * 13) ≤ t * B ∧ t * B ≤ c * 13 := by
  have h1 := Int.mul_le_mul_of_nonneg_right ht.2 hB.1
  have h2 := Int.mul_le_mul_of_nonneg_right ht.1 hB.1
  have hc : 0 ≤ c := by omega
  have h3 := Int.mul_le_mul_of_nonneg_left hB.2 hc
  have h4 : -c * B = -(c * B) := Int.neg_mul c B
  omega
def pads (p : Int) (f g : Nat → Int) (t : Int) (s : Nat) : Nat → Int := fun j => if s ≤ j ∧ j < 24 then (f j + t * g (j - s)) % p else f j
theorem sp_X12_adds {k n : Nat} {x : Wx} {Z : Zt} {Q : Option Value → Wx → Zt → Prop} {b : Nat} {u w t s : Int} (o : Is12 x b) {P : Nat → Nat → Int} {p : Int} (hp : IsP p ∧ Z b 11 = p) (hP : MS Z b P) (hu : (0 ≤ u ∧ u < 27) ∧ (0 ≤ w ∧ w < 27) ∧ u ≠ w) (ht : (-100 ≤ t ∧ t ≤ 100) ∧ 0 ≤ s ∧ s ≤ 24) (hf : InP p (P u.toNat)) (hg : InP p (P w.toNat)) (h : ∀ Z' : Zt, (MS Z' b (updP P u.toNat (pads p (P u.toNat) (P w.toNat) t s.toNat)) ∧ Oth Z Z' (O4 b)) → Q none x Z') : V mX12_adds k n 0 [some (r_ b), some (i_ u), some (i_ w), some (i_ t), some (i_ s), none] [] x Z Q := by
  obtain ⟨hp, hb⟩ := hp
  have hr := hp.rg
  have hb1 : ∀ Z1 : Zt, Oth Z Z1 (O4 b) → Z1 b 11 = p := fun Z1 h1 => by rw [h1 b (by show ¬ (b = b + 4); omega)]; exact hb
  have lp : ∀ (m : Nat) (v : Int) (Z1 : Zt), 0 ≤ v → v + s + m = max 24 s → MS Z1 b (updP P u.toNat (fun j => if s ≤ j ∧ (j : Int) < s + v then (P u.toNat j + t * P w.toNat (j - s.toNat)) % p else P u.toNat j)) → Oth Z Z1 (O4 b) → V mX12_adds k n 3 [some (r_ b), some (i_ u), some (i_ w), some (i_ t), some (i_ s), some (i_ v)] [] x Z1 Q := by
    intro m
    induction m with
    | zero =>
      intro v Z1 h0 h1 hM hO
      refine b_X12_adds_3 o ⟨⟨by omega, by omega⟩, fun _ => h Z1 ⟨hM.eq (fun q i hq hi => ?_), hO⟩, fun c => by omega⟩
      unfold updP; split
      · unfold pads
        by_cases c : s.toNat ≤ i
        · rw [if_pos ⟨c, hi⟩]; show (if s ≤ i ∧ (i : Int) < s + v then _ else _) = _; rw [if_pos ⟨by omega, by omega⟩]
        · rw [if_neg (fun q => c q.1)]; show (if s ≤ i ∧ (i : Int) < s + v then _ else _) = _; rw [if_neg (by omega)]
      · rfl
    | succ m ih =>
      intro v Z1 h0 h1 hM hO
      by_cases c : v + s < 24
      · have eu := hM.at hu.1 (i := v + s) (by omega)
        have ew := hM.at hu.2.1 (i := v) (by omega)
        have eu2 : updP P u.toNat (fun j => if s ≤ j ∧ (j : Int) < s + v then (P u.toNat j + t * P w.toNat (j - s.toNat)) % p else P u.toNat j) u.toNat (v + s).toNat = P u.toNat (v + s).toNat := by
          rw [updP_s]; show (if s ≤ ((v + s).toNat : Int) ∧ ((v + s).toNat : Int) < s + v then _ else _) = _; rw [if_neg (by omega)]
        have ew2 : updP P u.toNat (fun j => if s ≤ j ∧ (j : Int) < s + v then (P u.toNat j + t * P w.toNat (j - s.toNat)) % p else P u.toNat j) w.toNat v.toNat = P w.toNat v.toNat := by rw [updP_n _ _ (by omega)]
        rw [eu2] at eu; rw [ew2] at ew
        have bu := hf (v + s).toNat
        have bw := hg v.toNat
        have bm := mul_bd (c := 100) (B := P w.toNat v.toNat) ht.1 (by omega)
        refine b_X12_adds_3 o ⟨⟨by omega, by omega⟩, fun c2 => by omega, fun _ => ⟨by omega, by omega, by rw [eu, ew]; exact ⟨by omega, by omega⟩, by rw [hb1 Z1 hO]; omega, by rw [hb1 Z1 hO]; omega, by omega, by omega, fun Z2 e2 => ?_⟩⟩
        rw [eu, ew, hb1 Z1 hO, show ((24 * u) + v) + s = 24 * u + (v + s) from by omega] at e2
        have g := hM.put hu.1 (i := v + s) (by omega) e2
        refine ih (v + 1) Z2 (by omega) (by omega) (g.1.eq (fun q i hq hi => ?_)) (hO.tr g.2)
        unfold putP updP
        by_cases c2 : q = u.toNat
        · rw [if_pos c2, if_pos c2, if_pos rfl]
          by_cases c3 : i = (v + s).toNat
          · rw [if_pos c3, if_pos ⟨by omega, by omega⟩, c3, show (v + s).toNat - s.toNat = v.toNat from by omega]
          · rw [if_neg c3]
            by_cases c4 : s ≤ i ∧ (i : Int) < s + v
            · rw [if_pos c4, if_pos (by omega)]
            · rw [if_neg c4, if_neg (by omega)]
        · rw [if_neg c2, if_neg c2, if_neg c2]
      · omega
  exact b_X12_adds_0 (lp (max 24 s - s).toNat 0 Z (by decide) (by omega) (hP.eq (fun q i hq hi => by
    unfold updP; split
    · rename_i c; show _ = (if s ≤ i ∧ (i : Int) < s + 0 then _ else _); rw [if_neg (by omega), c]
    · rfl)) Oth.rf)
theorem sp_X12_value {k n : Nat} {x : Wx} {Z : Zt} {Q : Option Value → Wx → Zt → Prop} {b : Nat} {u X : Int} (o : Is12 x b) {P : Nat → Nat → Int} {p : Int} (hp : IsP p ∧ Z b 11 = p) (hP : MS Z b P) (hu : 0 ≤ u ∧ u < 27) (hX : 0 ≤ X ∧ X ≤ 13) (hf : InP p (P u.toNat)) (h : Q (some (i_ (ev p (P u.toNat) X))) x Z) : V mX12_value k n 0 [some (r_ b), some (i_ u), some (i_ X), none, none] [] x Z Q := by
  obtain ⟨hp, hb⟩ := hp
  have hr := hp.rg
  have lp : ∀ (m : Nat) (v : Int), m ≤ 24 → 0 ≤ v ∧ v < p → hor p (P u.toNat) X m v = ev p (P u.toNat) X → V mX12_value k n 6 [some (r_ b), some (i_ u), some (i_ X), some (i_ v), some (i_ ((m : Int) - 1))] [] x Z Q := by
    intro m
    induction m with
    | zero =>
      intro v _ _ he
      refine b_X12_value_6 o ⟨⟨by omega, by omega⟩, fun _ => ?_, fun c => by omega⟩
      have : v = ev p (P u.toNat) X := he
      rw [this]; exact h
    | succ m ih =>
      intro v hm hv he
      have e := hP.at hu (i := ((m + 1 : Nat) : Int) - 1) (by omega)
      rw [show (((m + 1 : Nat) : Int) - 1).toNat = m from by omega] at e
      have bu := hf m
      have bm := mul_bd (t := v) (c := 13) (B := X) (by omega) hX
      refine b_X12_value_6 o ⟨⟨by omega, by omega⟩, fun c => by omega, fun c => ⟨by omega, by rw [e]; exact ⟨by omega, by omega⟩, by omega, by omega, ?_⟩⟩
      rw [e, hb, show ((m + 1 : Nat) : Int) - 1 + (-1) = (m : Int) - 1 from by omega]
      exact ih _ (by omega) (emr _ (by omega)) he
  exact b_X12_value_0 (lp 24 0 (by decide) ⟨by decide, by omega⟩ rfl)
theorem dX12_product_0 : decode cX12_product 0 = .ok (.aload_n 0, 1) := by decide +kernel
theorem dX12_product_1 : decode cX12_product 1 = .ok (.iload_n 3, 1) := by decide +kernel
theorem dX12_product_2 : decode cX12_product 2 = .ok (.invokevirtual 188, 3) := by decide +kernel
theorem dX12_product_5 : decode cX12_product 5 = .ok (.iconst 0, 1) := by decide +kernel
theorem dX12_product_6 : decode cX12_product 6 = .ok (.istore 4, 2) := by decide +kernel
theorem dX12_product_8 : decode cX12_product 8 = .ok (.iload 4, 2) := by decide +kernel
theorem dX12_product_10 : decode cX12_product 10 = .ok (.aload_n 0, 1) := by decide +kernel
theorem dX12_product_11 : decode cX12_product 11 = .ok (.iload_n 1, 1) := by decide +kernel
theorem dX12_product_12 : decode cX12_product 12 = .ok (.invokevirtual 192, 3) := by decide +kernel
theorem dX12_product_15 : decode cX12_product 15 = .ok (.if_icmp .gt 24, 3) := by decide +kernel
theorem dX12_product_18 : decode cX12_product 18 = .ok (.aload_n 0, 1) := by decide +kernel
theorem dX12_product_19 : decode cX12_product 19 = .ok (.iload_n 3, 1) := by decide +kernel
theorem dX12_product_20 : decode cX12_product 20 = .ok (.iload_n 2, 1) := by decide +kernel
theorem dX12_product_21 : decode cX12_product 21 = .ok (.aload_n 0, 1) := by decide +kernel
theorem dX12_product_22 : decode cX12_product 22 = .ok (.iload_n 1, 1) := by decide +kernel
theorem dX12_product_23 : decode cX12_product 23 = .ok (.iload 4, 2) := by decide +kernel
theorem dX12_product_25 : decode cX12_product 25 = .ok (.invokevirtual 185, 3) := by decide +kernel
theorem dX12_product_28 : decode cX12_product 28 = .ok (.iload 4, 2) := by decide +kernel
theorem dX12_product_30 : decode cX12_product 30 = .ok (.invokevirtual 195, 3) := by decide +kernel
theorem dX12_product_33 : decode cX12_product 33 = .ok (.iinc 4 1, 3) := by decide +kernel
theorem dX12_product_36 : decode cX12_product 36 = .ok (.goto (-28), 3) := by decide +kernel
theorem dX12_product_39 : decode cX12_product 39 = .ok (.return_, 1) := by decide +kernel
set_option maxRecDepth 20000 in
theorem b_X12_product_0 {k n : Nat} {x : Wx} {Z : Zt} {Q : Option Value → Wx → Zt → Prop} {a0 : Nat} {v1 : Int} {v2 : Int} {v3 : Int} (o_a0 : Is12 x a0)
    (h : ∃ g1 : Nat → Nat → Int, (MS Z a0 g1 ∧ (0 ≤ v3 ∧ v3 < 27) ∧ (∀ (Z'1 : Zt), (MS Z'1 a0 (updP g1 v3.toNat pzero) ∧ Oth Z Z'1 (O4 a0)) → (V mX12_product k n 8 [some (r_ a0), some (i_ v1), some (i_ v2), some (i_ v3), some (i_ 0)] [] x Z'1 Q)))) :
    V mX12_product k n 0 [some (r_ a0), some (i_ v1), some (i_ v2), some (i_ v3), none] [] x Z Q :=
  V_aload_n dX12_product_0 rfl (V_iload_n dX12_product_1 rfl (Exists.elim h (fun g1 w1 => V_callV (k' := 0) (n' := 0) (t := 12) (q := (RX12, TX12, 46)) [i_ v3] [] okX12_zero o_a0.1 rfl rfl lm_12_188 liX12_zero lqX12_zero (Nat.le_of_ble_eq_true rfl) (Nat.le_of_ble_eq_true rfl) (Nat.le_of_ble_eq_true rfl) (cat_of rfl) (Nat.le_of_ble_eq_true rfl) (Nat.zero_le _) (Nat.zero_le _) rfl dX12_product_2 (sp_X12_zero o_a0 w1.1 w1.2.1 (fun Z'1 p1 => V_iconst dX12_product_5 (V_istore (lv' := [some (r_ a0), some (i_ v1), some (i_ v2), some (i_ v3), some (i_ 0)]) dX12_product_6 (Nat.le_of_ble_eq_true rfl) rfl (V_msk [true, true, true, true, true] rfl (w1.2.2 Z'1 p1))))))))
set_option maxRecDepth 20000 in
theorem b_X12_product_8 {k n : Nat} {x : Wx} {Z : Zt} {Q : Option Value → Wx → Zt → Prop} {a0 : Nat} {v1 : Int} {v2 : Int} {v3 : Int} {v4 : Int} (o_a0 : Is12 x a0)
    (h : ∃ g1 : Nat → Nat → Int, (MS Z a0 g1 ∧ (0 ≤ v1 ∧ v1 < 27) ∧ (∀ i : Nat, i < 24 → Rg (g1 v1.toNat i)) ∧ (Rg v4 ∧ Rg (pd (g1 v1.toNat)) ∧ (((pd (g1 v1.toNat) < v4) → (Q none x Z)) ∧ ((v4 ≤ pd (g1 v1.toNat)) → ((0 ≤ 24 * v1 + v4 ∧ 24 * v1 + v4 < 648) ∧ (∃ g2 : Nat → Nat → Int, (∃ g3 : Int, ((IsP g3 ∧ Z a0 11 = g3) ∧ MS Z a0 g2 ∧ ((0 ≤ v3 ∧ v3 < 27) ∧ (0 ≤ v2 ∧ v2 < 27) ∧ v3 ≠ v2) ∧ ((-100 ≤ (Z (a0 + 4) (24 * v1 + v4).toNat) ∧ (Z (a0 + 4) (24 * v1 + v4).toNat) ≤ 100) ∧ 0 ≤ v4 ∧ v4 ≤ 24) ∧ InP g3 (g2 v3.toNat) ∧ InP g3 (g2 v2.toNat) ∧ (∀ (Z'1 : Zt), (MS Z'1 a0 (updP g2 v3.toNat (pads g3 (g2 v3.toNat) (g2 v2.toNat) (Z (a0 + 4) (24 * v1 + v4).toNat) v4.toNat)) ∧ Oth Z Z'1 (O4 a0)) → (V mX12_product k n 8 [some (r_ a0), some (i_ v1), some (i_ v2), some (i_ v3), some (i_ (v4 + 1))] [] x Z'1 Q))))))))))) :
    V mX12_product k n 8 [some (r_ a0), some (i_ v1), some (i_ v2), some (i_ v3), some (i_ v4)] [] x Z Q :=
  V_iload dX12_product_8 rfl (V_aload_n dX12_product_10 rfl (V_iload_n dX12_product_11 rfl (Exists.elim h (fun g1 w1 => V_callV (k' := 0) (n' := 0) (t := 12) (q := (RX12, TX12, 46)) [i_ v1] [i_ v4] okX12_deg o_a0.1 rfl rfl lm_12_192 liX12_deg lqX12_deg (Nat.le_of_ble_eq_true rfl) (Nat.le_of_ble_eq_true rfl) (Nat.le_of_ble_eq_true rfl) (cat_of rfl) (Nat.le_of_ble_eq_true rfl) (Nat.zero_le _) (Nat.zero_le _) rfl dX12_product_12 (sp_X12_deg o_a0 w1.1 w1.2.1 w1.2.2.1 (V_icmp_gt (tgt := 39) dX12_product_15 rfl w1.2.2.2.1 w1.2.2.2.2.1 (fun c1 => V_ret dX12_product_39 rfl (w1.2.2.2.2.2.1 c1)) (fun c1 => V_aload_n dX12_product_18 rfl (V_iload_n dX12_product_19 rfl (V_iload_n dX12_product_20 rfl (V_aload_n dX12_product_21 rfl (V_iload_n dX12_product_22 rfl (V_iload dX12_product_23 rfl (V_callV (k' := 0) (n' := 0) (t := 12) (q := (RX12, TX12, 46)) [i_ v1, i_ v4] [i_ v2, i_ v3, r_ a0] okX12_at o_a0.1 rfl rfl lm_12_185 liX12_at lqX12_at (Nat.le_of_ble_eq_true rfl) (Nat.le_of_ble_eq_true rfl) (Nat.le_of_ble_eq_true rfl) (cat_of rfl) (Nat.le_of_ble_eq_true rfl) (Nat.zero_le _) (Nat.zero_le _) rfl dX12_product_25 (sp_X12_at o_a0 (w1.2.2.2.2.2.2 c1).1 (V_iload dX12_product_28 rfl (Exists.elim (w1.2.2.2.2.2.2 c1).2 (fun g2 w2 => Exists.elim w2 (fun g3 w3 => V_callV (k' := 0) (n' := 0) (t := 12) (q := (RX12, TX12, 46)) [i_ v3, i_ v2, i_ (Z (a0 + 4) (24 * v1 + v4).toNat), i_ v4] [] okX12_adds o_a0.1 rfl rfl lm_12_195 liX12_adds lqX12_adds (Nat.le_of_ble_eq_true rfl) (Nat.le_of_ble_eq_true rfl) (Nat.le_of_ble_eq_true rfl) (cat_of rfl) (Nat.le_of_ble_eq_true rfl) (Nat.zero_le _) (Nat.zero_le _) rfl dX12_product_30 (sp_X12_adds o_a0 w3.1 w3.2.1 w3.2.2.1 w3.2.2.2.1 w3.2.2.2.2.1 w3.2.2.2.2.2.1 (fun Z'1 p1 => V_iinc (lv' := [some (r_ a0), some (i_ v1), some (i_ v2), some (i_ v3), some (i_ (v4 + 1))]) dX12_product_33 rfl (Nat.le_of_ble_eq_true rfl) rfl (V_goto (tgt := 8) dX12_product_36 rfl (V_msk [true, true, true, true, true] rfl (w3.2.2.2.2.2.2 Z'1 p1)))))))))))))))))))))))
theorem dX12_scaled_0 : decode cX12_scaled 0 = .ok (.aload_n 0, 1) := by decide +kernel
theorem dX12_scaled_1 : decode cX12_scaled 1 = .ok (.iload_n 3, 1) := by decide +kernel
theorem dX12_scaled_2 : decode cX12_scaled 2 = .ok (.invokevirtual 188, 3) := by decide +kernel
theorem dX12_scaled_5 : decode cX12_scaled 5 = .ok (.aload_n 0, 1) := by decide +kernel
theorem dX12_scaled_6 : decode cX12_scaled 6 = .ok (.iload_n 3, 1) := by decide +kernel
theorem dX12_scaled_7 : decode cX12_scaled 7 = .ok (.iload_n 1, 1) := by decide +kernel
theorem dX12_scaled_8 : decode cX12_scaled 8 = .ok (.iload_n 2, 1) := by decide +kernel
theorem dX12_scaled_9 : decode cX12_scaled 9 = .ok (.iconst 0, 1) := by decide +kernel
theorem dX12_scaled_10 : decode cX12_scaled 10 = .ok (.invokevirtual 195, 3) := by decide +kernel
theorem dX12_scaled_13 : decode cX12_scaled 13 = .ok (.return_, 1) := by decide +kernel
set_option maxRecDepth 20000 in
theorem b_X12_scaled_0 {k n : Nat} {x : Wx} {Z : Zt} {Q : Option Value → Wx → Zt → Prop} {a0 : Nat} {v1 : Int} {v2 : Int} {v3 : Int} (o_a0 : Is12 x a0)
    (h : ∃ g1 : Nat → Nat → Int, (MS Z a0 g1 ∧ (0 ≤ v3 ∧ v3 < 27) ∧ (∀ (Z'1 : Zt), (MS Z'1 a0 (updP g1 v3.toNat pzero) ∧ Oth Z Z'1 (O4 a0)) → (∃ g2 : Nat → Nat → Int, (∃ g3 : Int, ((IsP g3 ∧ Z'1 a0 11 = g3) ∧ MS Z'1 a0 g2 ∧ ((0 ≤ v3 ∧ v3 < 27) ∧ (0 ≤ v1 ∧ v1 < 27) ∧ v3 ≠ v1) ∧ ((-100 ≤ v2 ∧ v2 ≤ 100) ∧ 0 ≤ (0 : Int) ∧ (0 : Int) ≤ 24) ∧ InP g3 (g2 v3.toNat) ∧ InP g3 (g2 v1.toNat) ∧ (∀ (Z'2 : Zt), (MS Z'2 a0 (updP g2 v3.toNat (pads g3 (g2 v3.toNat) (g2 v1.toNat) v2 (0 : Int).toNat)) ∧ Oth Z'1 Z'2 (O4 a0)) → (Q none x Z'2)))))))) :
    V mX12_scaled k n 0 [some (r_ a0), some (i_ v1), some (i_ v2), some (i_ v3)] [] x Z Q :=
  V_aload_n dX12_scaled_0 rfl (V_iload_n dX12_scaled_1 rfl (Exists.elim h (fun g1 w1 => V_callV (k' := 0) (n' := 0) (t := 12) (q := (RX12, TX12, 46)) [i_ v3] [] okX12_zero o_a0.1 rfl rfl lm_12_188 liX12_zero lqX12_zero (Nat.le_of_ble_eq_true rfl) (Nat.le_of_ble_eq_true rfl) (Nat.le_of_ble_eq_true rfl) (cat_of rfl) (Nat.le_of_ble_eq_true rfl) (Nat.zero_le _) (Nat.zero_le _) rfl dX12_scaled_2 (sp_X12_zero o_a0 w1.1 w1.2.1 (fun Z'1 p1 => V_aload_n dX12_scaled_5 rfl (V_iload_n dX12_scaled_6 rfl (V_iload_n dX12_scaled_7 rfl (V_iload_n dX12_scaled_8 rfl (V_iconst dX12_scaled_9 (Exists.elim (w1.2.2 Z'1 p1) (fun g2 w2 => Exists.elim w2 (fun g3 w3 => V_callV (k' := 0) (n' := 0) (t := 12) (q := (RX12, TX12, 46)) [i_ v3, i_ v1, i_ v2, i_ 0] [] okX12_adds o_a0.1 rfl rfl lm_12_195 liX12_adds lqX12_adds (Nat.le_of_ble_eq_true rfl) (Nat.le_of_ble_eq_true rfl) (Nat.le_of_ble_eq_true rfl) (cat_of rfl) (Nat.le_of_ble_eq_true rfl) (Nat.zero_le _) (Nat.zero_le _) rfl dX12_scaled_10 (sp_X12_adds o_a0 w3.1 w3.2.1 w3.2.2.1 w3.2.2.2.1 w3.2.2.2.2.1 w3.2.2.2.2.2.1 (fun Z'2 p2 => V_ret dX12_scaled_13 rfl (w3.2.2.2.2.2.2 Z'2 p2)))))))))))))))
theorem dX12_divides_0 : decode cX12_divides 0 = .ok (.aload_n 0, 1) := by decide +kernel
theorem dX12_divides_1 : decode cX12_divides 1 = .ok (.iload_n 3, 1) := by decide +kernel
theorem dX12_divides_2 : decode cX12_divides 2 = .ok (.invokevirtual 188, 3) := by decide +kernel
theorem dX12_divides_5 : decode cX12_divides 5 = .ok (.aload_n 0, 1) := by decide +kernel
theorem dX12_divides_6 : decode cX12_divides 6 = .ok (.iload_n 1, 1) := by decide +kernel
theorem dX12_divides_7 : decode cX12_divides 7 = .ok (.iload 4, 2) := by decide +kernel
theorem dX12_divides_9 : decode cX12_divides 9 = .ok (.invokevirtual 199, 3) := by decide +kernel
theorem dX12_divides_12 : decode cX12_divides 12 = .ok (.aload_n 0, 1) := by decide +kernel
theorem dX12_divides_13 : decode cX12_divides 13 = .ok (.iload_n 2, 1) := by decide +kernel
theorem dX12_divides_14 : decode cX12_divides 14 = .ok (.invokevirtual 192, 3) := by decide +kernel
theorem dX12_divides_17 : decode cX12_divides 17 = .ok (.istore 5, 2) := by decide +kernel
theorem dX12_divides_19 : decode cX12_divides 19 = .ok (.aload_n 0, 1) := by decide +kernel
theorem dX12_divides_20 : decode cX12_divides 20 = .ok (.aload_n 0, 1) := by decide +kernel
theorem dX12_divides_21 : decode cX12_divides 21 = .ok (.iload_n 2, 1) := by decide +kernel
theorem dX12_divides_22 : decode cX12_divides 22 = .ok (.iload 5, 2) := by decide +kernel
theorem dX12_divides_24 : decode cX12_divides 24 = .ok (.invokevirtual 185, 3) := by decide +kernel
theorem dX12_divides_27 : decode cX12_divides 27 = .ok (.invokevirtual 202, 3) := by decide +kernel
theorem dX12_divides_30 : decode cX12_divides 30 = .ok (.istore 6, 2) := by decide +kernel
theorem dX12_divides_32 : decode cX12_divides 32 = .ok (.aload_n 0, 1) := by decide +kernel
theorem dX12_divides_33 : decode cX12_divides 33 = .ok (.iload 4, 2) := by decide +kernel
theorem dX12_divides_35 : decode cX12_divides 35 = .ok (.invokevirtual 192, 3) := by decide +kernel
theorem dX12_divides_38 : decode cX12_divides 38 = .ok (.iload 5, 2) := by decide +kernel
theorem dX12_divides_40 : decode cX12_divides 40 = .ok (.if_icmp .lt 64, 3) := by decide +kernel
theorem dX12_divides_43 : decode cX12_divides 43 = .ok (.aload_n 0, 1) := by decide +kernel
theorem dX12_divides_44 : decode cX12_divides 44 = .ok (.iload 4, 2) := by decide +kernel
theorem dX12_divides_46 : decode cX12_divides 46 = .ok (.invokevirtual 192, 3) := by decide +kernel
theorem dX12_divides_49 : decode cX12_divides 49 = .ok (.iload 5, 2) := by decide +kernel
theorem dX12_divides_51 : decode cX12_divides 51 = .ok (.isub, 1) := by decide +kernel
theorem dX12_divides_52 : decode cX12_divides 52 = .ok (.istore 7, 2) := by decide +kernel
theorem dX12_divides_54 : decode cX12_divides 54 = .ok (.aload_n 0, 1) := by decide +kernel
theorem dX12_divides_55 : decode cX12_divides 55 = .ok (.aload_n 0, 1) := by decide +kernel
theorem dX12_divides_56 : decode cX12_divides 56 = .ok (.iload 4, 2) := by decide +kernel
theorem dX12_divides_58 : decode cX12_divides 58 = .ok (.aload_n 0, 1) := by decide +kernel
theorem dX12_divides_59 : decode cX12_divides 59 = .ok (.iload 4, 2) := by decide +kernel
theorem dX12_divides_61 : decode cX12_divides 61 = .ok (.invokevirtual 192, 3) := by decide +kernel
theorem dX12_divides_64 : decode cX12_divides 64 = .ok (.invokevirtual 185, 3) := by decide +kernel
theorem dX12_divides_67 : decode cX12_divides 67 = .ok (.iload 6, 2) := by decide +kernel
theorem dX12_divides_69 : decode cX12_divides 69 = .ok (.imul, 1) := by decide +kernel
theorem dX12_divides_70 : decode cX12_divides 70 = .ok (.invokevirtual 182, 3) := by decide +kernel
theorem dX12_divides_73 : decode cX12_divides 73 = .ok (.istore 8, 2) := by decide +kernel
theorem dX12_divides_75 : decode cX12_divides 75 = .ok (.aload_n 0, 1) := by decide +kernel
theorem dX12_divides_76 : decode cX12_divides 76 = .ok (.getfield 20, 3) := by decide +kernel
theorem dX12_divides_79 : decode cX12_divides 79 = .ok (.bipush 24, 2) := by decide +kernel
theorem dX12_divides_81 : decode cX12_divides 81 = .ok (.iload_n 3, 1) := by decide +kernel
theorem dX12_divides_82 : decode cX12_divides 82 = .ok (.imul, 1) := by decide +kernel
theorem dX12_divides_83 : decode cX12_divides 83 = .ok (.iload 7, 2) := by decide +kernel
theorem dX12_divides_85 : decode cX12_divides 85 = .ok (.iadd, 1) := by decide +kernel
theorem dX12_divides_86 : decode cX12_divides 86 = .ok (.iload 8, 2) := by decide +kernel
theorem dX12_divides_88 : decode cX12_divides 88 = .ok (.iastore, 1) := by decide +kernel
theorem dX12_divides_89 : decode cX12_divides 89 = .ok (.aload_n 0, 1) := by decide +kernel
theorem dX12_divides_90 : decode cX12_divides 90 = .ok (.iload 4, 2) := by decide +kernel
theorem dX12_divides_92 : decode cX12_divides 92 = .ok (.iload_n 2, 1) := by decide +kernel
theorem dX12_divides_93 : decode cX12_divides 93 = .ok (.iload 8, 2) := by decide +kernel
theorem dX12_divides_95 : decode cX12_divides 95 = .ok (.ineg, 1) := by decide +kernel
theorem dX12_divides_96 : decode cX12_divides 96 = .ok (.iload 7, 2) := by decide +kernel
theorem dX12_divides_98 : decode cX12_divides 98 = .ok (.invokevirtual 195, 3) := by decide +kernel
theorem dX12_divides_101 : decode cX12_divides 101 = .ok (.goto (-69), 3) := by decide +kernel
theorem dX12_divides_104 : decode cX12_divides 104 = .ok (.return_, 1) := by decide +kernel
set_option maxRecDepth 20000 in
theorem b_X12_divides_0 {k n : Nat} {x : Wx} {Z : Zt} {Q : Option Value → Wx → Zt → Prop} {a0 : Nat} {v1 : Int} {v2 : Int} {v3 : Int} {v4 : Int} (o_a0 : Is12 x a0)
    (h : ∃ g1 : Nat → Nat → Int, (MS Z a0 g1 ∧ (0 ≤ v3 ∧ v3 < 27) ∧ (∀ (Z'1 : Zt), (MS Z'1 a0 (updP g1 v3.toNat pzero) ∧ Oth Z Z'1 (O4 a0)) → (∃ g2 : Nat → Nat → Int, (MS Z'1 a0 g2 ∧ (0 ≤ v4 ∧ v4 < 27) ∧ (0 ≤ v1 ∧ v1 < 27) ∧ (∀ (Z'2 : Zt), (MS Z'2 a0 (updP g2 v4.toNat (g2 v1.toNat)) ∧ Oth Z'1 Z'2 (O4 a0)) → (∃ g3 : Nat → Nat → Int, (MS Z'2 a0 g3 ∧ (0 ≤ v2 ∧ v2 < 27) ∧ (∀ i : Nat, i < 24 → Rg (g3 v2.toNat i)) ∧ ((0 ≤ 24 * v2 + (pd (g3 v2.toNat)) ∧ 24 * v2 + (pd (g3 v2.toNat)) < 648) ∧ (∃ g4 : Int, ((IsP g4 ∧ Z'2 a0 11 = g4) ∧ (0 < (Z'2 (a0 + 4) (24 * v2 + (pd (g3 v2.toNat))).toNat) ∧ (Z'2 (a0 + 4) (24 * v2 + (pd (g3 v2.toNat))).toNat) < g4) ∧ (V mX12_divides k n 32 [some (r_ a0), none, some (i_ v2), some (i_ v3), some (i_ v4), some (i_ (pd (g3 v2.toNat))), some (i_ (inv g4 (Z'2 (a0 + 4) (24 * v2 + (pd (g3 v2.toNat))).toNat))), none, none] [] x Z'2 Q)))))))))))) :
    V mX12_divides k n 0 [some (r_ a0), some (i_ v1), some (i_ v2), some (i_ v3), some (i_ v4), none, none, none, none] [] x Z Q :=
  V_aload_n dX12_divides_0 rfl (V_iload_n dX12_divides_1 rfl (Exists.elim h (fun g1 w1 => V_callV (k' := 0) (n' := 0) (t := 12) (q := (RX12, TX12, 46)) [i_ v3] [] okX12_zero o_a0.1 rfl rfl lm_12_188 liX12_zero lqX12_zero (Nat.le_of_ble_eq_true rfl) (Nat.le_of_ble_eq_true rfl) (Nat.le_of_ble_eq_true rfl) (cat_of rfl) (Nat.le_of_ble_eq_true rfl) (Nat.zero_le _) (Nat.zero_le _) rfl dX12_divides_2 (sp_X12_zero o_a0 w1.1 w1.2.1 (fun Z'1 p1 => V_aload_n dX12_divides_5 rfl (V_iload_n dX12_divides_6 rfl (V_iload dX12_divides_7 rfl (Exists.elim (w1.2.2 Z'1 p1) (fun g2 w2 => V_callV (k' := 0) (n' := 0) (t := 12) (q := (RX12, TX12, 46)) [i_ v1, i_ v4] [] okX12_copy o_a0.1 rfl rfl lm_12_199 liX12_copy lqX12_copy (Nat.le_of_ble_eq_true rfl) (Nat.le_of_ble_eq_true rfl) (Nat.le_of_ble_eq_true rfl) (cat_of rfl) (Nat.le_of_ble_eq_true rfl) (Nat.zero_le _) (Nat.zero_le _) rfl dX12_divides_9 (sp_X12_copy o_a0 w2.1 w2.2.1 w2.2.2.1 (fun Z'2 p2 => V_aload_n dX12_divides_12 rfl (V_iload_n dX12_divides_13 rfl (Exists.elim (w2.2.2.2 Z'2 p2) (fun g3 w3 => V_callV (k' := 0) (n' := 0) (t := 12) (q := (RX12, TX12, 46)) [i_ v2] [] okX12_deg o_a0.1 rfl rfl lm_12_192 liX12_deg lqX12_deg (Nat.le_of_ble_eq_true rfl) (Nat.le_of_ble_eq_true rfl) (Nat.le_of_ble_eq_true rfl) (cat_of rfl) (Nat.le_of_ble_eq_true rfl) (Nat.zero_le _) (Nat.zero_le _) rfl dX12_divides_14 (sp_X12_deg o_a0 w3.1 w3.2.1 w3.2.2.1 (V_istore (lv' := [some (r_ a0), some (i_ v1), some (i_ v2), some (i_ v3), some (i_ v4), some (i_ (pd (g3 v2.toNat))), none, none, none]) dX12_divides_17 (Nat.le_of_ble_eq_true rfl) rfl (V_aload_n dX12_divides_19 rfl (V_aload_n dX12_divides_20 rfl (V_iload_n dX12_divides_21 rfl (V_iload dX12_divides_22 rfl (V_callV (k' := 0) (n' := 0) (t := 12) (q := (RX12, TX12, 46)) [i_ v2, i_ (pd (g3 v2.toNat))] [r_ a0] okX12_at o_a0.1 rfl rfl lm_12_185 liX12_at lqX12_at (Nat.le_of_ble_eq_true rfl) (Nat.le_of_ble_eq_true rfl) (Nat.le_of_ble_eq_true rfl) (cat_of rfl) (Nat.le_of_ble_eq_true rfl) (Nat.zero_le _) (Nat.zero_le _) rfl dX12_divides_24 (sp_X12_at o_a0 w3.2.2.2.1 (Exists.elim w3.2.2.2.2 (fun g4 w4 => V_callV (k' := 0) (n' := 0) (t := 12) (q := (RX12, TX12, 46)) [i_ (Z'2 (a0 + 4) (24 * v2 + (pd (g3 v2.toNat))).toNat)] [] okX12_inverse o_a0.1 rfl rfl lm_12_202 liX12_inverse lqX12_inverse (Nat.le_of_ble_eq_true rfl) (Nat.le_of_ble_eq_true rfl) (Nat.le_of_ble_eq_true rfl) (cat_of rfl) (Nat.le_of_ble_eq_true rfl) (Nat.zero_le _) (Nat.zero_le _) rfl dX12_divides_27 (sp_X12_inverse o_a0 w4.1 w4.2.1 (V_istore (lv' := [some (r_ a0), some (i_ v1), some (i_ v2), some (i_ v3), some (i_ v4), some (i_ (pd (g3 v2.toNat))), some (i_ (inv g4 (Z'2 (a0 + 4) (24 * v2 + (pd (g3 v2.toNat))).toNat))), none, none]) dX12_divides_30 (Nat.le_of_ble_eq_true rfl) rfl (V_msk [true, false, true, true, true, true, true, false, false] rfl w4.2.2)))))))))))))))))))))))))))
set_option maxRecDepth 20000 in
theorem b_X12_divides_32 {k n : Nat} {x : Wx} {Z : Zt} {Q : Option Value → Wx → Zt → Prop} {a0 : Nat} {v2 : Int} {v3 : Int} {v4 : Int} {v5 : Int} {v6 : Int} (o_a0 : Is12 x a0)
    (h : ∃ g1 : Nat → Nat → Int, (MS Z a0 g1 ∧ (0 ≤ v4 ∧ v4 < 27) ∧ (∀ i : Nat, i < 24 → Rg (g1 v4.toNat i)) ∧ (Rg (pd (g1 v4.toNat)) ∧ Rg v5 ∧ (((pd (g1 v4.toNat) < v5) → (Q none x Z)) ∧ ((v5 ≤ pd (g1 v4.toNat)) → (∃ g2 : Nat → Nat → Int, (MS Z a0 g2 ∧ (0 ≤ v4 ∧ v4 < 27) ∧ (∀ i : Nat, i < 24 → Rg (g2 v4.toNat i)) ∧ (∃ g3 : Nat → Nat → Int, (MS Z a0 g3 ∧ (0 ≤ v4 ∧ v4 < 27) ∧ (∀ i : Nat, i < 24 → Rg (g3 v4.toNat i)) ∧ ((0 ≤ 24 * v4 + (pd (g3 v4.toNat)) ∧ 24 * v4 + (pd (g3 v4.toNat)) < 648) ∧ (Rg ((Z (a0 + 4) (24 * v4 + (pd (g3 v4.toNat))).toNat) * v6) ∧ 0 < Z a0 11 ∧ Z a0 11 ≤ 13 ∧ (∀ i1 : Int, i1 = ((Z (a0 + 4) (24 * v4 + (pd (g3 v4.toNat))).toNat) * v6) % Z a0 11 → (0 ≤ (24 * v3) + ((pd (g2 v4.toNat)) - v5) ∧ (24 * v3) + ((pd (g2 v4.toNat)) - v5) < 648 ∧ (∀ Z1 : Zt, Z1 = up Z (a0 + 4) ((24 * v3) + ((pd (g2 v4.toNat)) - v5)).toNat i1 → (∃ g4 : Nat → Nat → Int, (∃ g5 : Int, ((IsP g5 ∧ Z1 a0 11 = g5) ∧ MS Z1 a0 g4 ∧ ((0 ≤ v4 ∧ v4 < 27) ∧ (0 ≤ v2 ∧ v2 < 27) ∧ v4 ≠ v2) ∧ ((-100 ≤ (-i1) ∧ (-i1) ≤ 100) ∧ 0 ≤ ((pd (g2 v4.toNat)) - v5) ∧ ((pd (g2 v4.toNat)) - v5) ≤ 24) ∧ InP g5 (g4 v4.toNat) ∧ InP g5 (g4 v2.toNat) ∧ (∀ (Z'1 : Zt), (MS Z'1 a0 (updP g4 v4.toNat (pads g5 (g4 v4.toNat) (g4 v2.toNat) (-i1) ((pd (g2 v4.toNat)) - v5).toNat)) ∧ Oth Z1 Z'1 (O4 a0)) → (V mX12_divides k n 32 [some (r_ a0), none, some (i_ v2), some (i_ v3), some (i_ v4), some (i_ v5), some (i_ v6), none, none] [] x Z'1 Q))))))))))))))))))) :
    V mX12_divides k n 32 [some (r_ a0), none, some (i_ v2), some (i_ v3), some (i_ v4), some (i_ v5), some (i_ v6), none, none] [] x Z Q :=
  V_aload_n dX12_divides_32 rfl (V_iload dX12_divides_33 rfl (Exists.elim h (fun g1 w1 => V_callV (k' := 0) (n' := 0) (t := 12) (q := (RX12, TX12, 46)) [i_ v4] [] okX12_deg o_a0.1 rfl rfl lm_12_192 liX12_deg lqX12_deg (Nat.le_of_ble_eq_true rfl) (Nat.le_of_ble_eq_true rfl) (Nat.le_of_ble_eq_true rfl) (cat_of rfl) (Nat.le_of_ble_eq_true rfl) (Nat.zero_le _) (Nat.zero_le _) rfl dX12_divides_35 (sp_X12_deg o_a0 w1.1 w1.2.1 w1.2.2.1 (V_iload dX12_divides_38 rfl (V_icmp_lt (tgt := 104) dX12_divides_40 rfl w1.2.2.2.1 w1.2.2.2.2.1 (fun c1 => V_ret dX12_divides_104 rfl (w1.2.2.2.2.2.1 c1)) (fun c1 => V_aload_n dX12_divides_43 rfl (V_iload dX12_divides_44 rfl (Exists.elim (w1.2.2.2.2.2.2 c1) (fun g2 w2 => V_callV (k' := 0) (n' := 0) (t := 12) (q := (RX12, TX12, 46)) [i_ v4] [] okX12_deg o_a0.1 rfl rfl lm_12_192 liX12_deg lqX12_deg (Nat.le_of_ble_eq_true rfl) (Nat.le_of_ble_eq_true rfl) (Nat.le_of_ble_eq_true rfl) (cat_of rfl) (Nat.le_of_ble_eq_true rfl) (Nat.zero_le _) (Nat.zero_le _) rfl dX12_divides_46 (sp_X12_deg o_a0 w2.1 w2.2.1 w2.2.2.1 (V_iload dX12_divides_49 rfl (V_isub dX12_divides_51 (V_istore (lv' := [some (r_ a0), none, some (i_ v2), some (i_ v3), some (i_ v4), some (i_ v5), some (i_ v6), some (i_ ((pd (g2 v4.toNat)) - v5)), none]) dX12_divides_52 (Nat.le_of_ble_eq_true rfl) rfl (V_aload_n dX12_divides_54 rfl (V_aload_n dX12_divides_55 rfl (V_iload dX12_divides_56 rfl (V_aload_n dX12_divides_58 rfl (V_iload dX12_divides_59 rfl (Exists.elim w2.2.2.2 (fun g3 w3 => V_callV (k' := 0) (n' := 0) (t := 12) (q := (RX12, TX12, 46)) [i_ v4] [i_ v4, r_ a0, r_ a0] okX12_deg o_a0.1 rfl rfl lm_12_192 liX12_deg lqX12_deg (Nat.le_of_ble_eq_true rfl) (Nat.le_of_ble_eq_true rfl) (Nat.le_of_ble_eq_true rfl) (cat_of rfl) (Nat.le_of_ble_eq_true rfl) (Nat.zero_le _) (Nat.zero_le _) rfl dX12_divides_61 (sp_X12_deg o_a0 w3.1 w3.2.1 w3.2.2.1 (V_callV (k' := 0) (n' := 0) (t := 12) (q := (RX12, TX12, 46)) [i_ v4, i_ (pd (g3 v4.toNat))] [r_ a0] okX12_at o_a0.1 rfl rfl lm_12_185 liX12_at lqX12_at (Nat.le_of_ble_eq_true rfl) (Nat.le_of_ble_eq_true rfl) (Nat.le_of_ble_eq_true rfl) (cat_of rfl) (Nat.le_of_ble_eq_true rfl) (Nat.zero_le _) (Nat.zero_le _) rfl dX12_divides_64 (sp_X12_at o_a0 w3.2.2.2.1 (V_iload dX12_divides_67 rfl (V_imul dX12_divides_69 (V_callV (k' := 0) (n' := 0) (t := 12) (q := (RX12, TX12, 46)) [i_ ((Z (a0 + 4) (24 * v4 + (pd (g3 v4.toNat))).toNat) * v6)] [] okX12_mod o_a0.1 rfl rfl lm_12_182 liX12_mod lqX12_mod (Nat.le_of_ble_eq_true rfl) (Nat.le_of_ble_eq_true rfl) (Nat.le_of_ble_eq_true rfl) (cat_of rfl) (Nat.le_of_ble_eq_true rfl) (Nat.zero_le _) (Nat.zero_le _) rfl dX12_divides_70 (sp_X12_mod o_a0 w3.2.2.2.2.1 w3.2.2.2.2.2.1 w3.2.2.2.2.2.2.1 (V_nmi (fun i1 ei1 => V_istore (lv' := [some (r_ a0), none, some (i_ v2), some (i_ v3), some (i_ v4), some (i_ v5), some (i_ v6), some (i_ ((pd (g2 v4.toNat)) - v5)), some (i_ i1)]) dX12_divides_73 (Nat.le_of_ble_eq_true rfl) rfl (V_aload_n dX12_divides_75 rfl (G_12_10 o_a0.1 o_a0.qR10 lf_12_20 dX12_divides_76 (V_bipush dX12_divides_79 rfl (V_iload_n dX12_divides_81 rfl (V_imul dX12_divides_82 (V_iload dX12_divides_83 rfl (V_iadd dX12_divides_85 (V_iload dX12_divides_86 rfl (V_iast (t := 100) o_a0.qK10 (by decide) (by decide) rfl (w3.2.2.2.2.2.2.2 i1 ei1).1 (w3.2.2.2.2.2.2.2 i1 ei1).2.1 (Nat.le_of_ble_eq_true rfl) dX12_divides_88 (V_nmZ (fun Z1 eZ1 => V_aload_n dX12_divides_89 rfl (V_iload dX12_divides_90 rfl (V_iload_n dX12_divides_92 rfl (V_iload dX12_divides_93 rfl (V_ineg dX12_divides_95 (V_iload dX12_divides_96 rfl (Exists.elim ((w3.2.2.2.2.2.2.2 i1 ei1).2.2 Z1 eZ1) (fun g4 w4 => Exists.elim w4 (fun g5 w5 => V_callV (k' := 0) (n' := 0) (t := 12) (q := (RX12, TX12, 46)) [i_ v4, i_ v2, i_ (-i1), i_ ((pd (g2 v4.toNat)) - v5)] [] okX12_adds o_a0.1 rfl rfl lm_12_195 liX12_adds lqX12_adds (Nat.le_of_ble_eq_true rfl) (Nat.le_of_ble_eq_true rfl) (Nat.le_of_ble_eq_true rfl) (cat_of rfl) (Nat.le_of_ble_eq_true rfl) (Nat.zero_le _) (Nat.zero_le _) rfl dX12_divides_98 (sp_X12_adds o_a0 w5.1 w5.2.1 w5.2.2.1 w5.2.2.2.1 w5.2.2.2.2.1 w5.2.2.2.2.2.1 (fun Z'1 p1 => V_goto (tgt := 32) dX12_divides_101 rfl (V_msk [true, false, true, true, true, true, true, false, false] rfl (w5.2.2.2.2.2.2 Z'1 p1)))))))))))))))))))))))))))))))))))))))))))))))))))))
theorem sp_X12_product {k n : Nat} {x : Wx} {Z : Zt} {Q : Option Value → Wx → Zt → Prop} {b : Nat} {u w t : Int} (o : Is12 x b) {P : Nat → Nat → Int} {p : Int} (hp : IsP p ∧ Z b 11 = p) (hP : MS Z b P) (hu : (0 ≤ u ∧ u < 27) ∧ (0 ≤ w ∧ w < 27) ∧ (0 ≤ t ∧ t < 27) ∧ t ≠ u ∧ t ≠ w) (hf : InP p (P u.toNat) ∧ Fin (P u.toNat)) (hg : InP p (P w.toNat)) (h : ∀ Z' : Zt, (MS Z' b (updP P t.toNat (pmul p (P u.toNat) (P w.toNat))) ∧ Oth Z Z' (O4 b)) → Q none x Z') : V mX12_product k n 0 [some (r_ b), some (i_ u), some (i_ w), some (i_ t), none] [] x Z Q := by
  have hb := hp.2
  have hp' := hp.1
  have hr := hp'.rg
  have hp0 : 0 < p := by omega
  have g1 := pd_ge (P u.toNat)
  have g2 := pd_lt (P u.toNat)
  have lp : ∀ (m : Nat) (v : Nat) (Z1 : Zt), (v : Int) + m = pd (P u.toNat) + 1 → MS Z1 b (updP P t.toNat (fun j => csum (P u.toNat) (P w.toNat) j v % p)) → Oth Z Z1 (O4 b) → V mX12_product k n 8 [some (r_ b), some (i_ u), some (i_ w), some (i_ t), some (i_ (v : Int))] [] x Z1 Q := by
    intro m
    induction m with
    | zero =>
      intro v Z1 h1 hM hO
      refine b_X12_product_8 o ⟨_, hM, hu.1, fun i _ => ?_, ⟨by omega, by omega⟩, ?_⟩
      · rw [updP_n _ _ (by omega)]; have := hf.1 i; exact ⟨by omega, by omega⟩
      · rw [updP_n _ _ (by omega)]
        refine ⟨⟨by omega, by omega⟩, fun _ => h Z1 ⟨hM.eq (fun q i hq hi => ?_), hO⟩, fun c => by omega⟩
        unfold updP; split
        · show csum _ _ i v % p = csum _ _ i (i + 1) % p
          congr 1
          have hz : ∀ j, v ≤ j → P u.toNat j = 0 := fun j hj => pd_hi hf.2 j (by omega)
          by_cases c : v ≤ i + 1
          · exact (csum_stop _ _ i v hz (i + 1) c).symm
          · exact csum_over _ _ i v (by omega)
        · rfl
    | succ m ih =>
      intro v Z1 h1 hM hO
      have hb1 : Z1 b 11 = p := by rw [hO b (by show ¬ (b = b + 4); omega)]; exact hb
      refine b_X12_product_8 o ⟨_, hM, hu.1, fun i _ => ?_, ⟨by omega, by omega⟩, ?_⟩
      · rw [updP_n _ _ (by omega)]; have := hf.1 i; exact ⟨by omega, by omega⟩
      · rw [updP_n _ _ (by omega)]
        have e := hM.at hu.1 (i := (v : Int)) (by omega)
        rw [updP_n _ _ (by omega), Int.toNat_natCast] at e
        have bu := hf.1 v
        refine ⟨⟨by omega, by omega⟩, fun c => by omega, fun _ => ⟨by omega, _, p, ⟨hp', hb1⟩, hM, ⟨hu.2.2.1, hu.2.1, hu.2.2.2.2⟩, ⟨by rw [e]; omega, by omega⟩, ?_, ?_, fun Z2 hz => ?_⟩⟩
        · rw [updP_s]; exact fun i => emr _ hp0
        · rw [updP_n _ _ (by omega)]; exact hg
        · refine ih (v + 1) Z2 (by omega) (hz.1.eq (fun q i hq hi => ?_)) (hO.tr hz.2)
          rw [updP_2, updP_s, updP_n _ _ (show w.toNat ≠ t.toNat by omega), e, Int.toNat_natCast]
          unfold updP; split
          · unfold pads
            show _ = (csum _ _ i v + (if v ≤ i then _ else _)) % p
            by_cases c : v ≤ i
            · rw [if_pos ⟨c, hi⟩, if_pos c, Int.add_emod, Int.emod_emod, ← Int.add_emod]
            · rw [if_neg (fun q => c q.1), if_neg c, Int.add_zero]
          · rfl
  refine b_X12_product_0 o ⟨P, hP, hu.2.2.1, fun Z1 hz => lp (pd (P u.toNat) + 1).toNat 0 Z1 (by omega) (hz.1.eq (fun q i hq hi => ?_)) hz.2⟩
  unfold updP; split
  · show (0 : Int) = 0 % p; simp
  · rfl
theorem sp_X12_scaled {k n : Nat} {x : Wx} {Z : Zt} {Q : Option Value → Wx → Zt → Prop} {b : Nat} {u c t : Int} (o : Is12 x b) {P : Nat → Nat → Int} {p : Int} (hp : IsP p ∧ Z b 11 = p) (hP : MS Z b P) (hu : (0 ≤ u ∧ u < 27) ∧ (0 ≤ t ∧ t < 27) ∧ t ≠ u) (hc : -100 ≤ c ∧ c ≤ 100) (hf : InP p (P u.toNat)) (h : ∀ Z' : Zt, (MS Z' b (updP P t.toNat (pscl p (P u.toNat) c)) ∧ Oth Z Z' (O4 b)) → Q none x Z') : V mX12_scaled k n 0 [some (r_ b), some (i_ u), some (i_ c), some (i_ t)] [] x Z Q := by
  have hr := hp.1.rg
  refine b_X12_scaled_0 o ⟨P, hP, hu.2.1, fun Z1 hz => ⟨_, p, ⟨hp.1, by rw [hz.2 b (by show ¬ (b = b + 4); omega)]; exact hp.2⟩, hz.1, ⟨hu.2.1, hu.1, hu.2.2⟩, ⟨hc, by decide, by decide⟩, ?_, ?_, fun Z2 hz2 => h Z2 ⟨hz2.1.eq (fun q i hq hi => ?_), hz.2.tr hz2.2⟩⟩⟩
  · rw [updP_s]; exact (pzero_ok (by omega)).1
  · rw [updP_n _ _ (by omega)]; exact hf
  · rw [updP_2, updP_s, updP_n _ _ (show u.toNat ≠ t.toNat by omega)]
    unfold updP; split
    · unfold pads pscl
      rw [if_pos ⟨Nat.zero_le _, hi⟩]
      show (0 + c * P u.toNat i) % p = _
      rw [Int.zero_add, Int.mul_comm]
    · rfl
/-- zeros at the top take nothing away -/
theorem dvr_skip {p : Int} {g : Nat → Int} {d : Nat} {iv : Int} {R : Nat → Int} (hR : InP p R) : ∀ (m j : Nat), j ≤ m → (∀ i, j ≤ i → i < m → R (d + i) = 0) → dvr p g d iv m R = dvr p g d iv j R ∧ ∀ t, dvq p g d iv m R t = dvq p g d iv j R t
  | 0, j, h, _ => by rw [show j = 0 by omega]; exact ⟨rfl, fun _ => rfl⟩
  | m + 1, j, h, hz => by
    by_cases c : j = m + 1
    · rw [c]; exact ⟨rfl, fun _ => rfl⟩
    · have h0 := hz m (by omega) (by omega)
      have e : dstep p g d iv (d + m) R = R := by
        funext t; unfold dstep; split
        · rw [h0]; have := hR t
          rw [Int.zero_mul, show (0 : Int) % p = 0 by simp, Int.zero_mul, Int.sub_zero]
          exact Int.emod_eq_of_lt this.1 this.2
        · rfl
      obtain ⟨i1, i2⟩ := dvr_skip hR m j (by omega) (fun i h1 h2 => hz i h1 (by omega))
      refine ⟨?_, fun t => ?_⟩
      · show dvr p g d iv m (dstep p g d iv (d + m) R) = _; rw [e]; exact i1
      · show (if t = m then R (d + m) * iv % p else dvq p g d iv m (dstep p g d iv (d + m) R) t) = _
        rw [e, h0]
        by_cases c2 : t = m
        · rw [if_pos c2, c2, dvq_hi j R m (by omega)]; simp
        · rw [if_neg c2]; exact i2 t
theorem sp_X12_divides {k n : Nat} {x : Wx} {Z : Zt} {Q : Option Value → Wx → Zt → Prop} {b : Nat} {u w q r : Int} (o : Is12 x b) {P : Nat → Nat → Int} {p : Int} (hp : IsP p ∧ Z b 11 = p) (hP : MS Z b P) (hu : ((0 ≤ u ∧ u < 27) ∧ (0 ≤ w ∧ w < 27) ∧ (0 ≤ q ∧ q < 27) ∧ (0 ≤ r ∧ r < 27)) ∧ q ≠ u ∧ q ≠ w ∧ r ≠ u ∧ r ≠ w ∧ q ≠ r) (hf : InP p (P u.toNat) ∧ Fin (P u.toNat)) (hg : InP p (P w.toNat) ∧ 0 ≤ pd (P w.toNat)) (h : ∀ Z' : Zt, (MS Z' b (updP (updP P q.toNat (dvQ p (P u.toNat) (P w.toNat))) r.toNat (dvR p (P u.toNat) (P w.toNat))) ∧ Oth Z Z' (O4 b)) → Q none x Z') : V mX12_divides k n 0 [some (r_ b), some (i_ u), some (i_ w), some (i_ q), some (i_ r), none, none, none, none] [] x Z Q := by
  have hb := hp.2
  have hp' := hp.1
  have hr := hp'.rg
  have hp0 : 0 < p := by omega
  obtain ⟨⟨hu1, hw1, hq1, hr1⟩, n1, n2, n3, n4, n5⟩ := hu
  have hl := pd_lead hg.1 hg.2
  have hi := inv_rg hp' hl
  have g24 := pd_lt (P w.toNat)
  have hb1 : ∀ Z1 : Zt, Oth Z Z1 (O4 b) → Z1 b 11 = p := fun Z1 h1 => by rw [h1 b (by show ¬ (b = b + 4); omega)]; exact hb
  generalize hd : (pd (P w.toNat)).toNat = d at *
  generalize hiv : inv p (P w.toNat d) = iv at *
  have hdI : pd (P w.toNat) = (d : Int) := by omega
  have lp : ∀ (m : Nat) (R Qf : Nat → Int) (Z1 : Zt), InP p R ∧ Fin R → (∀ t, d + m ≤ t → R t = 0) → dvr p (P w.toNat) d iv m R = dvR p (P u.toNat) (P w.toNat) → (∀ t, dvQ p (P u.toNat) (P w.toNat) t = if t < m then dvq p (P w.toNat) d iv m R t else Qf t) → (∀ t, t < m → Qf t = 0) → MS Z1 b (updP (updP P q.toNat Qf) r.toNat R) → Oth Z Z1 (O4 b) → V mX12_divides k n 32 [some (r_ b), none, some (i_ w), some (i_ q), some (i_ r), some (i_ (d : Int)), some (i_ iv), none, none] [] x Z1 Q := by
    intro m
    induction m using Nat.strongRecOn with
    | ind m ih =>
      intro R Qf Z1 hR hz hE hQ hQ0 hM hO
      have eR : updP (updP P q.toNat Qf) r.toNat R r.toNat = R := updP_s _ _ _
      have rgR : ∀ i : Nat, i < 24 → Rg (updP (updP P q.toNat Qf) r.toNat R r.toNat i) := fun i _ => by rw [eR]; have := hR.1 i; exact ⟨by omega, by omega⟩
      have k1 := pd_ge R
      have k2 := pd_lt R
      refine b_X12_divides_32 o ⟨_, hM, hr1, rgR, ?_⟩
      rw [eR]
      refine ⟨⟨by omega, by omega⟩, ⟨by omega, by omega⟩, fun c => h Z1 ⟨hM.eq (fun q' i hq' hi' => ?_), hO⟩, fun c => ⟨_, hM, hr1, rgR, _, hM, hr1, rgR, ?_⟩⟩
      · obtain ⟨s1, s2⟩ := dvr_skip (p := p) (g := P w.toNat) (d := d) (iv := iv) hR.1 m 0 (Nat.zero_le _) (fun i _ _ => pd_hi hR.2 _ (by omega))
        rw [← hE, s1]
        show updP (updP P q.toNat Qf) r.toNat R q' i = updP (updP P q.toNat (dvQ p (P u.toNat) (P w.toNat))) r.toNat R q' i
        unfold updP
        split
        · rfl
        · split
          · rw [hQ i]
            by_cases c3 : i < m
            · rw [if_pos c3, s2 i, hQ0 i c3]; rfl
            · rw [if_neg c3]
          · rfl
      · rw [eR]
        have e := hM.at hr1 (i := pd R) (by omega)
        rw [eR] at e
        have bl := pd_lead hR.1 (by omega)
        have hivr : 0 < iv ∧ iv < p := hi
        have bm := mul_bd (t := R (pd R).toNat) (c := 13) (B := iv) (by omega) (by omega)
        refine ⟨by omega, by rw [e]; exact ⟨by omega, by omega⟩, by rw [hb1 Z1 hO]; omega, by rw [hb1 Z1 hO]; omega, fun i1 ei1 => ⟨by omega, by omega, fun Z2 e2 => ?_⟩⟩
        rw [e, hb1 Z1 hO] at ei1
        -- the place of the lead, seen from d
        obtain ⟨j, hj⟩ : ∃ j : Nat, pd R = (d : Int) + j := ⟨(pd R - d).toNat, by omega⟩
        have ej : (pd R).toNat = d + j := by omega
        have hjm : j < m := by
          by_cases c3 : j < m
          · exact c3
          · have := hz (d + j) (by omega); rw [← ej] at this; omega
        rw [show pd R - (d : Int) = (j : Int) from by omega] at e2 ⊢
        have g := hM.put hq1 (i := (j : Int)) (by omega) e2
        have bi := emr (R (pd R).toNat * iv) hp0
        rw [← ei1] at bi
        have eP : MS Z2 b (updP (updP P q.toNat (fun t => if t = j then i1 else Qf t)) r.toNat R) := g.1.eq (fun q' i' _ _ => by
          unfold putP updP
          rw [Int.toNat_natCast]
          by_cases c4 : q' = q.toNat
          · have c5 : ¬ q' = r.toNat := by omega
            rw [if_pos c4, if_neg c5, if_pos c4]
            show (if i' = j then i1 else (if q.toNat = r.toNat then R else if q.toNat = q.toNat then Qf else P q.toNat) i') = _
            rw [if_neg (show ¬ q.toNat = r.toNat by omega), if_pos rfl]
          · rw [if_neg c4, if_neg c4]
            split <;> rfl)
        refine ⟨_, p, ⟨hp', by rw [hb1 Z2 (hO.tr g.2)]⟩, eP, ⟨hr1, hw1, n4⟩, ⟨by omega, by omega⟩, ?_, ?_, fun Z3 hz3 => ?_⟩
        · rw [updP_s]; exact hR.1
        · rw [updP_n _ _ (by omega), updP_n _ _ (by omega)]; exact hg.1
        · rw [updP_s, updP_2, updP_n _ _ (show w.toNat ≠ r.toNat by omega), updP_n _ _ (show w.toNat ≠ q.toNat by omega), Int.toNat_natCast] at hz3
          have eD : pads p R (P w.toNat) (-i1) j = dstep p (P w.toNat) d iv (d + j) R := by
            funext t; unfold pads dstep
            rw [show d + j - d = j by omega]
            by_cases c4 : j ≤ t
            · by_cases c5 : t ≤ d + j
              · rw [if_pos ⟨c4, by omega⟩, if_pos ⟨c4, c5⟩, ← ej, ← ei1, Int.neg_mul, ← Int.sub_eq_add_neg]
              · rw [if_neg (show ¬ (j ≤ t ∧ t ≤ d + j) from fun q => c5 q.2)]
                split
                · have : P w.toNat (t - j) = 0 := by
                    rename_i c6
                    exact dg_above _ 24 _ (by show pd (P w.toNat) < _; omega) (by omega)
                  rw [this, Int.mul_zero, Int.add_zero]; have := hR.1 t; exact Int.emod_eq_of_lt this.1 this.2
                · rfl
            · rw [if_neg (fun q => c4 q.1), if_neg (fun q => c4 q.1)]
          rw [eD] at hz3
          obtain ⟨s1, s2⟩ := dvr_skip (p := p) (g := P w.toNat) (d := d) (iv := iv) hR.1 m (j + 1) (by omega) (fun i i1 _ => pd_hi hR.2 _ (by omega))
          have inD : InP p (dstep p (P w.toNat) d iv (d + j) R) := dstep_in hp0 hR.1
          refine ih j hjm _ _ Z3 ⟨inD, fun t ht => ?_⟩ (fun t ht => ?_) ?_ (fun t => ?_) (fun t ht => ?_) hz3.1 ((hO.tr g.2).tr hz3.2)
          · rw [dstep_hi (by omega)]; exact hR.2 t ht
          · by_cases c5 : t = d + j
            · rw [c5, ← hiv]; exact dstep_lead hp' (by omega) hl
            · rw [dstep_hi (by omega)]; exact pd_hi hR.2 t (by omega)
          · rw [← hE, s1]; rfl
          · rw [hQ t]
            by_cases c5 : t < m
            · rw [if_pos c5, s2 t]
              show (if t = j then R (d + j) * iv % p else _) = _
              by_cases c6 : t = j
              · rw [if_pos c6, if_neg (by omega), if_pos c6, ei1, ej]
              · rw [if_neg c6]
                by_cases c7 : t < j
                · rw [if_pos c7]
                · rw [if_neg c7, if_neg c6, hQ0 t c5]; exact dvq_hi j _ t (by omega)
            · rw [if_neg c5, if_neg (by omega), if_neg (by omega)]
          · rw [if_neg (by omega)]; exact hQ0 t (by omega)
  refine b_X12_divides_0 o ⟨P, hP, hq1, fun Z1 z1 => ⟨_, z1.1, hr1, hu1, fun Z2 z2 => ⟨_, z2.1, hw1, fun i _ => ?_, ?_⟩⟩⟩
  · rw [updP_n _ _ (by omega), updP_n _ _ (by omega)]; have := hg.1 i; exact ⟨by omega, by omega⟩
  · have e9 : updP (updP P q.toNat pzero) r.toNat (updP P q.toNat pzero u.toNat) w.toNat = P w.toNat := by rw [updP_n _ _ (by omega), updP_n _ _ (by omega)]
    rw [e9]
    have e := z2.1.at hw1 (i := pd (P w.toNat)) (by omega)
    rw [e9, hd] at e
    refine ⟨by omega, p, ⟨hp', by rw [hb1 Z2 (z1.2.tr z2.2)]⟩, by rw [e]; exact hl, ?_⟩
    rw [e, hiv, hdI]
    have k1 := pd_ge (P u.toNat)
    have k2 := pd_lt (P u.toNat)
    refine lp (pd (P u.toNat) - d + 1).toNat (P u.toNat) pzero Z2 hf (fun t ht => pd_hi hf.2 t (by omega)) ?_ (fun t => ?_) (fun _ _ => rfl) (z2.1.eq (fun q' i' _ _ => ?_)) (z1.2.tr z2.2)
    · unfold dvR; rw [hd, hiv, hdI]
    · unfold dvQ; rw [hd, hiv, hdI]
      by_cases c : t < (pd (P u.toNat) - d + 1).toNat
      · rw [if_pos c]
      · rw [if_neg c, dvq_hi _ _ t (by omega)]; rfl
    · rw [updP_n _ _ (show u.toNat ≠ q.toNat by omega)]
