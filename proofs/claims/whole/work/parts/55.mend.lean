theorem dX1_send_0 : decode cX1_send 0 = .ok (.aload_n 0, 1) := by decide +kernel
theorem dX1_send_1 : decode cX1_send 1 = .ok (.getfield 15, 3) := by decide +kernel
theorem dX1_send_4 : decode cX1_send 4 = .ok (.iconst 0, 1) := by decide +kernel
theorem dX1_send_5 : decode cX1_send 5 = .ok (.invokestatic 103, 3) := by decide +kernel
theorem dX1_send_8 : decode cX1_send 8 = .ok (.iload_n 2, 1) := by decide +kernel
theorem dX1_send_9 : decode cX1_send 9 = .ok (.istore_n 3, 1) := by decide +kernel
theorem dX1_send_10 : decode cX1_send 10 = .ok (.iconst 0, 1) := by decide +kernel
theorem dX1_send_11 : decode cX1_send 11 = .ok (.istore 4, 2) := by decide +kernel
theorem dX1_send_13 : decode cX1_send 13 = .ok (.iload 4, 2) := by decide +kernel
theorem dX1_send_15 : decode cX1_send 15 = .ok (.aload_n 0, 1) := by decide +kernel
theorem dX1_send_16 : decode cX1_send 16 = .ok (.getfield 60, 3) := by decide +kernel
theorem dX1_send_19 : decode cX1_send 19 = .ok (.if_icmp .ge 89, 3) := by decide +kernel
theorem dX1_send_22 : decode cX1_send 22 = .ok (.iload_n 3, 1) := by decide +kernel
theorem dX1_send_23 : decode cX1_send 23 = .ok (.ifCond .le 85, 3) := by decide +kernel
theorem dX1_send_26 : decode cX1_send 26 = .ok (.aload_n 1, 1) := by decide +kernel
theorem dX1_send_27 : decode cX1_send 27 = .ok (.iload_n 3, 1) := by decide +kernel
theorem dX1_send_28 : decode cX1_send 28 = .ok (.invokevirtual 109, 3) := by decide +kernel
theorem dX1_send_31 : decode cX1_send 31 = .ok (.istore 5, 2) := by decide +kernel
theorem dX1_send_33 : decode cX1_send 33 = .ok (.aload_n 1, 1) := by decide +kernel
theorem dX1_send_34 : decode cX1_send 34 = .ok (.getfield 98, 3) := by decide +kernel
theorem dX1_send_37 : decode cX1_send 37 = .ok (.iconst 2, 1) := by decide +kernel
theorem dX1_send_38 : decode cX1_send 38 = .ok (.if_icmp .ge 7, 3) := by decide +kernel
theorem dX1_send_41 : decode cX1_send 41 = .ok (.iconst 0, 1) := by decide +kernel
theorem dX1_send_42 : decode cX1_send 42 = .ok (.goto 9, 3) := by decide +kernel
theorem dX1_send_45 : decode cX1_send 45 = .ok (.iload_n 3, 1) := by decide +kernel
theorem dX1_send_46 : decode cX1_send 46 = .ok (.aload_n 1, 1) := by decide +kernel
theorem dX1_send_47 : decode cX1_send 47 = .ok (.getfield 98, 3) := by decide +kernel
theorem dX1_send_50 : decode cX1_send 50 = .ok (.idiv, 1) := by decide +kernel
theorem dX1_send_51 : decode cX1_send 51 = .ok (.istore_n 3, 1) := by decide +kernel
theorem dX1_send_52 : decode cX1_send 52 = .ok (.iconst 0, 1) := by decide +kernel
theorem dX1_send_53 : decode cX1_send 53 = .ok (.istore 6, 2) := by decide +kernel
theorem dX1_send_55 : decode cX1_send 55 = .ok (.iload 6, 2) := by decide +kernel
theorem dX1_send_57 : decode cX1_send 57 = .ok (.aload_n 0, 1) := by decide +kernel
theorem dX1_send_58 : decode cX1_send 58 = .ok (.getfield 61, 3) := by decide +kernel
theorem dX1_send_61 : decode cX1_send 61 = .ok (.if_icmp .ge 41, 3) := by decide +kernel
theorem dX1_send_64 : decode cX1_send 64 = .ok (.aload_n 0, 1) := by decide +kernel
theorem dX1_send_65 : decode cX1_send 65 = .ok (.getfield 15, 3) := by decide +kernel
theorem dX1_send_68 : decode cX1_send 68 = .ok (.iload 6, 2) := by decide +kernel
theorem dX1_send_70 : decode cX1_send 70 = .ok (.aload_n 1, 1) := by decide +kernel
theorem dX1_send_71 : decode cX1_send 71 = .ok (.aload_n 0, 1) := by decide +kernel
theorem dX1_send_72 : decode cX1_send 72 = .ok (.getfield 15, 3) := by decide +kernel
theorem dX1_send_75 : decode cX1_send 75 = .ok (.iload 6, 2) := by decide +kernel
theorem dX1_send_77 : decode cX1_send 77 = .ok (.iaload, 1) := by decide +kernel
theorem dX1_send_78 : decode cX1_send 78 = .ok (.iload 5, 2) := by decide +kernel
theorem dX1_send_80 : decode cX1_send 80 = .ok (.aload_n 0, 1) := by decide +kernel
theorem dX1_send_81 : decode cX1_send 81 = .ok (.getfield 23, 3) := by decide +kernel
theorem dX1_send_84 : decode cX1_send 84 = .ok (.iload 4, 2) := by decide +kernel
theorem dX1_send_86 : decode cX1_send 86 = .ok (.aaload, 1) := by decide +kernel
theorem dX1_send_87 : decode cX1_send 87 = .ok (.iload 6, 2) := by decide +kernel
theorem dX1_send_89 : decode cX1_send 89 = .ok (.iaload, 1) := by decide +kernel
theorem dX1_send_90 : decode cX1_send 90 = .ok (.imul, 1) := by decide +kernel
theorem dX1_send_91 : decode cX1_send 91 = .ok (.iadd, 1) := by decide +kernel
theorem dX1_send_92 : decode cX1_send 92 = .ok (.invokevirtual 109, 3) := by decide +kernel
theorem dX1_send_95 : decode cX1_send 95 = .ok (.iastore, 1) := by decide +kernel
theorem dX1_send_96 : decode cX1_send 96 = .ok (.iinc 6 1, 3) := by decide +kernel
theorem dX1_send_99 : decode cX1_send 99 = .ok (.goto (-44), 3) := by decide +kernel
theorem dX1_send_102 : decode cX1_send 102 = .ok (.iinc 4 1, 3) := by decide +kernel
theorem dX1_send_105 : decode cX1_send 105 = .ok (.goto (-92), 3) := by decide +kernel
theorem dX1_send_108 : decode cX1_send 108 = .ok (.return_, 1) := by decide +kernel
set_option maxRecDepth 20000 in
theorem b_X1_send_0 {k n : Nat} {x : Wx} {Z : Zt} {Q : Option Value → Wx → Zt → Prop} {a0 : Nat} {a1 : Nat} {v2 : Int} (o_a0 : Is1 x a0)
    (h : ∀ Z1 : Zt, Z1 = fillZ Z (a0 + 2) 26 (0 : Int) → (V mX1_send k n 13 [some (r_ a0), some (r_ a1), none, some (i_ v2), some (i_ 0), none, none] [] x Z1 Q)) :
    V mX1_send k n 0 [some (r_ a0), some (r_ a1), some (i_ v2), none, none, none, none] [] x Z Q :=
  V_aload_n dX1_send_0 rfl (G_1_6 o_a0.1 o_a0.2.2.2.1 lf_1_15 dX1_send_1 (V_iconst dX1_send_4 (V_callS (k' := 0) (n' := 0) [r_ (a0 + 2), i_ 0] [] okJ7_fill_53178 lm_1_103 lsJ7_fill_53178 (Nat.le_of_ble_eq_true rfl) (Nat.le_of_ble_eq_true rfl) (Nat.le_of_ble_eq_true rfl) (cat_of rfl) (Nat.le_of_ble_eq_true rfl) (Nat.zero_le _) (Nat.zero_le _) rfl dX1_send_5 (sp_J7_fill_53178 o_a0.2.2.2.2.1 (Nat.le_of_ble_eq_true rfl)  (V_nmZ (fun Z1 eZ1 => V_iload_n dX1_send_8 rfl (V_istore_n (lv' := [some (r_ a0), some (r_ a1), some (i_ v2), some (i_ v2), none, none, none]) dX1_send_9 (Nat.le_of_ble_eq_true rfl) rfl (V_iconst dX1_send_10 (V_istore (lv' := [some (r_ a0), some (r_ a1), some (i_ v2), some (i_ v2), some (i_ 0), none, none]) dX1_send_11 (Nat.le_of_ble_eq_true rfl) rfl (V_msk [true, true, false, true, true, false, false] rfl (h Z1 eZ1)))))))))))
set_option maxRecDepth 20000 in
theorem b_X1_send_13 {k n : Nat} {x : Wx} {Z : Zt} {Q : Option Value → Wx → Zt → Prop} {a0 : Nat} {a1 : Nat} {v3 : Int} {v4 : Int} (o_a0 : Is1 x a0) (o_a1 : Is4 x a1)
    (h : Rg v4 ∧ Rg (Z a0 8) ∧ (((Z a0 8 ≤ v4) → (Q none x Z)) ∧ ((v4 < Z a0 8) → (Rg v3 ∧ (((v3 ≤ 0) → (Q none x Z)) ∧ ((0 < v3) → (2 ≤ Z a1 0 ∧ Z a1 0 ≤ 13 ∧ (Rg (Z a1 0) ∧ (0 < Z a1 0 ∧ (V mX1_send k n 51 [some (r_ a0), some (r_ a1), none, none, some (i_ v4), some (i_ (v3 % Z a1 0)), none] [i_ (Int.tdiv v3 (Z a1 0))] x Z Q)))))))))) :
    V mX1_send k n 13 [some (r_ a0), some (r_ a1), none, some (i_ v3), some (i_ v4), none, none] [] x Z Q :=
  V_iload dX1_send_13 rfl (V_aload_n dX1_send_15 rfl (G_1_8 o_a0.1 lf_1_60 dX1_send_16 (V_icmp_ge (tgt := 108) dX1_send_19 rfl h.1 h.2.1 (fun c1 => V_ret dX1_send_108 rfl (h.2.2.1 c1)) (fun c1 => V_iload_n dX1_send_22 rfl (V_if_le (tgt := 108) dX1_send_23 rfl (h.2.2.2 c1).1 (fun c2 => V_ret dX1_send_108 rfl ((h.2.2.2 c1).2.1 c2)) (fun c2 => V_aload_n dX1_send_26 rfl (V_iload_n dX1_send_27 rfl (V_callV (k' := 0) (n' := 0) (t := 4) (q := (RX4, TX4, 4)) [i_ v3] [] okX4_rem o_a1.1 rfl rfl lm_1_109 liX4_rem lqX4_rem (Nat.le_of_ble_eq_true rfl) (Nat.le_of_ble_eq_true rfl) (Nat.le_of_ble_eq_true rfl) (cat_of rfl) (Nat.le_of_ble_eq_true rfl) (Nat.zero_le _) (Nat.zero_le _) rfl dX1_send_28 (sp_X4_rem o_a1 (h.2.2.2 c1).1 ((h.2.2.2 c1).2.2 c2).1 ((h.2.2.2 c1).2.2 c2).2.1 (V_istore (lv' := [some (r_ a0), some (r_ a1), none, some (i_ v3), some (i_ v4), some (i_ (v3 % Z a1 0)), none]) dX1_send_31 (Nat.le_of_ble_eq_true rfl) rfl (V_aload_n dX1_send_33 rfl (G_4_0 o_a1.1 lf_1_98 dX1_send_34 (V_iconst dX1_send_37 (V_icmp_ge (tgt := 45) dX1_send_38 rfl ((h.2.2.2 c1).2.2 c2).2.2.1 (rg_c rfl) (fun _ => V_iload_n dX1_send_45 rfl (V_aload_n dX1_send_46 rfl (G_4_0 o_a1.1 lf_1_98 dX1_send_47 (V_idiv dX1_send_50 (h.2.2.2 c1).1 ((h.2.2.2 c1).2.2 c2).2.2.1 ((h.2.2.2 c1).2.2 c2).2.2.2.1 (V_msk [true, true, false, false, true, true, false] rfl ((h.2.2.2 c1).2.2 c2).2.2.2.2))))) (fun h9 => absurd ((h.2.2.2 c1).2.2 c2).1 (by omega))))))))))))))))
set_option maxRecDepth 20000 in
theorem b_X1_send_51 {k n : Nat} {x : Wx} {Z : Zt} {Q : Option Value → Wx → Zt → Prop} {a0 : Nat} {a1 : Nat} {v4 : Int} {v5 : Int} {t0 : Int} 
    (h : V mX1_send k n 55 [some (r_ a0), some (r_ a1), none, some (i_ t0), some (i_ v4), some (i_ v5), some (i_ 0)] [] x Z Q) :
    V mX1_send k n 51 [some (r_ a0), some (r_ a1), none, none, some (i_ v4), some (i_ v5), none] [i_ t0] x Z Q :=
  V_istore_n (lv' := [some (r_ a0), some (r_ a1), none, some (i_ t0), some (i_ v4), some (i_ v5), none]) dX1_send_51 (Nat.le_of_ble_eq_true rfl) rfl (V_iconst dX1_send_52 (V_istore (lv' := [some (r_ a0), some (r_ a1), none, some (i_ t0), some (i_ v4), some (i_ v5), some (i_ 0)]) dX1_send_53 (Nat.le_of_ble_eq_true rfl) rfl (V_msk [true, true, false, true, true, true, true] rfl h)))
set_option maxRecDepth 20000 in
theorem b_X1_send_55 {k n : Nat} {x : Wx} {Z : Zt} {Q : Option Value → Wx → Zt → Prop} {a0 : Nat} {a1 : Nat} {v3 : Int} {v4 : Int} {v5 : Int} {v6 : Int} (o_a0 : Is1 x a0) (o_a1 : Is4 x a1)
    (h : Rg v6 ∧ Rg (Z a0 0) ∧ (((Z a0 0 ≤ v6) → (V mX1_send k n 13 [some (r_ a0), some (r_ a1), none, some (i_ v3), some (i_ (v4 + 1)), none, none] [] x Z Q)) ∧ ((v6 < Z a0 0) → (0 ≤ v6 ∧ v6 < 26 ∧ (0 ≤ v4 ∧ v4 < 50 ∧ (Rg ((Z (a0 + 2) v6.toNat) + (v5 * (Z (a0 + 5 + v4.toNat) v6.toNat))) ∧ 2 ≤ Z a1 0 ∧ Z a1 0 ≤ 13 ∧ (∀ Z1 : Zt, Z1 = up Z (a0 + 2) v6.toNat (((Z (a0 + 2) v6.toNat) + (v5 * (Z (a0 + 5 + v4.toNat) v6.toNat))) % Z a1 0) → (V mX1_send k n 55 [some (r_ a0), some (r_ a1), none, some (i_ v3), some (i_ v4), some (i_ v5), some (i_ (v6 + 1))] [] x Z1 Q)))))))) :
    V mX1_send k n 55 [some (r_ a0), some (r_ a1), none, some (i_ v3), some (i_ v4), some (i_ v5), some (i_ v6)] [] x Z Q :=
  V_iload dX1_send_55 rfl (V_aload_n dX1_send_57 rfl (G_1_0 o_a0.1 lf_1_61 dX1_send_58 (V_icmp_ge (tgt := 102) dX1_send_61 rfl h.1 h.2.1 (fun c1 => V_iinc (lv' := [some (r_ a0), some (r_ a1), none, some (i_ v3), some (i_ (v4 + 1)), some (i_ v5), some (i_ v6)]) dX1_send_102 rfl (Nat.le_of_ble_eq_true rfl) rfl (V_goto (tgt := 13) dX1_send_105 rfl (V_msk [true, true, false, true, true, false, false] rfl (h.2.2.1 c1)))) (fun c1 => V_aload_n dX1_send_64 rfl (G_1_6 o_a0.1 o_a0.2.2.2.1 lf_1_15 dX1_send_65 (V_iload dX1_send_68 rfl (V_aload_n dX1_send_70 rfl (V_aload_n dX1_send_71 rfl (G_1_6 o_a0.1 o_a0.2.2.2.1 lf_1_15 dX1_send_72 (V_iload dX1_send_75 rfl (V_iald (t := 100) o_a0.2.2.2.2.1 (by decide) rfl (h.2.2.2 c1).1 (h.2.2.2 c1).2.1 (Nat.le_of_ble_eq_true rfl) dX1_send_77 (V_iload dX1_send_78 rfl (V_aload_n dX1_send_80 rfl (G_1_10 o_a0.1 o_a0.2.2.2.2.2.2.2.1 lf_1_23 dX1_send_81 (V_iload dX1_send_84 rfl (V_aaldR (t := 104) o_a0.2.2.2.2.2.2.2.2.1 (by decide) (fun _ _ => rfl) rfl (h.2.2.2 c1).2.2.1 (h.2.2.2 c1).2.2.2.1 (Nat.le_of_ble_eq_true rfl) (o_a0.2.2.2.2.2.2.2.2.2.1 _ ((ix_lt (h.2.2.2 c1).2.2.1 (h.2.2.2 c1).2.2.2.1))).1 dX1_send_86 (V_iload dX1_send_87 rfl (V_iald (t := 100) (o_a0.2.2.2.2.2.2.2.2.2.1 _ ((ix_lt (h.2.2.2 c1).2.2.1 (h.2.2.2 c1).2.2.2.1))).2 (by decide) rfl (h.2.2.2 c1).1 (h.2.2.2 c1).2.1 (Nat.le_of_ble_eq_true rfl) dX1_send_89 (V_imul dX1_send_90 (V_iadd dX1_send_91 (V_callV (k' := 0) (n' := 0) (t := 4) (q := (RX4, TX4, 4)) [i_ ((Z (a0 + 2) v6.toNat) + (v5 * (Z (a0 + 5 + v4.toNat) v6.toNat)))] [i_ v6, r_ (a0 + 2)] okX4_rem o_a1.1 rfl rfl lm_1_109 liX4_rem lqX4_rem (Nat.le_of_ble_eq_true rfl) (Nat.le_of_ble_eq_true rfl) (Nat.le_of_ble_eq_true rfl) (cat_of rfl) (Nat.le_of_ble_eq_true rfl) (Nat.zero_le _) (Nat.zero_le _) rfl dX1_send_92 (sp_X4_rem o_a1 (h.2.2.2 c1).2.2.2.2.1 (h.2.2.2 c1).2.2.2.2.2.1 (h.2.2.2 c1).2.2.2.2.2.2.1 (V_iast (t := 100) o_a0.2.2.2.2.1 (by decide) (by decide) rfl (h.2.2.2 c1).1 (h.2.2.2 c1).2.1 (Nat.le_of_ble_eq_true rfl) dX1_send_95 (V_nmZ (fun Z1 eZ1 => V_iinc (lv' := [some (r_ a0), some (r_ a1), none, some (i_ v3), some (i_ v4), some (i_ v5), some (i_ (v6 + 1))]) dX1_send_96 rfl (Nat.le_of_ble_eq_true rfl) rfl (V_goto (tgt := 55) dX1_send_99 rfl (V_msk [true, true, false, true, true, true, true] rfl ((h.2.2.2 c1).2.2.2.2.2.2.2 Z1 eZ1))))))))))))))))))))))))))))
/-! ===== Code: sent, disturbed, mended, weighed ===== -/
def dvN (p : Nat) : Nat → Nat → Nat
  | n, 0 => n
  | n, j + 1 => dvN p (n / p) j
theorem dvN_s (p : Nat) : ∀ (j n : Nat), dvN p n (j + 1) = dvN p n j / p
  | 0, _ => rfl
  | j + 1, n => dvN_s p j (n / p)
theorem dgt0_dv (p : Nat) : ∀ (j n : Nat), dgt0 p n j = dvN p n j % p
  | 0, _ => rfl
  | j + 1, n => dgt0_dv p j (n / p)
theorem dvN_z {p n k : Nat} (h : dvN p n k = 0) : ∀ m : Nat, dvN p n (k + m) = 0
  | 0 => h
  | m + 1 => by
    rw [show k + (m + 1) = (k + m) + 1 by omega, dvN_s, dvN_z h m, Nat.zero_div]
theorem smT_more {f : Nat → Int} {k : Nat} : ∀ {m : Nat}, (∀ j : Nat, k ≤ j → j < k + m → f j = 0) → smT (k + m) f = smT k f
  | 0, _ => rfl
  | m + 1, h => by
    show smT (k + m) f + f (k + m) = _
    rw [smT_more (m := m) (fun j h1 h2 => h j h1 (by omega)), h (k + m) (by omega) (by omega), Int.add_zero]
theorem CdA.kept {Z Z' : Zt} {a : Nat} {p : Int} {F r : Nat → Int} (hp : IsP p) (h : CdA Z a p F r) (h1 : ∀ i : Nat, (i < 3 ∨ i = 8) → Z' a i = Z a i) (h2 : ∀ b, (a + 5 ≤ b ∧ b < a + 55) ∨ (a + 83 ≤ b ∧ b < a + 109) → Z' b = Z b) : CdA Z' a p F r := by
  obtain ⟨⟨c1, c2, c3, c4⟩, c5, c6⟩ := h
  have hB := (cdB_I hp F r).1
  have hT := (cdT_rg hp F r).1
  have hD : cdD p F r ≤ 50 := by unfold cdD; omega
  refine ⟨⟨?_, ?_, ?_, ?_⟩, fun k hk i hi => ?_, fun j hj i hi => ?_⟩
  · rw [h1 0 (by omega)]; exact c1
  · rw [h1 1 (by omega)]; exact c2
  · rw [h1 2 (by omega)]; exact c3
  · rw [h1 8 (by omega)]; exact c4
  · rw [h2 _ (by omega)]; exact c5 k hk i hi
  · rw [h2 _ (by omega)]; exact c6 j hj i hi
/-- SENT -/
def sntF (p : Int) (F r : Nat → Int) (m : Int) (i : Nat) : Int := if i < (cdT p F r).1 then lcw p (cdV p F r) (cdD p F r) (dgI p m.toNat) i else 0
theorem sp_X1_send {k n : Nat} {x : Wx} {Z : Zt} {Q : Option Value → Wx → Zt → Prop} {a f : Nat} {v : Int} (o : Is1 x a) (of : Is4 x f) {p : Int} {F r : Nat → Int} (hp : IsP p) (hf : Z f 0 = p) (hA : CdA Z a p F r) (hv : Rg v ∧ 0 ≤ v) (hfa : f < a ∨ a + 113 ≤ f) (h : ∀ Z' : Zt, ((∀ i : Nat, i < 26 → Z' (a + 2) i = sntF p F r v i) ∧ Oth Z Z' (fun b => b = a + 2)) → Q none x Z') : V mX1_send k n 0 [some (r_ a), some (r_ f), some (i_ v), none, none, none, none] [] x Z Q := by
  have hpr := hp.rg
  have hT := (cdT_rg hp F r).1
  obtain ⟨⟨c1, c2, c3, c4⟩, c5, c6⟩ := hA
  have hD : cdD p F r ≤ 50 := by unfold cdD; omega
  unfold sntF at h
  have hVr : ∀ k t : Nat, 0 ≤ cdV p F r k t ∧ cdV p F r k t < p := cdV_rg hp F r
  generalize cdV p F r = V0 at c5 h hVr
  generalize cdD p F r = dm at c4 c5 h hD
  generalize (cdT p F r).1 = len at c1 c5 h hT
  obtain ⟨w0, hw0⟩ : ∃ w0 : Nat, v = (w0 : Int) := ⟨v.toNat, by omega⟩
  obtain ⟨P, hP⟩ : ∃ P : Nat, p = (P : Int) := ⟨p.toNat, by omega⟩
  have hPt : p.toNat = P := by omega
  have lp : ∀ (m q : Nat) (u y : Int) (Z1 : Zt), u = q → q + m = dm → y = (dvN P w0 q : Int) → (∀ i : Nat, i < 26 → Z1 (a + 2) i = if i < len then smT q (fun j => dgI p w0 j * V0 j i) % p else 0) → Oth Z Z1 (fun b => b = a + 2) → V mX1_send k n 13 [some (r_ a), some (r_ f), none, some (i_ y), some (i_ u), none, none] [] x Z1 Q := by
    intro m
    induction m with
    | zero =>
      intro q u y Z1 hu hq hy hz ho
      refine b_X1_send_13 o of ?_
      rw [ho a (by omega), c4]
      refine ⟨⟨by omega, by omega⟩, ⟨by omega, by omega⟩, fun _ => h Z1 ⟨fun i hi => ?_, ho⟩, fun c => by omega⟩
      rw [hz i hi, hw0, Int.toNat_natCast, show q = dm by omega]; rfl
    | succ m ih =>
      intro q u y Z1 hu hq hy hz ho
      have hyr : Rg y := by
        have : dvN P w0 q ≤ w0 := by
          have : ∀ j n : Nat, dvN P n j ≤ n := fun j => by
            induction j with
            | zero => intro n; exact Nat.le_refl n
            | succ j ih2 => intro n; exact Nat.le_trans (ih2 (n / P)) (Nat.div_le_self n P)
          exact this q w0
        have h9 := hv.1
        exact ⟨by have := h9.1; omega, by have := h9.2; omega⟩
      refine b_X1_send_13 o of ?_
      rw [ho a (by omega), c4, ho f (by omega), hf]
      refine ⟨⟨by omega, by omega⟩, ⟨by omega, by omega⟩, fun c => by omega, fun _ => ⟨hyr, fun c => h Z1 ⟨fun i hi => ?_, ho⟩, fun c => ⟨by omega, by omega, ⟨by omega, by omega⟩, by omega, b_X1_send_51 ?_⟩⟩⟩
      · rw [hz i hi, hw0, Int.toNat_natCast]
        by_cases ci : i < len
        · rw [if_pos ci, if_pos ci]
          unfold lcw
          have hz0 : dvN P w0 q = 0 := by omega
          rw [← smT_more (f := fun j => dgI p w0 j * V0 j i) (k := q) (m := m + 1) (fun j h1 h2 => ?_), show q + (m + 1) = dm by omega]
          have : dgI p w0 j = 0 := by
            unfold dgI
            have := dvN_z hz0 (j - q)
            rw [show q + (j - q) = j by omega] at this
            rw [hPt, dgt0_dv, this, Nat.zero_mod]; rfl
          rw [this, Int.zero_mul]
        · rw [if_neg ci, if_neg ci]
      · have hfig : y % p = dgI p w0 q := by
          unfold dgI
          rw [hPt, dgt0_dv, hy, hP]; rfl
        have hdiv : Int.tdiv y p = (dvN P w0 (q + 1) : Int) := by
          rw [dvN_s, hy, hP, Int.tdiv_eq_ediv_of_nonneg (by omega)]; rfl
        have hfr : 0 ≤ dgI p w0 q ∧ dgI p w0 q < p := by rw [← hfig]; exact emr _ (by omega)
        rw [hfig, hdiv]
        have lp2 : ∀ (m2 i : Nat) (z : Int) (Z2 : Zt), z = i → i + m2 = len → (∀ t : Nat, t < 26 → Z2 (a + 2) t = if t < len then (if t < i then smT (q + 1) (fun j => dgI p w0 j * V0 j t) % p else smT q (fun j => dgI p w0 j * V0 j t) % p) else 0) → Oth Z Z2 (fun b => b = a + 2) → V mX1_send k n 55 [some (r_ a), some (r_ f), none, some (i_ (dvN P w0 (q + 1) : Int)), some (i_ u), some (i_ (dgI p w0 q)), some (i_ z)] [] x Z2 Q := by
          intro m2
          induction m2 with
          | zero =>
            intro i z Z2 hz2 hi hw ho2
            refine b_X1_send_55 o of ?_
            rw [ho2 a (by omega), c1]
            refine ⟨⟨by omega, by omega⟩, ⟨by omega, by omega⟩, fun _ => ih (q + 1) (u + 1) _ Z2 (by omega) (by omega) rfl (fun t ht => ?_) ho2, fun c => by omega⟩
            rw [hw t ht]
            by_cases ct : t < len
            · rw [if_pos ct, if_pos ct, if_pos (by omega)]
            · rw [if_neg ct, if_neg ct]
          | succ m2 ih2 =>
            intro i z Z2 hz2 hi hw ho2
            have eV : Z2 (a + 5 + q) i = V0 q i := by rw [ho2 _ (by omega)]; exact c5 q (by omega) i (by omega)
            have eW : Z2 (a + 2) i = smT q (fun j => dgI p w0 j * V0 j i) % p := by rw [hw i (by omega), if_pos (by omega), if_neg (by omega)]
            have hvr := hVr q i
            have hm1 := mul13 (a := dgI p w0 q) (b := V0 q i) ⟨by omega, by omega⟩ ⟨by omega, by omega⟩
            have hm2 := emr (smT q (fun j => dgI p w0 j * V0 j i)) (p := p) (by omega)
            refine b_X1_send_55 o of ?_
            rw [ho2 a (by omega), c1, show z.toNat = i by omega, show u.toNat = q by omega, eV, eW, ho2 f (by omega), hf]
            refine ⟨⟨by omega, by omega⟩, ⟨by omega, by omega⟩, fun c => by omega, fun _ => ⟨by omega, by omega, by omega, by omega, ⟨by omega, by omega⟩, by omega, by omega, fun Z3 e3 => ih2 (i + 1) (z + 1) Z3 (by omega) (by omega) (fun t ht => ?_) (fun b hb => ?_)⟩⟩
            · rw [e3, up_at]
              by_cases ct : t = i
              · rw [if_pos ct, if_pos (by omega), if_pos (by omega), Int.emod_add_emod, ct]; rfl
              · rw [if_neg ct, hw t ht]
                by_cases ct2 : t < len
                · rw [if_pos ct2, if_pos ct2]
                  by_cases ct3 : t < i
                  · rw [if_pos ct3, if_pos (by omega)]
                  · rw [if_neg ct3, if_neg (by omega)]
                · rw [if_neg ct2, if_neg ct2]
            · rw [e3, up_row _ _ _ _ _ hb]; exact ho2 b hb
        exact lp2 len 0 0 Z1 rfl (by omega) (fun t ht => by rw [hz t ht, if_neg (show ¬ t < 0 by omega)]) ho
  refine b_X1_send_0 o fun Z1 e1 => lp dm 0 0 v Z1 rfl (by omega) hw0 (fun i hi => ?_) (fun b hb => ?_)
  · rw [e1, fill_at _ _ _ _ hi]
    split
    · show 0 = (0 : Int) % p; rw [Int.zero_emod]
    · rfl
  · rw [e1]; exact fill_row _ _ _ _ _ hb
theorem dX1_disturb_0 : decode cX1_disturb 0 = .ok (.aload_n 0, 1) := by decide +kernel
theorem dX1_disturb_1 : decode cX1_disturb 1 = .ok (.getfield 15, 3) := by decide +kernel
theorem dX1_disturb_4 : decode cX1_disturb 4 = .ok (.iconst 0, 1) := by decide +kernel
theorem dX1_disturb_5 : decode cX1_disturb 5 = .ok (.aload_n 0, 1) := by decide +kernel
theorem dX1_disturb_6 : decode cX1_disturb 6 = .ok (.getfield 35, 3) := by decide +kernel
theorem dX1_disturb_9 : decode cX1_disturb 9 = .ok (.iconst 0, 1) := by decide +kernel
theorem dX1_disturb_10 : decode cX1_disturb 10 = .ok (.bipush 26, 2) := by decide +kernel
theorem dX1_disturb_12 : decode cX1_disturb 12 = .ok (.invokestatic 113, 3) := by decide +kernel
theorem dX1_disturb_15 : decode cX1_disturb 15 = .ok (.iload_n 3, 1) := by decide +kernel
theorem dX1_disturb_16 : decode cX1_disturb 16 = .ok (.istore 4, 2) := by decide +kernel
theorem dX1_disturb_18 : decode cX1_disturb 18 = .ok (.iconst 0, 1) := by decide +kernel
theorem dX1_disturb_19 : decode cX1_disturb 19 = .ok (.istore 5, 2) := by decide +kernel
theorem dX1_disturb_21 : decode cX1_disturb 21 = .ok (.iload 5, 2) := by decide +kernel
theorem dX1_disturb_23 : decode cX1_disturb 23 = .ok (.iload_n 2, 1) := by decide +kernel
theorem dX1_disturb_24 : decode cX1_disturb 24 = .ok (.if_icmp .ge 91, 3) := by decide +kernel
theorem dX1_disturb_27 : decode cX1_disturb 27 = .ok (.aload_n 0, 1) := by decide +kernel
theorem dX1_disturb_28 : decode cX1_disturb 28 = .ok (.getfield 61, 3) := by decide +kernel
theorem dX1_disturb_31 : decode cX1_disturb 31 = .ok (.ifCond .le 84, 3) := by decide +kernel
theorem dX1_disturb_34 : decode cX1_disturb 34 = .ok (.iload 4, 2) := by decide +kernel
theorem dX1_disturb_36 : decode cX1_disturb 36 = .ok (.invokestatic 119, 3) := by decide +kernel
theorem dX1_disturb_39 : decode cX1_disturb 39 = .ok (.istore 4, 2) := by decide +kernel
theorem dX1_disturb_41 : decode cX1_disturb 41 = .ok (.iload 4, 2) := by decide +kernel
theorem dX1_disturb_43 : decode cX1_disturb 43 = .ok (.bipush 16, 2) := by decide +kernel
theorem dX1_disturb_45 : decode cX1_disturb 45 = .ok (.iushr, 1) := by decide +kernel
theorem dX1_disturb_46 : decode cX1_disturb 46 = .ok (.aload_n 0, 1) := by decide +kernel
theorem dX1_disturb_47 : decode cX1_disturb 47 = .ok (.getfield 61, 3) := by decide +kernel
theorem dX1_disturb_50 : decode cX1_disturb 50 = .ok (.irem, 1) := by decide +kernel
theorem dX1_disturb_51 : decode cX1_disturb 51 = .ok (.istore 6, 2) := by decide +kernel
theorem dX1_disturb_53 : decode cX1_disturb 53 = .ok (.iload 4, 2) := by decide +kernel
theorem dX1_disturb_55 : decode cX1_disturb 55 = .ok (.invokestatic 119, 3) := by decide +kernel
theorem dX1_disturb_58 : decode cX1_disturb 58 = .ok (.istore 4, 2) := by decide +kernel
theorem dX1_disturb_60 : decode cX1_disturb 60 = .ok (.aload_n 1, 1) := by decide +kernel
theorem dX1_disturb_61 : decode cX1_disturb 61 = .ok (.getfield 98, 3) := by decide +kernel
theorem dX1_disturb_64 : decode cX1_disturb 64 = .ok (.iconst 2, 1) := by decide +kernel
theorem dX1_disturb_65 : decode cX1_disturb 65 = .ok (.if_icmp .ge 7, 3) := by decide +kernel
theorem dX1_disturb_68 : decode cX1_disturb 68 = .ok (.iconst 0, 1) := by decide +kernel
theorem dX1_disturb_69 : decode cX1_disturb 69 = .ok (.goto 17, 3) := by decide +kernel
theorem dX1_disturb_72 : decode cX1_disturb 72 = .ok (.iload 4, 2) := by decide +kernel
theorem dX1_disturb_74 : decode cX1_disturb 74 = .ok (.bipush 16, 2) := by decide +kernel
theorem dX1_disturb_76 : decode cX1_disturb 76 = .ok (.iushr, 1) := by decide +kernel
theorem dX1_disturb_77 : decode cX1_disturb 77 = .ok (.aload_n 1, 1) := by decide +kernel
theorem dX1_disturb_78 : decode cX1_disturb 78 = .ok (.getfield 98, 3) := by decide +kernel
theorem dX1_disturb_81 : decode cX1_disturb 81 = .ok (.iconst 1, 1) := by decide +kernel
theorem dX1_disturb_82 : decode cX1_disturb 82 = .ok (.isub, 1) := by decide +kernel
theorem dX1_disturb_83 : decode cX1_disturb 83 = .ok (.irem, 1) := by decide +kernel
theorem dX1_disturb_84 : decode cX1_disturb 84 = .ok (.iconst 1, 1) := by decide +kernel
theorem dX1_disturb_85 : decode cX1_disturb 85 = .ok (.iadd, 1) := by decide +kernel
theorem dX1_disturb_86 : decode cX1_disturb 86 = .ok (.istore 7, 2) := by decide +kernel
theorem dX1_disturb_88 : decode cX1_disturb 88 = .ok (.aload_n 0, 1) := by decide +kernel
theorem dX1_disturb_89 : decode cX1_disturb 89 = .ok (.getfield 35, 3) := by decide +kernel
theorem dX1_disturb_92 : decode cX1_disturb 92 = .ok (.iload 6, 2) := by decide +kernel
theorem dX1_disturb_94 : decode cX1_disturb 94 = .ok (.aload_n 1, 1) := by decide +kernel
theorem dX1_disturb_95 : decode cX1_disturb 95 = .ok (.aload_n 0, 1) := by decide +kernel
theorem dX1_disturb_96 : decode cX1_disturb 96 = .ok (.getfield 35, 3) := by decide +kernel
theorem dX1_disturb_99 : decode cX1_disturb 99 = .ok (.iload 6, 2) := by decide +kernel
theorem dX1_disturb_101 : decode cX1_disturb 101 = .ok (.iaload, 1) := by decide +kernel
theorem dX1_disturb_102 : decode cX1_disturb 102 = .ok (.iload 7, 2) := by decide +kernel
theorem dX1_disturb_104 : decode cX1_disturb 104 = .ok (.iadd, 1) := by decide +kernel
theorem dX1_disturb_105 : decode cX1_disturb 105 = .ok (.invokevirtual 109, 3) := by decide +kernel
theorem dX1_disturb_108 : decode cX1_disturb 108 = .ok (.iastore, 1) := by decide +kernel
theorem dX1_disturb_109 : decode cX1_disturb 109 = .ok (.iinc 5 1, 3) := by decide +kernel
theorem dX1_disturb_112 : decode cX1_disturb 112 = .ok (.goto (-91), 3) := by decide +kernel
theorem dX1_disturb_115 : decode cX1_disturb 115 = .ok (.return_, 1) := by decide +kernel
set_option maxRecDepth 20000 in
theorem b_X1_disturb_0 {k n : Nat} {x : Wx} {Z : Zt} {Q : Option Value → Wx → Zt → Prop} {a0 : Nat} {a1 : Nat} {v2 : Int} {v3 : Int} (o_a0 : Is1 x a0)
    (h : ∀ Z1 : Zt, Z1 = cpyZ Z (a0 + 2) 0 (a0 + 110) 0 26 → (V mX1_disturb k n 21 [some (r_ a0), some (r_ a1), some (i_ v2), none, some (i_ v3), some (i_ 0), none, none] [] x Z1 Q)) :
    V mX1_disturb k n 0 [some (r_ a0), some (r_ a1), some (i_ v2), some (i_ v3), none, none, none, none] [] x Z Q :=
  V_aload_n dX1_disturb_0 rfl (G_1_6 o_a0.1 o_a0.2.2.2.1 lf_1_15 dX1_disturb_1 (V_iconst dX1_disturb_4 (V_aload_n dX1_disturb_5 rfl (G_1_14 o_a0.1 o_a0.2.2.2.2.2.2.2.2.2.2.2.2.2.2.2.2.2.2.1 lf_1_35 dX1_disturb_6 (V_iconst dX1_disturb_9 (V_bipush dX1_disturb_10 rfl (V_acopy (t := 100) o_a0.2.2.2.2.1 o_a0.2.2.2.2.2.2.2.2.2.2.2.2.2.2.2.2.2.2.2.1 (by decide) (by decide) rfl (fun _ _ => rfl) (by decide) (by decide) (by decide) (by decide) (by decide) ⟨(Nat.le_of_ble_eq_true rfl), (Nat.le_of_ble_eq_true rfl)⟩ (fun _ _ => rfl) lm_1_113 lcpn lcps lini_J10 (Nat.le_of_ble_eq_true rfl) (Nat.le_of_ble_eq_true rfl) dX1_disturb_12 (V_nmZ (fun Z1 eZ1 => V_iload_n dX1_disturb_15 rfl (V_istore (lv' := [some (r_ a0), some (r_ a1), some (i_ v2), some (i_ v3), some (i_ v3), none, none, none]) dX1_disturb_16 (Nat.le_of_ble_eq_true rfl) rfl (V_iconst dX1_disturb_18 (V_istore (lv' := [some (r_ a0), some (r_ a1), some (i_ v2), some (i_ v3), some (i_ v3), some (i_ 0), none, none]) dX1_disturb_19 (Nat.le_of_ble_eq_true rfl) rfl (V_msk [true, true, true, false, true, true, false, false] rfl (h Z1 eZ1))))))))))))))
set_option maxRecDepth 20000 in
theorem b_X1_disturb_21 {k n : Nat} {x : Wx} {Z : Zt} {Q : Option Value → Wx → Zt → Prop} {a0 : Nat} {a1 : Nat} {v2 : Int} {v4 : Int} {v5 : Int} (o_a0 : Is1 x a0) (o_a1 : Is4 x a1)
    (h : Rg v5 ∧ Rg v2 ∧ (((v2 ≤ v5) → (Q none x Z)) ∧ ((v5 < v2) → (Rg (Z a0 0) ∧ (((Z a0 0 ≤ 0) → (Q none x Z)) ∧ ((0 < Z a0 0) → (Rg ((v4 * 1103515245 + 12345) % 4294967296 / 2 ^ 16) ∧ (∀ i1 : Int, i1 = Int.tmod ((v4 * 1103515245 + 12345) % 4294967296 / 2 ^ 16) (Z a0 0) → (Rg (Z a1 0) ∧ (((2 ≤ Z a1 0) → (Rg (((v4 * 1103515245 + 12345) * 1103515245 + 12345) % 4294967296 / 2 ^ 16) ∧ Rg ((Z a1 0) - 1) ∧ 0 < (Z a1 0) - 1 ∧ (V mX1_disturb k n 86 [some (r_ a0), some (r_ a1), some (i_ v2), none, some (i_ ((v4 * 1103515245 + 12345) * 1103515245 + 12345)), some (i_ v5), some (i_ i1), none] [i_ ((Int.tmod (((v4 * 1103515245 + 12345) * 1103515245 + 12345) % 4294967296 / 2 ^ 16) ((Z a1 0) - 1)) + 1)] x Z Q))) ∧ ((Z a1 0 < 2) → (V mX1_disturb k n 86 [some (r_ a0), some (r_ a1), some (i_ v2), none, some (i_ ((v4 * 1103515245 + 12345) * 1103515245 + 12345)), some (i_ v5), some (i_ i1), none] [i_ 0] x Z Q)))))))))))) :
    V mX1_disturb k n 21 [some (r_ a0), some (r_ a1), some (i_ v2), none, some (i_ v4), some (i_ v5), none, none] [] x Z Q :=
  V_iload dX1_disturb_21 rfl (V_iload_n dX1_disturb_23 rfl (V_icmp_ge (tgt := 115) dX1_disturb_24 rfl h.1 h.2.1 (fun c1 => V_ret dX1_disturb_115 rfl (h.2.2.1 c1)) (fun c1 => V_aload_n dX1_disturb_27 rfl (G_1_0 o_a0.1 lf_1_61 dX1_disturb_28 (V_if_le (tgt := 115) dX1_disturb_31 rfl (h.2.2.2 c1).1 (fun c2 => V_ret dX1_disturb_115 rfl ((h.2.2.2 c1).2.1 c2)) (fun c2 => V_iload dX1_disturb_34 rfl (V_callS (k' := 0) (n' := 0) [i_ v4] [] okX1_drawNext lm_1_119 lsX1_drawNext (Nat.le_of_ble_eq_true rfl) (Nat.le_of_ble_eq_true rfl) (Nat.le_of_ble_eq_true rfl) (cat_of rfl) (Nat.le_of_ble_eq_true rfl) (Nat.zero_le _) (Nat.zero_le _) rfl dX1_disturb_36 (sp_X1_drawNext   (V_istore (lv' := [some (r_ a0), some (r_ a1), some (i_ v2), none, some (i_ (v4 * 1103515245 + 12345)), some (i_ v5), none, none]) dX1_disturb_39 (Nat.le_of_ble_eq_true rfl) rfl (V_iload dX1_disturb_41 rfl (V_bipush dX1_disturb_43 rfl (V_iushr dX1_disturb_45 (ushr_eq _ _ (by decide) (by decide)) (V_aload_n dX1_disturb_46 rfl (G_1_0 o_a0.1 lf_1_61 dX1_disturb_47 (V_irem dX1_disturb_50 ((h.2.2.2 c1).2.2 c2).1 (h.2.2.2 c1).1 c2 (V_nmi (fun i1 ei1 => V_istore (lv' := [some (r_ a0), some (r_ a1), some (i_ v2), none, some (i_ (v4 * 1103515245 + 12345)), some (i_ v5), some (i_ i1), none]) dX1_disturb_51 (Nat.le_of_ble_eq_true rfl) rfl (V_iload dX1_disturb_53 rfl (V_callS (k' := 0) (n' := 0) [i_ (v4 * 1103515245 + 12345)] [] okX1_drawNext lm_1_119 lsX1_drawNext (Nat.le_of_ble_eq_true rfl) (Nat.le_of_ble_eq_true rfl) (Nat.le_of_ble_eq_true rfl) (cat_of rfl) (Nat.le_of_ble_eq_true rfl) (Nat.zero_le _) (Nat.zero_le _) rfl dX1_disturb_55 (sp_X1_drawNext   (V_istore (lv' := [some (r_ a0), some (r_ a1), some (i_ v2), none, some (i_ ((v4 * 1103515245 + 12345) * 1103515245 + 12345)), some (i_ v5), some (i_ i1), none]) dX1_disturb_58 (Nat.le_of_ble_eq_true rfl) rfl (V_aload_n dX1_disturb_60 rfl (G_4_0 o_a1.1 lf_1_98 dX1_disturb_61 (V_iconst dX1_disturb_64 (V_icmp_ge (tgt := 72) dX1_disturb_65 rfl (((h.2.2.2 c1).2.2 c2).2 i1 ei1).1 (rg_c rfl) (fun c3 => V_iload dX1_disturb_72 rfl (V_bipush dX1_disturb_74 rfl (V_iushr dX1_disturb_76 (ushr_eq _ _ (by decide) (by decide)) (V_aload_n dX1_disturb_77 rfl (G_4_0 o_a1.1 lf_1_98 dX1_disturb_78 (V_iconst dX1_disturb_81 (V_isub dX1_disturb_82 (V_irem dX1_disturb_83 ((((h.2.2.2 c1).2.2 c2).2 i1 ei1).2.1 c3).1 ((((h.2.2.2 c1).2.2 c2).2 i1 ei1).2.1 c3).2.1 ((((h.2.2.2 c1).2.2 c2).2 i1 ei1).2.1 c3).2.2.1 (V_iconst dX1_disturb_84 (V_iadd dX1_disturb_85 (V_msk [true, true, true, false, true, true, true, false] rfl ((((h.2.2.2 c1).2.2 c2).2 i1 ei1).2.1 c3).2.2.2))))))))))) (fun c3 => V_iconst dX1_disturb_68 (V_goto (tgt := 86) dX1_disturb_69 rfl (V_msk [true, true, true, false, true, true, true, false] rfl ((((h.2.2.2 c1).2.2 c2).2 i1 ei1).2.2 c3)))))))))))))))))))))))))))))
set_option maxRecDepth 20000 in
theorem b_X1_disturb_86 {k n : Nat} {x : Wx} {Z : Zt} {Q : Option Value → Wx → Zt → Prop} {a0 : Nat} {a1 : Nat} {v2 : Int} {v4 : Int} {v5 : Int} {v6 : Int} {t0 : Int} (o_a0 : Is1 x a0) (o_a1 : Is4 x a1)
    (h : 0 ≤ v6 ∧ v6 < 26 ∧ (Rg ((Z (a0 + 110) v6.toNat) + t0) ∧ 2 ≤ Z a1 0 ∧ Z a1 0 ≤ 13 ∧ (∀ Z1 : Zt, Z1 = up Z (a0 + 110) v6.toNat (((Z (a0 + 110) v6.toNat) + t0) % Z a1 0) → (V mX1_disturb k n 21 [some (r_ a0), some (r_ a1), some (i_ v2), none, some (i_ v4), some (i_ (v5 + 1)), none, none] [] x Z1 Q)))) :
    V mX1_disturb k n 86 [some (r_ a0), some (r_ a1), some (i_ v2), none, some (i_ v4), some (i_ v5), some (i_ v6), none] [i_ t0] x Z Q :=
  V_istore (lv' := [some (r_ a0), some (r_ a1), some (i_ v2), none, some (i_ v4), some (i_ v5), some (i_ v6), some (i_ t0)]) dX1_disturb_86 (Nat.le_of_ble_eq_true rfl) rfl (V_aload_n dX1_disturb_88 rfl (G_1_14 o_a0.1 o_a0.2.2.2.2.2.2.2.2.2.2.2.2.2.2.2.2.2.2.1 lf_1_35 dX1_disturb_89 (V_iload dX1_disturb_92 rfl (V_aload_n dX1_disturb_94 rfl (V_aload_n dX1_disturb_95 rfl (G_1_14 o_a0.1 o_a0.2.2.2.2.2.2.2.2.2.2.2.2.2.2.2.2.2.2.1 lf_1_35 dX1_disturb_96 (V_iload dX1_disturb_99 rfl (V_iald (t := 100) o_a0.2.2.2.2.2.2.2.2.2.2.2.2.2.2.2.2.2.2.2.1 (by decide) rfl h.1 h.2.1 (Nat.le_of_ble_eq_true rfl) dX1_disturb_101 (V_iload dX1_disturb_102 rfl (V_iadd dX1_disturb_104 (V_callV (k' := 0) (n' := 0) (t := 4) (q := (RX4, TX4, 4)) [i_ ((Z (a0 + 110) v6.toNat) + t0)] [i_ v6, r_ (a0 + 110)] okX4_rem o_a1.1 rfl rfl lm_1_109 liX4_rem lqX4_rem (Nat.le_of_ble_eq_true rfl) (Nat.le_of_ble_eq_true rfl) (Nat.le_of_ble_eq_true rfl) (cat_of rfl) (Nat.le_of_ble_eq_true rfl) (Nat.zero_le _) (Nat.zero_le _) rfl dX1_disturb_105 (sp_X4_rem o_a1 h.2.2.1 h.2.2.2.1 h.2.2.2.2.1 (V_iast (t := 100) o_a0.2.2.2.2.2.2.2.2.2.2.2.2.2.2.2.2.2.2.2.1 (by decide) (by decide) rfl h.1 h.2.1 (Nat.le_of_ble_eq_true rfl) dX1_disturb_108 (V_nmZ (fun Z1 eZ1 => V_iinc (lv' := [some (r_ a0), some (r_ a1), some (i_ v2), none, some (i_ v4), some (i_ (v5 + 1)), some (i_ v6), some (i_ t0)]) dX1_disturb_109 rfl (Nat.le_of_ble_eq_true rfl) rfl (V_goto (tgt := 21) dX1_disturb_112 rfl (V_msk [true, true, true, false, true, true, false, false] rfl (h.2.2.2.2.2 Z1 eZ1))))))))))))))))))
def drw (x : Int) : Int := x * 1103515245 + 12345
/-- ERRORS -/
def dst (p : Int) (len : Nat) : Nat → Int → (Nat → Int) → Nat → Int
  | 0, _, D => D
  | e + 1, x, D => dst p len e (drw (drw x)) (upf D (Int.tmod (drw x % 4294967296 / 2 ^ 16) len).toNat ((D (Int.tmod (drw x % 4294967296 / 2 ^ 16) len).toNat + (Int.tmod (drw (drw x) % 4294967296 / 2 ^ 16) (p - 1) + 1)) % p))
theorem sp_X1_disturb {k n : Nat} {x : Wx} {Z : Zt} {Q : Option Value → Wx → Zt → Prop} {a f : Nat} {v sd : Int} (o : Is1 x a) (of : Is4 x f) {p : Int} {len : Nat} {S : Nat → Int} (hp : IsP p) (hf : Z f 0 = p) (hl : Z a 0 = (len : Int) ∧ 0 < len ∧ len ≤ 26) (hS : ∀ i : Nat, i < 26 → Z (a + 2) i = S i ∧ 0 ≤ S i ∧ S i < p) (hv : 0 ≤ v ∧ v ≤ 9) (hfa : f < a ∨ a + 113 ≤ f) (h : ∀ Z' : Zt, ((∀ i : Nat, i < 26 → Z' (a + 110) i = dst p len (Int.toNat v) sd S i ∧ 0 ≤ Z' (a + 110) i ∧ Z' (a + 110) i < p) ∧ Oth Z Z' (fun b => b = a + 110)) → Q none x Z') : V mX1_disturb k n 0 [some (r_ a), some (r_ f), some (i_ v), some (i_ sd), none, none, none, none] [] x Z Q := by
  have hpr := hp.rg
  have lp : ∀ (m : Nat) (u y : Int) (D : Nat → Int) (Z1 : Zt), u + m = v → 0 ≤ u → dst p len m y D = dst p len (Int.toNat v) sd S → (∀ i : Nat, i < 26 → Z1 (a + 110) i = D i ∧ 0 ≤ D i ∧ D i < p) → Oth Z Z1 (fun b => b = a + 110) → V mX1_disturb k n 21 [some (r_ a), some (r_ f), some (i_ v), none, some (i_ y), some (i_ u), none, none] [] x Z1 Q := by
    intro m
    induction m with
    | zero =>
      intro u y D Z1 hu h0 he hz ho
      have he' : D = dst p len (Int.toNat v) sd S := he
      refine b_X1_disturb_21 o of ⟨⟨by omega, by omega⟩, ⟨by omega, by omega⟩, fun _ => h Z1 ⟨fun i hi => ?_, ho⟩, fun c => by omega⟩
      have := hz i hi
      rw [this.1, ← he']; exact ⟨rfl, this.2⟩
    | succ m ih =>
      intro u y D Z1 hu h0 he hz ho
      have he' : dst p len m (drw (drw y)) (upf D (Int.tmod (drw y % 4294967296 / 2 ^ 16) len).toNat ((D (Int.tmod (drw y % 4294967296 / 2 ^ 16) len).toNat + (Int.tmod (drw (drw y) % 4294967296 / 2 ^ 16) (p - 1) + 1)) % p)) = dst p len (Int.toNat v) sd S := he
      have hb1 : ∀ z : Int, 0 ≤ z % 4294967296 / 2 ^ 16 ∧ z % 4294967296 / 2 ^ 16 ≤ 65535 := fun z => by
        have h1 := Int.emod_nonneg z (show (4294967296 : Int) ≠ 0 by decide)
        have h2 := Int.emod_lt_of_pos z (show (0 : Int) < 4294967296 by decide)
        rw [show (2 : Int) ^ 16 = 65536 by decide]; omega
      have d1 := hb1 (drw y)
      have d2 := hb1 (drw (drw y))
      have hdy : y * 1103515245 + 12345 = drw y := rfl
      have hdy2 : drw y * 1103515245 + 12345 = drw (drw y) := rfl
      refine b_X1_disturb_21 o of ?_
      rw [hdy, hdy2, ho a (by omega), hl.1, ho f (by omega), hf]
      generalize drw y % 4294967296 / 2 ^ 16 = A at he' d1 ⊢
      generalize drw (drw y) % 4294967296 / 2 ^ 16 = B at he' d2 ⊢
      have hA : Int.tmod A (len : Int) = A % (len : Int) := Int.tmod_eq_emod_of_nonneg d1.1
      have hB : Int.tmod B (p - 1) = B % (p - 1) := Int.tmod_eq_emod_of_nonneg d2.1
      have hA1 := emr A (p := (len : Int)) (by omega)
      have hB1 := emr B (p := p - 1) (by omega)
      rw [hA, hB] at he'
      rw [hA, hB]
      refine ⟨⟨by omega, by omega⟩, ⟨by omega, by omega⟩, fun c => by omega, fun _ => ⟨⟨by omega, by omega⟩, fun c => by omega, fun _ => ⟨⟨by omega, by omega⟩, fun i1 e1 => ⟨⟨by omega, by omega⟩, fun _ => ⟨⟨by omega, by omega⟩, ⟨by omega, by omega⟩, by omega, b_X1_disturb_86 o of ?_⟩, fun c => by omega⟩⟩⟩⟩
      rw [e1, ho f (by omega), hf]
      have hz1 := hz (A % (len : Int)).toNat (by omega)
      rw [hz1.1]
      refine ⟨by omega, by omega, ⟨by omega, by omega⟩, by omega, by omega, fun Z2 e2 => ih (u + 1) _ _ Z2 (by omega) (by omega) he' (fun i hi => ?_) (fun b hb => ?_)⟩
      · rw [e2, up_at]
        unfold upf
        by_cases ci : i = (A % (len : Int)).toNat
        · rw [if_pos ci, if_pos ci]; exact ⟨rfl, emr _ (by omega)⟩
        · rw [if_neg ci, if_neg ci]; exact hz i hi
      · rw [e2, up_row _ _ _ _ _ hb]; exact ho b hb
  refine b_X1_disturb_0 o fun Z1 e1 => lp v.toNat 0 sd S Z1 (by omega) (by omega) rfl (fun i hi => ?_) (fun b hb => ?_)
  · rw [e1, cpy_at, if_pos hi]; exact hS i hi
  · rw [e1]; exact cpy_row _ _ _ _ _ _ _ hb
theorem dX1_mend_0 : decode cX1_mend 0 = .ok (.aload_n 0, 1) := by decide +kernel
theorem dX1_mend_1 : decode cX1_mend 1 = .ok (.aload_n 0, 1) := by decide +kernel
theorem dX1_mend_2 : decode cX1_mend 2 = .ok (.getfield 61, 3) := by decide +kernel
theorem dX1_mend_5 : decode cX1_mend 5 = .ok (.iconst 1, 1) := by decide +kernel
theorem dX1_mend_6 : decode cX1_mend 6 = .ok (.iadd, 1) := by decide +kernel
theorem dX1_mend_7 : decode cX1_mend 7 = .ok (.putfield 122, 3) := by decide +kernel
theorem dX1_mend_10 : decode cX1_mend 10 = .ok (.aload_n 0, 1) := by decide +kernel
theorem dX1_mend_11 : decode cX1_mend 11 = .ok (.iconst 0, 1) := by decide +kernel
theorem dX1_mend_12 : decode cX1_mend 12 = .ok (.putfield 125, 3) := by decide +kernel
theorem dX1_mend_15 : decode cX1_mend 15 = .ok (.aload_n 0, 1) := by decide +kernel
theorem dX1_mend_16 : decode cX1_mend 16 = .ok (.invokevirtual 128, 3) := by decide +kernel
theorem dX1_mend_19 : decode cX1_mend 19 = .ok (.iconst 0, 1) := by decide +kernel
theorem dX1_mend_20 : decode cX1_mend 20 = .ok (.istore_n 2, 1) := by decide +kernel
theorem dX1_mend_21 : decode cX1_mend 21 = .ok (.iload_n 2, 1) := by decide +kernel
theorem dX1_mend_22 : decode cX1_mend 22 = .ok (.aload_n 0, 1) := by decide +kernel
theorem dX1_mend_23 : decode cX1_mend 23 = .ok (.getfield 92, 3) := by decide +kernel
theorem dX1_mend_26 : decode cX1_mend 26 = .ok (.if_icmp .ge 59, 3) := by decide +kernel
theorem dX1_mend_29 : decode cX1_mend 29 = .ok (.aload_n 0, 1) := by decide +kernel
theorem dX1_mend_30 : decode cX1_mend 30 = .ok (.aload_n 0, 1) := by decide +kernel
theorem dX1_mend_31 : decode cX1_mend 31 = .ok (.getfield 38, 3) := by decide +kernel
theorem dX1_mend_34 : decode cX1_mend 34 = .ok (.invokevirtual 131, 3) := by decide +kernel
theorem dX1_mend_37 : decode cX1_mend 37 = .ok (.istore_n 3, 1) := by decide +kernel
theorem dX1_mend_38 : decode cX1_mend 38 = .ok (.iload_n 3, 1) := by decide +kernel
theorem dX1_mend_39 : decode cX1_mend 39 = .ok (.aload_n 0, 1) := by decide +kernel
theorem dX1_mend_40 : decode cX1_mend 40 = .ok (.getfield 122, 3) := by decide +kernel
theorem dX1_mend_43 : decode cX1_mend 43 = .ok (.if_icmp .ge 13, 3) := by decide +kernel
theorem dX1_mend_46 : decode cX1_mend 46 = .ok (.aload_n 0, 1) := by decide +kernel
theorem dX1_mend_47 : decode cX1_mend 47 = .ok (.iload_n 3, 1) := by decide +kernel
theorem dX1_mend_48 : decode cX1_mend 48 = .ok (.putfield 122, 3) := by decide +kernel
theorem dX1_mend_51 : decode cX1_mend 51 = .ok (.aload_n 0, 1) := by decide +kernel
theorem dX1_mend_52 : decode cX1_mend 52 = .ok (.iconst 0, 1) := by decide +kernel
theorem dX1_mend_53 : decode cX1_mend 53 = .ok (.putfield 125, 3) := by decide +kernel
theorem dX1_mend_56 : decode cX1_mend 56 = .ok (.iload_n 3, 1) := by decide +kernel
theorem dX1_mend_57 : decode cX1_mend 57 = .ok (.aload_n 0, 1) := by decide +kernel
theorem dX1_mend_58 : decode cX1_mend 58 = .ok (.getfield 122, 3) := by decide +kernel
theorem dX1_mend_61 : decode cX1_mend 61 = .ok (.if_icmp .ne 13, 3) := by decide +kernel
theorem dX1_mend_64 : decode cX1_mend 64 = .ok (.aload_n 0, 1) := by decide +kernel
theorem dX1_mend_65 : decode cX1_mend 65 = .ok (.dup, 1) := by decide +kernel
theorem dX1_mend_66 : decode cX1_mend 66 = .ok (.getfield 125, 3) := by decide +kernel
theorem dX1_mend_69 : decode cX1_mend 69 = .ok (.iconst 1, 1) := by decide +kernel
theorem dX1_mend_70 : decode cX1_mend 70 = .ok (.iadd, 1) := by decide +kernel
theorem dX1_mend_71 : decode cX1_mend 71 = .ok (.putfield 125, 3) := by decide +kernel
theorem dX1_mend_74 : decode cX1_mend 74 = .ok (.aload_n 0, 1) := by decide +kernel
theorem dX1_mend_75 : decode cX1_mend 75 = .ok (.aload_n 1, 1) := by decide +kernel
theorem dX1_mend_76 : decode cX1_mend 76 = .ok (.invokevirtual 135, 3) := by decide +kernel
theorem dX1_mend_79 : decode cX1_mend 79 = .ok (.iinc 2 1, 3) := by decide +kernel
theorem dX1_mend_82 : decode cX1_mend 82 = .ok (.goto (-61), 3) := by decide +kernel
theorem dX1_mend_85 : decode cX1_mend 85 = .ok (.return_, 1) := by decide +kernel
set_option maxRecDepth 20000 in
theorem b_X1_mend_0 {k n : Nat} {x : Wx} {Z : Zt} {Q : Option Value → Wx → Zt → Prop} {a0 : Nat} {a1 : Nat} (o_a0 : Is1 x a0)
    (h : ∀ Z1 : Zt, Z1 = up Z a0 3 ((Z a0 0) + 1) → (∀ Z2 : Zt, Z2 = up Z1 a0 4 0 → (∀ (Z'1 : Zt), ((∀ i : Nat, i < 26 → Z'1 (a0 + 111) i = 0 ∧ Z'1 (a0 + 112) i = 0) ∧ Oth Z2 Z'1 (fun q => q = a0 + 111 ∨ q = a0 + 112)) → (V mX1_mend k n 21 [some (r_ a0), some (r_ a1), some (i_ 0), none] [] x Z'1 Q)))) :
    V mX1_mend k n 0 [some (r_ a0), some (r_ a1), none, none] [] x Z Q :=
  V_aload_n dX1_mend_0 rfl (V_aload_n dX1_mend_1 rfl (G_1_0 o_a0.1 lf_1_61 dX1_mend_2 (V_iconst dX1_mend_5 (V_iadd dX1_mend_6 (P_1_3 o_a0.1 lf_1_122 dX1_mend_7 (V_nmZ (fun Z1 eZ1 => V_aload_n dX1_mend_10 rfl (V_iconst dX1_mend_11 (P_1_4 o_a0.1 lf_1_125 dX1_mend_12 (V_nmZ (fun Z2 eZ2 => V_aload_n dX1_mend_15 rfl (V_callV (k' := 0) (n' := 0) (t := 1) (q := (RX1, TX1, 17)) [] [] okX1_beginWords o_a0.1 rfl rfl lm_1_128 liX1_beginWords lqX1_beginWords (Nat.le_of_ble_eq_true rfl) (Nat.le_of_ble_eq_true rfl) (Nat.le_of_ble_eq_true rfl) (cat_of rfl) (Nat.le_of_ble_eq_true rfl) (Nat.zero_le _) (Nat.zero_le _) rfl dX1_mend_16 (sp_X1_beginWords o_a0  (fun Z'1 p1 => V_iconst dX1_mend_19 (V_istore_n (lv' := [some (r_ a0), some (r_ a1), some (i_ 0), none]) dX1_mend_20 (Nat.le_of_ble_eq_true rfl) rfl (V_msk [true, true, true, false] rfl (((h Z1 eZ1) Z2 eZ2) Z'1 p1)))))))))))))))))
set_option maxRecDepth 20000 in
theorem b_X1_mend_21 {k n : Nat} {x : Wx} {Z : Zt} {Q : Option Value → Wx → Zt → Prop} {a0 : Nat} {a1 : Nat} {v2 : Int} (o_a0 : Is1 x a0)
    (h : Rg v2 ∧ Rg (Z a0 2) ∧ (((Z a0 2 ≤ v2) → (Q none x Z)) ∧ ((v2 < Z a0 2) → (∃ g1 : Nat, ((Z a0 0 = (g1 : Int) ∧ g1 ≤ 26) ∧ (∀ i : Nat, i < g1 → Rg (Z (a0 + 111) i) ∧ Rg (Z (a0 + 110) i)) ∧ (Rg (unl (Z (a0 + 111)) (Z (a0 + 110)) g1) ∧ Rg (Z a0 3) ∧ (((Z a0 3 ≤ unl (Z (a0 + 111)) (Z (a0 + 110)) g1) → (V mX1_mend k n 56 [some (r_ a0), some (r_ a1), some (i_ v2), some (i_ (unl (Z (a0 + 111)) (Z (a0 + 110)) g1))] [] x Z Q)) ∧ ((unl (Z (a0 + 111)) (Z (a0 + 110)) g1 < Z a0 3) → (∀ Z1 : Zt, Z1 = up Z a0 3 (unl (Z (a0 + 111)) (Z (a0 + 110)) g1) → (∀ Z2 : Zt, Z2 = up Z1 a0 4 0 → (V mX1_mend k n 56 [some (r_ a0), some (r_ a1), some (i_ v2), some (i_ (unl (Z (a0 + 111)) (Z (a0 + 110)) g1))] [] x Z2 Q))))))))))) :
    V mX1_mend k n 21 [some (r_ a0), some (r_ a1), some (i_ v2), none] [] x Z Q :=
  V_iload_n dX1_mend_21 rfl (V_aload_n dX1_mend_22 rfl (G_1_2 o_a0.1 lf_1_92 dX1_mend_23 (V_icmp_ge (tgt := 85) dX1_mend_26 rfl h.1 h.2.1 (fun c1 => V_ret dX1_mend_85 rfl (h.2.2.1 c1)) (fun c1 => V_aload_n dX1_mend_29 rfl (V_aload_n dX1_mend_30 rfl (G_1_15 o_a0.1 o_a0.2.2.2.2.2.2.2.2.2.2.2.2.2.2.2.2.2.2.2.2.1 lf_1_38 dX1_mend_31 (Exists.elim (h.2.2.2 c1) (fun g1 w1 => V_callV (k' := 0) (n' := 0) (t := 1) (q := (RX1, TX1, 17)) [r_ (a0 + 111)] [] okX1_unlikePlaces o_a0.1 rfl rfl lm_1_131 liX1_unlikePlaces lqX1_unlikePlaces (Nat.le_of_ble_eq_true rfl) (Nat.le_of_ble_eq_true rfl) (Nat.le_of_ble_eq_true rfl) (cat_of rfl) (Nat.le_of_ble_eq_true rfl) (Nat.zero_le _) (Nat.zero_le _) rfl dX1_mend_34 (sp_X1_unlikePlaces o_a0 o_a0.2.2.2.2.2.2.2.2.2.2.2.2.2.2.2.2.2.2.2.2.2.1 w1.1 w1.2.1 (V_istore_n (lv' := [some (r_ a0), some (r_ a1), some (i_ v2), some (i_ (unl (Z (a0 + 111)) (Z (a0 + 110)) g1))]) dX1_mend_37 (Nat.le_of_ble_eq_true rfl) rfl (V_iload_n dX1_mend_38 rfl (V_aload_n dX1_mend_39 rfl (G_1_3 o_a0.1 lf_1_122 dX1_mend_40 (V_icmp_ge (tgt := 56) dX1_mend_43 rfl w1.2.2.1 w1.2.2.2.1 (fun c2 => V_msk [true, true, true, true] rfl (w1.2.2.2.2.1 c2)) (fun c2 => V_aload_n dX1_mend_46 rfl (V_iload_n dX1_mend_47 rfl (P_1_3 o_a0.1 lf_1_122 dX1_mend_48 (V_nmZ (fun Z1 eZ1 => V_aload_n dX1_mend_51 rfl (V_iconst dX1_mend_52 (P_1_4 o_a0.1 lf_1_125 dX1_mend_53 (V_nmZ (fun Z2 eZ2 => V_msk [true, true, true, true] rfl (((w1.2.2.2.2.2 c2) Z1 eZ1) Z2 eZ2))))))))))))))))))))))))
set_option maxRecDepth 20000 in
theorem b_X1_mend_56 {k n : Nat} {x : Wx} {Z : Zt} {Q : Option Value → Wx → Zt → Prop} {a0 : Nat} {a1 : Nat} {v2 : Int} {v3 : Int} (o_a0 : Is1 x a0)
    (h : Rg v3 ∧ Rg (Z a0 3) ∧ (((v3 ≠ Z a0 3) → (V mX1_mend k n 74 [some (r_ a0), some (r_ a1), some (i_ v2), none] [] x Z Q)) ∧ ((v3 = Z a0 3) → (∀ Z1 : Zt, Z1 = up Z a0 4 ((Z a0 4) + 1) → (V mX1_mend k n 74 [some (r_ a0), some (r_ a1), some (i_ v2), none] [] x Z1 Q))))) :
    V mX1_mend k n 56 [some (r_ a0), some (r_ a1), some (i_ v2), some (i_ v3)] [] x Z Q :=
  V_iload_n dX1_mend_56 rfl (V_aload_n dX1_mend_57 rfl (G_1_3 o_a0.1 lf_1_122 dX1_mend_58 (V_icmp_ne (tgt := 74) dX1_mend_61 rfl h.1 h.2.1 (fun c1 => V_msk [true, true, true, false] rfl (h.2.2.1 c1)) (fun c1 => V_aload_n dX1_mend_64 rfl (V_dup dX1_mend_65 rfl (G_1_4 o_a0.1 lf_1_125 dX1_mend_66 (V_iconst dX1_mend_69 (V_iadd dX1_mend_70 (P_1_4 o_a0.1 lf_1_125 dX1_mend_71 (V_nmZ (fun Z1 eZ1 => V_msk [true, true, true, false] rfl ((h.2.2.2 c1) Z1 eZ1))))))))))))
set_option maxRecDepth 20000 in
theorem b_X1_mend_74 {k n : Nat} {x : Wx} {Z : Zt} {Q : Option Value → Wx → Zt → Prop} {a0 : Nat} {a1 : Nat} {v2 : Int} (o_a0 : Is1 x a0) (o_a1 : Is4 x a1)
    (h : ∃ g1 : Int, (∃ g2 : Nat → Nat → Int, (∃ g3 : Nat, (∃ g4 : Nat, (∃ g5 : Nat, (IsP g1 ∧ Z a1 0 = g1 ∧ (Z a0 0 = (g3 : Int) ∧ g3 ≤ 26) ∧ (Z a0 1 = (g4 : Int) ∧ g4 ≤ 26) ∧ (∀ j : Nat, j < g4 → ∀ i : Nat, i < g3 → Z (a0 + 83 + j) i = g2 j i ∧ 0 ≤ g2 j i ∧ g2 j i < g1) ∧ (∀ i : Nat, i < g3 → Z (a0 + 111) i = lcw g1 g2 g4 (dgI g1 g5) i) ∧ (∀ j : Nat, j < g4 → Z (a0 + 112) j = dgI g1 g5 j) ∧ (a1 < a0 ∨ a0 + 113 ≤ a1) ∧ (∀ (Z'1 : Zt), ((∀ i : Nat, i < g3 → Z'1 (a0 + 111) i = lcw g1 g2 g4 (dgI g1 (g5 + 1)) i) ∧ (∀ j : Nat, j < g4 → Z'1 (a0 + 112) j = dgI g1 (g5 + 1) j) ∧ Oth Z Z'1 (fun q => q = a0 + 111 ∨ q = a0 + 112)) → (V mX1_mend k n 21 [some (r_ a0), some (r_ a1), some (i_ (v2 + 1)), none] [] x Z'1 Q)))))))) :
    V mX1_mend k n 74 [some (r_ a0), some (r_ a1), some (i_ v2), none] [] x Z Q :=
  V_aload_n dX1_mend_74 rfl (V_aload_n dX1_mend_75 rfl (Exists.elim h (fun g1 w1 => Exists.elim w1 (fun g2 w2 => Exists.elim w2 (fun g3 w3 => Exists.elim w3 (fun g4 w4 => Exists.elim w4 (fun g5 w5 => V_callV (k' := 0) (n' := 0) (t := 1) (q := (RX1, TX1, 17)) [r_ a1] [] okX1_nextWord o_a0.1 rfl rfl lm_1_135 liX1_nextWord lqX1_nextWord (Nat.le_of_ble_eq_true rfl) (Nat.le_of_ble_eq_true rfl) (Nat.le_of_ble_eq_true rfl) (cat_of rfl) (Nat.le_of_ble_eq_true rfl) (Nat.zero_le _) (Nat.zero_le _) rfl dX1_mend_76 (sp_X1_nextWord o_a0 o_a1 w5.1 w5.2.1 w5.2.2.1 w5.2.2.2.1 w5.2.2.2.2.1 w5.2.2.2.2.2.1 w5.2.2.2.2.2.2.1 w5.2.2.2.2.2.2.2.1 (fun Z'1 p1 => V_iinc (lv' := [some (r_ a0), some (r_ a1), some (i_ (v2 + 1)), none]) dX1_mend_79 rfl (Nat.le_of_ble_eq_true rfl) rfl (V_goto (tgt := 21) dX1_mend_82 rfl (V_msk [true, true, true, false] rfl (w5.2.2.2.2.2.2.2.2 Z'1 p1))))))))))))
theorem dX1_isSentNearest_0 : decode cX1_isSentNearest 0 = .ok (.aload_n 0, 1) := by decide +kernel
theorem dX1_isSentNearest_1 : decode cX1_isSentNearest 1 = .ok (.aload_n 0, 1) := by decide +kernel
theorem dX1_isSentNearest_2 : decode cX1_isSentNearest 2 = .ok (.getfield 15, 3) := by decide +kernel
theorem dX1_isSentNearest_5 : decode cX1_isSentNearest 5 = .ok (.invokevirtual 131, 3) := by decide +kernel
theorem dX1_isSentNearest_8 : decode cX1_isSentNearest 8 = .ok (.aload_n 0, 1) := by decide +kernel
theorem dX1_isSentNearest_9 : decode cX1_isSentNearest 9 = .ok (.getfield 122, 3) := by decide +kernel
theorem dX1_isSentNearest_12 : decode cX1_isSentNearest 12 = .ok (.if_icmp .ne 7, 3) := by decide +kernel
theorem dX1_isSentNearest_15 : decode cX1_isSentNearest 15 = .ok (.iconst 1, 1) := by decide +kernel
theorem dX1_isSentNearest_16 : decode cX1_isSentNearest 16 = .ok (.goto 4, 3) := by decide +kernel
theorem dX1_isSentNearest_19 : decode cX1_isSentNearest 19 = .ok (.iconst 0, 1) := by decide +kernel
theorem dX1_isSentNearest_20 : decode cX1_isSentNearest 20 = .ok (.ireturn, 1) := by decide +kernel
set_option maxRecDepth 20000 in
theorem b_X1_isSentNearest_0 {k n : Nat} {x : Wx} {Z : Zt} {Q : Option Value → Wx → Zt → Prop} {a0 : Nat} (o_a0 : Is1 x a0)
    (h : ∃ g1 : Nat, ((Z a0 0 = (g1 : Int) ∧ g1 ≤ 26) ∧ (∀ i : Nat, i < g1 → Rg (Z (a0 + 2) i) ∧ Rg (Z (a0 + 110) i)) ∧ (Rg (unl (Z (a0 + 2)) (Z (a0 + 110)) g1) ∧ Rg (Z a0 3) ∧ (((unl (Z (a0 + 2)) (Z (a0 + 110)) g1 ≠ Z a0 3) → (Q (some (i_ 0)) x Z)) ∧ ((unl (Z (a0 + 2)) (Z (a0 + 110)) g1 = Z a0 3) → (Q (some (i_ 1)) x Z)))))) :
    V mX1_isSentNearest k n 0 [some (r_ a0)] [] x Z Q :=
  V_aload_n dX1_isSentNearest_0 rfl (V_aload_n dX1_isSentNearest_1 rfl (G_1_6 o_a0.1 o_a0.2.2.2.1 lf_1_15 dX1_isSentNearest_2 (Exists.elim h (fun g1 w1 => V_callV (k' := 0) (n' := 0) (t := 1) (q := (RX1, TX1, 17)) [r_ (a0 + 2)] [] okX1_unlikePlaces o_a0.1 rfl rfl lm_1_131 liX1_unlikePlaces lqX1_unlikePlaces (Nat.le_of_ble_eq_true rfl) (Nat.le_of_ble_eq_true rfl) (Nat.le_of_ble_eq_true rfl) (cat_of rfl) (Nat.le_of_ble_eq_true rfl) (Nat.zero_le _) (Nat.zero_le _) rfl dX1_isSentNearest_5 (sp_X1_unlikePlaces o_a0 o_a0.2.2.2.2.1 w1.1 w1.2.1 (V_aload_n dX1_isSentNearest_8 rfl (G_1_3 o_a0.1 lf_1_122 dX1_isSentNearest_9 (V_icmp_ne (tgt := 19) dX1_isSentNearest_12 rfl w1.2.2.1 w1.2.2.2.1 (fun c1 => V_iconst dX1_isSentNearest_19 (V_iret (ty := .boolean) dX1_isSentNearest_20 rfl rfl (w1.2.2.2.2.1 c1))) (fun c1 => V_iconst dX1_isSentNearest_15 (V_goto (tgt := 20) dX1_isSentNearest_16 rfl (V_iret (ty := .boolean) dX1_isSentNearest_20 rfl rfl (w1.2.2.2.2.2 c1))))))))))))
/-- fewest and nearest -/
def mdS (u : Int) (w : Int × Int) : Int × Int := if u < w.1 then (u, 1) else if u = w.1 then (w.1, w.2 + 1) else w
def wdC (p : Int) (F r : Nat → Int) (n : Nat) : Nat → Int := lcw p (cdB p F r).1 (cdB p F r).2.2 (dgI p n)
def mdN (p : Int) (F r D : Nat → Int) : Nat → Int × Int
  | 0 => ((cdT p F r).1 + 1, 0)
  | n + 1 => mdS (unl (wdC p F r n) D (cdT p F r).1) (mdN p F r D n)
theorem mdN_rg (p : Int) (F r D : Nat → Int) : ∀ n : Nat, (0 ≤ (mdN p F r D n).1 ∧ (mdN p F r D n).1 ≤ (cdT p F r).1 + 1) ∧ (0 ≤ (mdN p F r D n).2 ∧ (mdN p F r D n).2 ≤ n)
  | 0 => ⟨⟨by show (0 : Int) ≤ ((cdT p F r).1 : Int) + 1; omega, Int.le_refl _⟩, ⟨Int.le_refl _, Int.le_refl _⟩⟩
  | n + 1 => by
    have ih := mdN_rg p F r D n
    have hu := unl_rg (wdC p F r n) D (cdT p F r).1
    show (0 ≤ (mdS _ (mdN p F r D n)).1 ∧ (mdS _ (mdN p F r D n)).1 ≤ _) ∧ (0 ≤ (mdS _ (mdN p F r D n)).2 ∧ (mdS _ (mdN p F r D n)).2 ≤ _)
    unfold mdS
    by_cases c : unl (wdC p F r n) D (cdT p F r).1 < (mdN p F r D n).1
    · rw [if_pos c]; dsimp only; omega
    · rw [if_neg c]
      by_cases c2 : unl (wdC p F r n) D (cdT p F r).1 = (mdN p F r D n).1
      · rw [if_pos c2]; dsimp only; omega
      · rw [if_neg c2]; omega
theorem wdC_0 {p : Int} {F r : Nat → Int} (i : Nat) : wdC p F r 0 i = 0 := by
  unfold wdC lcw
  have : ∀ m : Nat, smT m (fun j => dgI p 0 j * (cdB p F r).1 j i) = 0 := fun m => by
    induction m with
    | zero => rfl
    | succ m ih =>
      show smT m _ + dgI p 0 m * _ = 0
      rw [ih]; unfold dgI; rw [dgt0_z]
      show 0 + (0 : Int) * _ = 0
      rw [Int.zero_mul]; rfl
  rw [this, Int.zero_emod]
theorem dgI_0 (p : Int) (j : Nat) : dgI p 0 j = 0 := by unfold dgI; rw [dgt0_z]; rfl
theorem sp_X1_mend {k n : Nat} {x : Wx} {Z : Zt} {Q : Option Value → Wx → Zt → Prop} {a f : Nat} (o : Is1 x a) (of : Is4 x f) {p : Int} {F r : Nat → Int} (hp : IsP p) (hf : Z f 0 = p) (hA : CdA Z a p F r) (hD : ∀ i : Nat, i < 26 → 0 ≤ Z (a + 110) i ∧ Z (a + 110) i < p) (hfa : f < a ∨ a + 113 ≤ f) (h : ∀ Z' : Zt, ((Z' a = fun i => if i = 3 then (mdN p F r (Z (a + 110)) (szF p (cdB p F r).2.2).toNat).1 else if i = 4 then (mdN p F r (Z (a + 110)) (szF p (cdB p F r).2.2).toNat).2 else Z a i) ∧ Oth Z Z' (fun b => b = a ∨ b = a + 111 ∨ b = a + 112)) → Q none x Z') : V mX1_mend k n 0 [some (r_ a), some (r_ f), none, none] [] x Z Q := by
  have hpr := hp.rg
  have hT := (cdT_rg hp F r).1
  have hBI := cdB_I hp F r
  have hB1 := hBI.1
  have hsz := szF_rg (p := p) ⟨by omega, by omega⟩ (cdB p F r).2.2
  obtain ⟨⟨c1, c2, c3, c4⟩, c5, c6⟩ := id hA
  have lp : ∀ (m q : Nat) (v : Int) (Z1 : Zt), v = q → q + m = (szF p (cdB p F r).2.2).toNat → (Z1 a = fun i => if i = 3 then (mdN p F r (Z (a + 110)) q).1 else if i = 4 then (mdN p F r (Z (a + 110)) q).2 else Z a i) → (∀ i : Nat, i < (cdT p F r).1 → Z1 (a + 111) i = wdC p F r q i) → (∀ j : Nat, j < (cdB p F r).2.2 → Z1 (a + 112) j = dgI p q j) → Oth Z Z1 (fun b => b = a ∨ b = a + 111 ∨ b = a + 112) → V mX1_mend k n 21 [some (r_ a), some (r_ f), some (i_ v), none] [] x Z1 Q := by
    intro m
    induction m with
    | zero =>
      intro q v Z1 hv hq ha hw hg ho
      refine b_X1_mend_21 o ?_
      rw [show Z1 a 2 = szF p (cdB p F r).2.2 by rw [ha]; exact c3]
      rw [show q = (szF p (cdB p F r).2.2).toNat by omega] at ha
      exact ⟨⟨by omega, by omega⟩, ⟨by omega, by omega⟩, fun _ => h Z1 ⟨ha, ho⟩, fun c => by omega⟩
    | succ m ih =>
      intro q v Z1 hv hq ha hw hg ho
      have hmr := mdN_rg p F r (Z (a + 110)) q
      have hai : ∀ i : Nat, Z1 a i = if i = 3 then (mdN p F r (Z (a + 110)) q).1 else if i = 4 then (mdN p F r (Z (a + 110)) q).2 else Z a i := fun i => by rw [ha]
      have hur := unl_rg (wdC p F r q) (Z (a + 110)) (cdT p F r).1
      have hue : unl (Z1 (a + 111)) (Z1 (a + 110)) (cdT p F r).1 = unl (wdC p F r q) (Z (a + 110)) (cdT p F r).1 := unl_ext (fun i hi => ⟨hw i hi, by rw [ho _ (by omega)]⟩)
      have hms : mdN p F r (Z (a + 110)) (q + 1) = mdS (unl (wdC p F r q) (Z (a + 110)) (cdT p F r).1) (mdN p F r (Z (a + 110)) q) := rfl
      have nxt : ∀ Z2 : Zt, (Z2 a = fun i => if i = 3 then (mdN p F r (Z (a + 110)) (q + 1)).1 else if i = 4 then (mdN p F r (Z (a + 110)) (q + 1)).2 else Z a i) → (∀ b, b ≠ a → Z2 b = Z1 b) → V mX1_mend k n 74 [some (r_ a), some (r_ f), some (i_ v), none] [] x Z2 Q := fun Z2 h2 h3 => by
        have e1 : Z2 a 1 = ((cdB p F r).2.2 : Int) := by rw [h2]; exact c2
        have e0 : Z2 a 0 = ((cdT p F r).1 : Int) := by rw [h2]; exact c1
        refine b_X1_mend_74 o of ⟨p, (cdB p F r).1, (cdT p F r).1, (cdB p F r).2.2, q, hp, ?_, ⟨e0, hT⟩, ⟨e1, by omega⟩, fun j hj i hi => ⟨?_, (hBI.2 j hj).2 i hi⟩, fun i hi => ?_, fun j hj => ?_, hfa, fun Z3 hz3 => ih (q + 1) (v + 1) Z3 (by omega) (by omega) ?_ hz3.1 hz3.2.1 (fun b hb => ?_)⟩
        · rw [h3 f (by omega), ho f (by omega)]; exact hf
        · rw [h3 _ (by omega), ho _ (by omega)]; exact c6 j hj i hi
        · rw [h3 _ (by omega)]; exact hw i hi
        · rw [h3 _ (by omega)]; exact hg j hj
        · rw [hz3.2.2 a (by omega)]; exact h2
        · rw [hz3.2.2 b (by omega), h3 b (by omega)]; exact ho b hb
      refine b_X1_mend_21 o ?_
      rw [show Z1 a 2 = szF p (cdB p F r).2.2 by rw [ha]; exact c3]
      refine ⟨⟨by omega, by omega⟩, ⟨by omega, by omega⟩, fun c => by omega, fun _ => ⟨(cdT p F r).1, ⟨by rw [ha]; exact c1, hT⟩, fun i hi => ?_, ?_⟩⟩
      · rw [hw i hi, ho (a + 110) (by omega)]
        have h1 := lcw_rg (p := p) (by omega) (cdB p F r).1 (cdB p F r).2.2 (dgI p q) i
        have h2 := hD i (by omega)
        exact ⟨⟨by unfold wdC; omega, by unfold wdC; omega⟩, ⟨by omega, by omega⟩⟩
      · rw [hue, show Z1 a 3 = (mdN p F r (Z (a + 110)) q).1 by rw [ha]; rfl]
        generalize unl (wdC p F r q) (Z (a + 110)) (cdT p F r).1 = u at hur hms ⊢
        refine ⟨⟨by omega, by omega⟩, ⟨by omega, by omega⟩, fun c => b_X1_mend_56 o ?_, fun c Z2 e2 Z3 e3 => b_X1_mend_56 o ?_⟩
        · rw [show Z1 a 3 = (mdN p F r (Z (a + 110)) q).1 by rw [ha]; rfl, show Z1 a 4 = (mdN p F r (Z (a + 110)) q).2 by rw [ha]; rfl]
          unfold mdS at hms
          rw [if_neg (by omega)] at hms
          refine ⟨⟨by omega, by omega⟩, ⟨by omega, by omega⟩, fun c7 => nxt Z1 ?_ (fun _ _ => rfl), fun c7 Z2 e2 => nxt Z2 (funext fun i => ?_) (fun b hb => by rw [e2, up_row _ _ _ _ _ hb])⟩
          · rw [hms, if_neg c7]; exact ha
          · rw [hms, if_pos c7, e2, up_at]
            by_cases ci : i = 4
            · rw [if_pos ci, if_neg (by omega), if_pos ci]
            · rw [if_neg ci, hai i, if_neg ci]
              by_cases ci3 : i = 3
              · rw [if_pos ci3, if_pos ci3]
              · rw [if_neg ci3, if_neg ci3, if_neg ci]
        · have e33 : Z3 a 3 = u := by rw [e3, up_at, if_neg (by decide), e2, up_at, if_pos rfl]
          have e34 : Z3 a 4 = 0 := by rw [e3, up_at, if_pos rfl]
          rw [e33, e34]
          unfold mdS at hms
          rw [if_pos c] at hms
          refine ⟨⟨by omega, by omega⟩, ⟨by omega, by omega⟩, fun c7 => absurd rfl c7, fun _ Z4 e4 => nxt Z4 (funext fun i => ?_) (fun b hb => by rw [e4, up_row _ _ _ _ _ hb, e3, up_row _ _ _ _ _ hb, e2, up_row _ _ _ _ _ hb])⟩
          rw [hms, e4, up_at]
          by_cases ci : i = 4
          · rw [if_pos ci, if_neg (by omega), if_pos ci]; rfl
          · rw [if_neg ci, e3, up_at, if_neg ci, e2, up_at]
            by_cases ci3 : i = 3
            · rw [if_pos ci3, if_pos ci3]
            · rw [if_neg ci3, if_neg ci3, if_neg ci, hai i, if_neg ci3, if_neg ci]
  refine b_X1_mend_0 o fun Z1 e1 Z2 e2 Z3 hz3 => lp (szF p (cdB p F r).2.2).toNat 0 0 Z3 rfl (by omega) (funext fun i => ?_) (fun i hi => ?_) (fun j hj => ?_) (fun b hb => ?_)
  · rw [hz3.2 a (by omega), e2, up_at]
    by_cases ci : i = 4
    · rw [if_pos ci, if_neg (by omega), if_pos ci]; rfl
    · rw [if_neg ci, e1, up_at, c1]
      by_cases ci3 : i = 3
      · rw [if_pos ci3, if_pos ci3]; rfl
      · rw [if_neg ci3, if_neg ci3, if_neg ci]
  · rw [(hz3.1 i (by omega)).1, wdC_0]
  · rw [(hz3.1 j (by omega)).2, dgI_0]
  · rw [hz3.2 b (by omega), e2, up_row _ _ _ _ _ (by omega), e1, up_row _ _ _ _ _ (by omega)]
theorem sp_X1_isSentNearest {k n : Nat} {x : Wx} {Z : Zt} {Q : Option Value → Wx → Zt → Prop} {a : Nat} (o : Is1 x a) {len : Nat} (hl : Z a 0 = (len : Int) ∧ len ≤ 26) (hb : ∀ i : Nat, i < len → Rg (Z (a + 2) i) ∧ Rg (Z (a + 110) i)) (h3 : Rg (Z a 3)) (h : Q (some (i_ (bI (decide (unl (Z (a + 2)) (Z (a + 110)) len = Z a 3))))) x Z) : V mX1_isSentNearest k n 0 [some (r_ a)] [] x Z Q := by
  have hu := unl_rg (Z (a + 2)) (Z (a + 110)) len
  refine b_X1_isSentNearest_0 o ⟨len, hl, hb, ⟨by omega, by omega⟩, h3, fun c => ?_, fun c => ?_⟩
  · rw [decide_eq_false c] at h; exact h
  · rw [decide_eq_true c] at h; exact h
theorem dX1_weighAll_0 : decode cX1_weighAll 0 = .ok (.aload_n 0, 1) := by decide +kernel
theorem dX1_weighAll_1 : decode cX1_weighAll 1 = .ok (.getfield 44, 3) := by decide +kernel
theorem dX1_weighAll_4 : decode cX1_weighAll 4 = .ok (.ifCond .eq 4, 3) := by decide +kernel
theorem dX1_weighAll_7 : decode cX1_weighAll 7 = .ok (.return_, 1) := by decide +kernel
theorem dX1_weighAll_8 : decode cX1_weighAll 8 = .ok (.aload_n 0, 1) := by decide +kernel
theorem dX1_weighAll_9 : decode cX1_weighAll 9 = .ok (.getfield 9, 3) := by decide +kernel
theorem dX1_weighAll_12 : decode cX1_weighAll 12 = .ok (.iconst 0, 1) := by decide +kernel
theorem dX1_weighAll_13 : decode cX1_weighAll 13 = .ok (.invokestatic 103, 3) := by decide +kernel
theorem dX1_weighAll_16 : decode cX1_weighAll 16 = .ok (.aload_n 0, 1) := by decide +kernel
theorem dX1_weighAll_17 : decode cX1_weighAll 17 = .ok (.invokevirtual 128, 3) := by decide +kernel
theorem dX1_weighAll_20 : decode cX1_weighAll 20 = .ok (.iconst 0, 1) := by decide +kernel
theorem dX1_weighAll_21 : decode cX1_weighAll 21 = .ok (.istore_n 2, 1) := by decide +kernel
theorem dX1_weighAll_22 : decode cX1_weighAll 22 = .ok (.iload_n 2, 1) := by decide +kernel
theorem dX1_weighAll_23 : decode cX1_weighAll 23 = .ok (.aload_n 0, 1) := by decide +kernel
theorem dX1_weighAll_24 : decode cX1_weighAll 24 = .ok (.getfield 92, 3) := by decide +kernel
theorem dX1_weighAll_27 : decode cX1_weighAll 27 = .ok (.if_icmp .ge 62, 3) := by decide +kernel
theorem dX1_weighAll_30 : decode cX1_weighAll 30 = .ok (.iconst 0, 1) := by decide +kernel
theorem dX1_weighAll_31 : decode cX1_weighAll 31 = .ok (.istore_n 3, 1) := by decide +kernel
theorem dX1_weighAll_32 : decode cX1_weighAll 32 = .ok (.iconst 0, 1) := by decide +kernel
theorem dX1_weighAll_33 : decode cX1_weighAll 33 = .ok (.istore 4, 2) := by decide +kernel
theorem dX1_weighAll_35 : decode cX1_weighAll 35 = .ok (.iload 4, 2) := by decide +kernel
theorem dX1_weighAll_37 : decode cX1_weighAll 37 = .ok (.aload_n 0, 1) := by decide +kernel
theorem dX1_weighAll_38 : decode cX1_weighAll 38 = .ok (.getfield 61, 3) := by decide +kernel
theorem dX1_weighAll_41 : decode cX1_weighAll 41 = .ok (.if_icmp .ge 27, 3) := by decide +kernel
theorem dX1_weighAll_44 : decode cX1_weighAll 44 = .ok (.iload_n 3, 1) := by decide +kernel
theorem dX1_weighAll_45 : decode cX1_weighAll 45 = .ok (.aload_n 0, 1) := by decide +kernel
theorem dX1_weighAll_46 : decode cX1_weighAll 46 = .ok (.getfield 38, 3) := by decide +kernel
theorem dX1_weighAll_49 : decode cX1_weighAll 49 = .ok (.iload 4, 2) := by decide +kernel
theorem dX1_weighAll_51 : decode cX1_weighAll 51 = .ok (.iaload, 1) := by decide +kernel
theorem dX1_weighAll_52 : decode cX1_weighAll 52 = .ok (.ifCond .ne 7, 3) := by decide +kernel
theorem dX1_weighAll_55 : decode cX1_weighAll 55 = .ok (.iconst 0, 1) := by decide +kernel
theorem dX1_weighAll_56 : decode cX1_weighAll 56 = .ok (.goto 4, 3) := by decide +kernel
theorem dX1_weighAll_59 : decode cX1_weighAll 59 = .ok (.iconst 1, 1) := by decide +kernel
theorem dX1_weighAll_60 : decode cX1_weighAll 60 = .ok (.iadd, 1) := by decide +kernel
theorem dX1_weighAll_61 : decode cX1_weighAll 61 = .ok (.istore_n 3, 1) := by decide +kernel
theorem dX1_weighAll_62 : decode cX1_weighAll 62 = .ok (.iinc 4 1, 3) := by decide +kernel
theorem dX1_weighAll_65 : decode cX1_weighAll 65 = .ok (.goto (-30), 3) := by decide +kernel
theorem dX1_weighAll_68 : decode cX1_weighAll 68 = .ok (.aload_n 0, 1) := by decide +kernel
theorem dX1_weighAll_69 : decode cX1_weighAll 69 = .ok (.getfield 9, 3) := by decide +kernel
theorem dX1_weighAll_72 : decode cX1_weighAll 72 = .ok (.iload_n 3, 1) := by decide +kernel
theorem dX1_weighAll_73 : decode cX1_weighAll 73 = .ok (.dup2, 1) := by decide +kernel
theorem dX1_weighAll_74 : decode cX1_weighAll 74 = .ok (.iaload, 1) := by decide +kernel
theorem dX1_weighAll_75 : decode cX1_weighAll 75 = .ok (.iconst 1, 1) := by decide +kernel
theorem dX1_weighAll_76 : decode cX1_weighAll 76 = .ok (.iadd, 1) := by decide +kernel
theorem dX1_weighAll_77 : decode cX1_weighAll 77 = .ok (.iastore, 1) := by decide +kernel
theorem dX1_weighAll_78 : decode cX1_weighAll 78 = .ok (.aload_n 0, 1) := by decide +kernel
theorem dX1_weighAll_79 : decode cX1_weighAll 79 = .ok (.aload_n 1, 1) := by decide +kernel
theorem dX1_weighAll_80 : decode cX1_weighAll 80 = .ok (.invokevirtual 135, 3) := by decide +kernel
theorem dX1_weighAll_83 : decode cX1_weighAll 83 = .ok (.iinc 2 1, 3) := by decide +kernel
theorem dX1_weighAll_86 : decode cX1_weighAll 86 = .ok (.goto (-64), 3) := by decide +kernel
theorem dX1_weighAll_89 : decode cX1_weighAll 89 = .ok (.aload_n 0, 1) := by decide +kernel
theorem dX1_weighAll_90 : decode cX1_weighAll 90 = .ok (.iconst 1, 1) := by decide +kernel
theorem dX1_weighAll_91 : decode cX1_weighAll 91 = .ok (.putfield 44, 3) := by decide +kernel
theorem dX1_weighAll_94 : decode cX1_weighAll 94 = .ok (.return_, 1) := by decide +kernel
set_option maxRecDepth 20000 in
theorem b_X1_weighAll_0 {k n : Nat} {x : Wx} {Z : Zt} {Q : Option Value → Wx → Zt → Prop} {a0 : Nat} {a1 : Nat} (o_a0 : Is1 x a0)
    (h : Rg (Z a0 7) ∧ (((Z a0 7 = 0) → (∀ Z1 : Zt, Z1 = fillZ Z (a0 + 1) 27 (0 : Int) → (∀ (Z'1 : Zt), ((∀ i : Nat, i < 26 → Z'1 (a0 + 111) i = 0 ∧ Z'1 (a0 + 112) i = 0) ∧ Oth Z1 Z'1 (fun q => q = a0 + 111 ∨ q = a0 + 112)) → (V mX1_weighAll k n 22 [some (r_ a0), some (r_ a1), some (i_ 0), none, none] [] x Z'1 Q)))) ∧ ((Z a0 7 ≠ 0) → (Q none x Z)))) :
    V mX1_weighAll k n 0 [some (r_ a0), some (r_ a1), none, none, none] [] x Z Q :=
  V_aload_n dX1_weighAll_0 rfl (G_1_7 o_a0.1 lf_1_44 dX1_weighAll_1 (V_if_eq (tgt := 8) dX1_weighAll_4 rfl h.1 (fun c1 => V_aload_n dX1_weighAll_8 rfl (G_1_5 o_a0.1 o_a0.2.1 lf_1_9 dX1_weighAll_9 (V_iconst dX1_weighAll_12 (V_callS (k' := 0) (n' := 0) [r_ (a0 + 1), i_ 0] [] okJ7_fill_53178 lm_1_103 lsJ7_fill_53178 (Nat.le_of_ble_eq_true rfl) (Nat.le_of_ble_eq_true rfl) (Nat.le_of_ble_eq_true rfl) (cat_of rfl) (Nat.le_of_ble_eq_true rfl) (Nat.zero_le _) (Nat.zero_le _) rfl dX1_weighAll_13 (sp_J7_fill_53178 o_a0.2.2.1 (Nat.le_of_ble_eq_true rfl)  (V_nmZ (fun Z1 eZ1 => V_aload_n dX1_weighAll_16 rfl (V_callV (k' := 0) (n' := 0) (t := 1) (q := (RX1, TX1, 17)) [] [] okX1_beginWords o_a0.1 rfl rfl lm_1_128 liX1_beginWords lqX1_beginWords (Nat.le_of_ble_eq_true rfl) (Nat.le_of_ble_eq_true rfl) (Nat.le_of_ble_eq_true rfl) (cat_of rfl) (Nat.le_of_ble_eq_true rfl) (Nat.zero_le _) (Nat.zero_le _) rfl dX1_weighAll_17 (sp_X1_beginWords o_a0  (fun Z'1 p1 => V_iconst dX1_weighAll_20 (V_istore_n (lv' := [some (r_ a0), some (r_ a1), some (i_ 0), none, none]) dX1_weighAll_21 (Nat.le_of_ble_eq_true rfl) rfl (V_msk [true, true, true, false, false] rfl (((h.2.1 c1) Z1 eZ1) Z'1 p1))))))))))))) (fun c1 => V_ret dX1_weighAll_7 rfl (h.2.2 c1))))
set_option maxRecDepth 20000 in
theorem b_X1_weighAll_22 {k n : Nat} {x : Wx} {Z : Zt} {Q : Option Value → Wx → Zt → Prop} {a0 : Nat} {a1 : Nat} {v2 : Int} (o_a0 : Is1 x a0)
    (h : Rg v2 ∧ Rg (Z a0 2) ∧ (((Z a0 2 ≤ v2) → (∀ Z1 : Zt, Z1 = up Z a0 7 1 → (Q none x Z1))) ∧ ((v2 < Z a0 2) → (V mX1_weighAll k n 35 [some (r_ a0), some (r_ a1), some (i_ v2), some (i_ 0), some (i_ 0)] [] x Z Q)))) :
    V mX1_weighAll k n 22 [some (r_ a0), some (r_ a1), some (i_ v2), none, none] [] x Z Q :=
  V_iload_n dX1_weighAll_22 rfl (V_aload_n dX1_weighAll_23 rfl (G_1_2 o_a0.1 lf_1_92 dX1_weighAll_24 (V_icmp_ge (tgt := 89) dX1_weighAll_27 rfl h.1 h.2.1 (fun c1 => V_aload_n dX1_weighAll_89 rfl (V_iconst dX1_weighAll_90 (P_1_7 o_a0.1 lf_1_44 (Or.inr rfl) dX1_weighAll_91 (V_nmZ (fun Z1 eZ1 => V_ret dX1_weighAll_94 rfl ((h.2.2.1 c1) Z1 eZ1)))))) (fun c1 => V_iconst dX1_weighAll_30 (V_istore_n (lv' := [some (r_ a0), some (r_ a1), some (i_ v2), some (i_ 0), none]) dX1_weighAll_31 (Nat.le_of_ble_eq_true rfl) rfl (V_iconst dX1_weighAll_32 (V_istore (lv' := [some (r_ a0), some (r_ a1), some (i_ v2), some (i_ 0), some (i_ 0)]) dX1_weighAll_33 (Nat.le_of_ble_eq_true rfl) rfl (V_msk [true, true, true, true, true] rfl (h.2.2.2 c1)))))))))
set_option maxRecDepth 20000 in
theorem b_X1_weighAll_35 {k n : Nat} {x : Wx} {Z : Zt} {Q : Option Value → Wx → Zt → Prop} {a0 : Nat} {a1 : Nat} {v2 : Int} {v3 : Int} {v4 : Int} (o_a0 : Is1 x a0) (o_a1 : Is4 x a1)
    (h : Rg v4 ∧ Rg (Z a0 0) ∧ (((Z a0 0 ≤ v4) → (0 ≤ v3 ∧ v3 < 27 ∧ (∀ Z1 : Zt, Z1 = up Z (a0 + 1) v3.toNat ((Z (a0 + 1) v3.toNat) + 1) → (∃ g1 : Int, (∃ g2 : Nat → Nat → Int, (∃ g3 : Nat, (∃ g4 : Nat, (∃ g5 : Nat, (IsP g1 ∧ Z1 a1 0 = g1 ∧ (Z1 a0 0 = (g3 : Int) ∧ g3 ≤ 26) ∧ (Z1 a0 1 = (g4 : Int) ∧ g4 ≤ 26) ∧ (∀ j : Nat, j < g4 → ∀ i : Nat, i < g3 → Z1 (a0 + 83 + j) i = g2 j i ∧ 0 ≤ g2 j i ∧ g2 j i < g1) ∧ (∀ i : Nat, i < g3 → Z1 (a0 + 111) i = lcw g1 g2 g4 (dgI g1 g5) i) ∧ (∀ j : Nat, j < g4 → Z1 (a0 + 112) j = dgI g1 g5 j) ∧ (a1 < a0 ∨ a0 + 113 ≤ a1) ∧ (∀ (Z'1 : Zt), ((∀ i : Nat, i < g3 → Z'1 (a0 + 111) i = lcw g1 g2 g4 (dgI g1 (g5 + 1)) i) ∧ (∀ j : Nat, j < g4 → Z'1 (a0 + 112) j = dgI g1 (g5 + 1) j) ∧ Oth Z1 Z'1 (fun q => q = a0 + 111 ∨ q = a0 + 112)) → (V mX1_weighAll k n 22 [some (r_ a0), some (r_ a1), some (i_ (v2 + 1)), none, none] [] x Z'1 Q))))))))))) ∧ ((v4 < Z a0 0) → (0 ≤ v4 ∧ v4 < 26 ∧ (Rg (Z (a0 + 111) v4.toNat) ∧ (((Z (a0 + 111) v4.toNat ≠ 0) → (V mX1_weighAll k n 60 [some (r_ a0), some (r_ a1), some (i_ v2), none, some (i_ v4)] [i_ 1, i_ v3] x Z Q)) ∧ ((Z (a0 + 111) v4.toNat = 0) → (V mX1_weighAll k n 60 [some (r_ a0), some (r_ a1), some (i_ v2), none, some (i_ v4)] [i_ 0, i_ v3] x Z Q)))))))) :
    V mX1_weighAll k n 35 [some (r_ a0), some (r_ a1), some (i_ v2), some (i_ v3), some (i_ v4)] [] x Z Q :=
  V_iload dX1_weighAll_35 rfl (V_aload_n dX1_weighAll_37 rfl (G_1_0 o_a0.1 lf_1_61 dX1_weighAll_38 (V_icmp_ge (tgt := 68) dX1_weighAll_41 rfl h.1 h.2.1 (fun c1 => V_aload_n dX1_weighAll_68 rfl (G_1_5 o_a0.1 o_a0.2.1 lf_1_9 dX1_weighAll_69 (V_iload_n dX1_weighAll_72 rfl (V_dup2 dX1_weighAll_73 rfl rfl (V_iald (t := 100) o_a0.2.2.1 (by decide) rfl (h.2.2.1 c1).1 (h.2.2.1 c1).2.1 (Nat.le_of_ble_eq_true rfl) dX1_weighAll_74 (V_iconst dX1_weighAll_75 (V_iadd dX1_weighAll_76 (V_iast (t := 100) o_a0.2.2.1 (by decide) (by decide) rfl (h.2.2.1 c1).1 (h.2.2.1 c1).2.1 (Nat.le_of_ble_eq_true rfl) dX1_weighAll_77 (V_nmZ (fun Z1 eZ1 => V_aload_n dX1_weighAll_78 rfl (V_aload_n dX1_weighAll_79 rfl (Exists.elim ((h.2.2.1 c1).2.2 Z1 eZ1) (fun g1 w1 => Exists.elim w1 (fun g2 w2 => Exists.elim w2 (fun g3 w3 => Exists.elim w3 (fun g4 w4 => Exists.elim w4 (fun g5 w5 => V_callV (k' := 0) (n' := 0) (t := 1) (q := (RX1, TX1, 17)) [r_ a1] [] okX1_nextWord o_a0.1 rfl rfl lm_1_135 liX1_nextWord lqX1_nextWord (Nat.le_of_ble_eq_true rfl) (Nat.le_of_ble_eq_true rfl) (Nat.le_of_ble_eq_true rfl) (cat_of rfl) (Nat.le_of_ble_eq_true rfl) (Nat.zero_le _) (Nat.zero_le _) rfl dX1_weighAll_80 (sp_X1_nextWord o_a0 o_a1 w5.1 w5.2.1 w5.2.2.1 w5.2.2.2.1 w5.2.2.2.2.1 w5.2.2.2.2.2.1 w5.2.2.2.2.2.2.1 w5.2.2.2.2.2.2.2.1 (fun Z'1 p1 => V_iinc (lv' := [some (r_ a0), some (r_ a1), some (i_ (v2 + 1)), some (i_ v3), some (i_ v4)]) dX1_weighAll_83 rfl (Nat.le_of_ble_eq_true rfl) rfl (V_goto (tgt := 22) dX1_weighAll_86 rfl (V_msk [true, true, true, false, false] rfl (w5.2.2.2.2.2.2.2.2 Z'1 p1)))))))))))))))))))))) (fun c1 => V_iload_n dX1_weighAll_44 rfl (V_aload_n dX1_weighAll_45 rfl (G_1_15 o_a0.1 o_a0.2.2.2.2.2.2.2.2.2.2.2.2.2.2.2.2.2.2.2.2.1 lf_1_38 dX1_weighAll_46 (V_iload dX1_weighAll_49 rfl (V_iald (t := 100) o_a0.2.2.2.2.2.2.2.2.2.2.2.2.2.2.2.2.2.2.2.2.2.1 (by decide) rfl (h.2.2.2 c1).1 (h.2.2.2 c1).2.1 (Nat.le_of_ble_eq_true rfl) dX1_weighAll_51 (V_if_ne (tgt := 59) dX1_weighAll_52 rfl (h.2.2.2 c1).2.2.1 (fun c2 => V_iconst dX1_weighAll_59 (V_msk [true, true, true, false, true] rfl ((h.2.2.2 c1).2.2.2.1 c2))) (fun c2 => V_iconst dX1_weighAll_55 (V_goto (tgt := 60) dX1_weighAll_56 rfl (V_msk [true, true, true, false, true] rfl ((h.2.2.2 c1).2.2.2.2 c2)))))))))))))
set_option maxRecDepth 20000 in
theorem b_X1_weighAll_60 {k n : Nat} {x : Wx} {Z : Zt} {Q : Option Value → Wx → Zt → Prop} {a0 : Nat} {a1 : Nat} {v2 : Int} {v4 : Int} {t0 : Int} {t1 : Int} 
    (h : V mX1_weighAll k n 35 [some (r_ a0), some (r_ a1), some (i_ v2), some (i_ (t0 + t1)), some (i_ (v4 + 1))] [] x Z Q) :
    V mX1_weighAll k n 60 [some (r_ a0), some (r_ a1), some (i_ v2), none, some (i_ v4)] [i_ t1, i_ t0] x Z Q :=
  V_iadd dX1_weighAll_60 (V_istore_n (lv' := [some (r_ a0), some (r_ a1), some (i_ v2), some (i_ (t0 + t1)), some (i_ v4)]) dX1_weighAll_61 (Nat.le_of_ble_eq_true rfl) rfl (V_iinc (lv' := [some (r_ a0), some (r_ a1), some (i_ v2), some (i_ (t0 + t1)), some (i_ (v4 + 1))]) dX1_weighAll_62 rfl (Nat.le_of_ble_eq_true rfl) rfl (V_goto (tgt := 35) dX1_weighAll_65 rfl (V_msk [true, true, true, true, true] rfl h))))
theorem dX1_least_0 : decode cX1_least 0 = .ok (.iconst 1, 1) := by decide +kernel
theorem dX1_least_1 : decode cX1_least 1 = .ok (.istore_n 1, 1) := by decide +kernel
theorem dX1_least_2 : decode cX1_least 2 = .ok (.iload_n 1, 1) := by decide +kernel
theorem dX1_least_3 : decode cX1_least 3 = .ok (.aload_n 0, 1) := by decide +kernel
theorem dX1_least_4 : decode cX1_least 4 = .ok (.getfield 61, 3) := by decide +kernel
theorem dX1_least_7 : decode cX1_least 7 = .ok (.if_icmp .gt 20, 3) := by decide +kernel
theorem dX1_least_10 : decode cX1_least 10 = .ok (.aload_n 0, 1) := by decide +kernel
theorem dX1_least_11 : decode cX1_least 11 = .ok (.getfield 9, 3) := by decide +kernel
theorem dX1_least_14 : decode cX1_least 14 = .ok (.iload_n 1, 1) := by decide +kernel
theorem dX1_least_15 : decode cX1_least 15 = .ok (.iaload, 1) := by decide +kernel
theorem dX1_least_16 : decode cX1_least 16 = .ok (.ifCond .le 5, 3) := by decide +kernel
theorem dX1_least_19 : decode cX1_least 19 = .ok (.iload_n 1, 1) := by decide +kernel
theorem dX1_least_20 : decode cX1_least 20 = .ok (.ireturn, 1) := by decide +kernel
theorem dX1_least_21 : decode cX1_least 21 = .ok (.iinc 1 1, 3) := by decide +kernel
theorem dX1_least_24 : decode cX1_least 24 = .ok (.goto (-22), 3) := by decide +kernel
theorem dX1_least_27 : decode cX1_least 27 = .ok (.iconst 0, 1) := by decide +kernel
theorem dX1_least_28 : decode cX1_least 28 = .ok (.ireturn, 1) := by decide +kernel
set_option maxRecDepth 20000 in
theorem b_X1_least_0 {k n : Nat} {x : Wx} {Z : Zt} {Q : Option Value → Wx → Zt → Prop} {a0 : Nat} 
    (h : V mX1_least k n 2 [some (r_ a0), some (i_ 1)] [] x Z Q) :
    V mX1_least k n 0 [some (r_ a0), none] [] x Z Q :=
  V_iconst dX1_least_0 (V_istore_n (lv' := [some (r_ a0), some (i_ 1)]) dX1_least_1 (Nat.le_of_ble_eq_true rfl) rfl (V_msk [true, true] rfl h))
set_option maxRecDepth 20000 in
theorem b_X1_least_2 {k n : Nat} {x : Wx} {Z : Zt} {Q : Option Value → Wx → Zt → Prop} {a0 : Nat} {v1 : Int} (o_a0 : Is1 x a0)
    (h : Rg v1 ∧ Rg (Z a0 0) ∧ (((Z a0 0 < v1) → (Q (some (i_ 0)) x Z)) ∧ ((v1 ≤ Z a0 0) → (0 ≤ v1 ∧ v1 < 27 ∧ (Rg (Z (a0 + 1) v1.toNat) ∧ (((Z (a0 + 1) v1.toNat ≤ 0) → (V mX1_least k n 2 [some (r_ a0), some (i_ (v1 + 1))] [] x Z Q)) ∧ ((0 < Z (a0 + 1) v1.toNat) → (Q (some (i_ v1)) x Z)))))))) :
    V mX1_least k n 2 [some (r_ a0), some (i_ v1)] [] x Z Q :=
  V_iload_n dX1_least_2 rfl (V_aload_n dX1_least_3 rfl (G_1_0 o_a0.1 lf_1_61 dX1_least_4 (V_icmp_gt (tgt := 27) dX1_least_7 rfl h.1 h.2.1 (fun c1 => V_iconst dX1_least_27 (V_iret (ty := .int) dX1_least_28 rfl rfl (h.2.2.1 c1))) (fun c1 => V_aload_n dX1_least_10 rfl (G_1_5 o_a0.1 o_a0.2.1 lf_1_9 dX1_least_11 (V_iload_n dX1_least_14 rfl (V_iald (t := 100) o_a0.2.2.1 (by decide) rfl (h.2.2.2 c1).1 (h.2.2.2 c1).2.1 (Nat.le_of_ble_eq_true rfl) dX1_least_15 (V_if_le (tgt := 21) dX1_least_16 rfl (h.2.2.2 c1).2.2.1 (fun c2 => V_iinc (lv' := [some (r_ a0), some (i_ (v1 + 1))]) dX1_least_21 rfl (Nat.le_of_ble_eq_true rfl) rfl (V_goto (tgt := 2) dX1_least_24 rfl (V_msk [true, true] rfl ((h.2.2.2 c1).2.2.2.1 c2)))) (fun c2 => V_iload_n dX1_least_19 rfl (V_iret (ty := .int) dX1_least_20 rfl rfl ((h.2.2.2 c1).2.2.2.2 c2)))))))))))
def wtC (p : Int) (F r : Nat → Int) (n : Nat) : Int := unl (wdC p F r n) (fun _ => 0) (cdT p F r).1
/-- how many words of each weight -/
def wgN (p : Int) (F r : Nat → Int) : Nat → Nat → Int
  | 0 => fun _ => 0
  | n + 1 => upf (wgN p F r n) (wtC p F r n).toNat (wgN p F r n (wtC p F r n).toNat + 1)
def wgF (p : Int) (F r : Nat → Int) : Nat → Int := wgN p F r (szF p (cdB p F r).2.2).toNat
theorem wgN_rg (p : Int) (F r : Nat → Int) : ∀ n q : Nat, 0 ≤ wgN p F r n q ∧ wgN p F r n q ≤ n
  | 0, q => ⟨Int.le_refl 0, Int.le_refl 0⟩
  | n + 1, q => by
    have h1 := wgN_rg p F r n q
    have h2 := wgN_rg p F r n (wtC p F r n).toNat
    show 0 ≤ upf _ _ _ q ∧ upf _ _ _ q ≤ _
    unfold upf
    split <;> omega
theorem sp_X1_weighAll {k n : Nat} {x : Wx} {Z : Zt} {Q : Option Value → Wx → Zt → Prop} {a f : Nat} (o : Is1 x a) (of : Is4 x f) {p : Int} {F r : Nat → Int} (hp : IsP p) (hf : Z f 0 = p) (hA : CdA Z a p F r) (h7 : Z a 7 = 0 ∨ (Z a 7 = 1 ∧ ∀ q : Nat, q < 27 → Z (a + 1) q = wgF p F r q)) (hfa : f < a ∨ a + 113 ≤ f) (h : ∀ Z' : Zt, ((Z' a = fun i => if i = 7 then 1 else Z a i) ∧ (∀ q : Nat, q < 27 → Z' (a + 1) q = wgF p F r q) ∧ Oth Z Z' (fun b => b = a ∨ b = a + 1 ∨ b = a + 111 ∨ b = a + 112)) → Q none x Z') : V mX1_weighAll k n 0 [some (r_ a), some (r_ f), none, none, none] [] x Z Q := by
  have hpr := hp.rg
  have hT := (cdT_rg hp F r).1
  have hBI := cdB_I hp F r
  have hB1 := hBI.1
  have hsz := szF_rg (p := p) ⟨by omega, by omega⟩ (cdB p F r).2.2
  obtain ⟨⟨c1, c2, c3, c4⟩, c5, c6⟩ := id hA
  have lp : ∀ (m q : Nat) (v : Int) (Z1 : Zt), v = q → q + m = (szF p (cdB p F r).2.2).toNat → (∀ i : Nat, i < 27 → Z1 (a + 1) i = wgN p F r q i) → (∀ i : Nat, i < (cdT p F r).1 → Z1 (a + 111) i = wdC p F r q i) → (∀ j : Nat, j < (cdB p F r).2.2 → Z1 (a + 112) j = dgI p q j) → Oth Z Z1 (fun b => b = a + 1 ∨ b = a + 111 ∨ b = a + 112) → V mX1_weighAll k n 22 [some (r_ a), some (r_ f), some (i_ v), none, none] [] x Z1 Q := by
    intro m
    induction m with
    | zero =>
      intro q v Z1 hv hq hg hw hd ho
      refine b_X1_weighAll_22 o ?_
      rw [ho a (by omega), c3]
      refine ⟨⟨by omega, by omega⟩, ⟨by omega, by omega⟩, fun _ Z2 e2 => h Z2 ⟨funext fun i => ?_, fun i hi => ?_, fun b hb => ?_⟩, fun c => by omega⟩
      · rw [e2, up_at, ho a (by omega)]
      · rw [e2, up_row _ _ _ _ _ (by omega), hg i hi, show q = (szF p (cdB p F r).2.2).toNat by omega]; rfl
      · rw [e2, up_row _ _ _ _ _ (by omega)]; exact ho b (by omega)
    | succ m ih =>
      intro q v Z1 hv hq hg hw hd ho
      have lp2 : ∀ (m2 i : Nat) (u : Int), u = i → i + m2 = (cdT p F r).1 → V mX1_weighAll k n 35 [some (r_ a), some (r_ f), some (i_ v), some (i_ (unl (wdC p F r q) (fun _ => 0) i)), some (i_ u)] [] x Z1 Q := by
        intro m2
        induction m2 with
        | zero =>
          intro i u hu hi
          have hur := unl_rg (wdC p F r q) (fun _ => 0) i
          have hwt : unl (wdC p F r q) (fun _ => 0) i = wtC p F r q := by rw [show i = (cdT p F r).1 by omega]; rfl
          refine b_X1_weighAll_35 o of ?_
          rw [ho a (by omega), c1, hwt]
          rw [hwt] at hur
          rw [hg _ (by omega)]
          refine ⟨⟨by omega, by omega⟩, ⟨by omega, by omega⟩, fun _ => ⟨by omega, by omega, fun Z2 e2 => ⟨p, (cdB p F r).1, (cdT p F r).1, (cdB p F r).2.2, q, hp, ?_, ⟨?_, hT⟩, ⟨?_, by omega⟩, fun j hj i hi => ⟨?_, (hBI.2 j hj).2 i hi⟩, fun i hi => ?_, fun j hj => ?_, hfa, fun Z3 hz3 => ih (q + 1) (v + 1) Z3 (by omega) (by omega) (fun i hi => ?_) hz3.1 hz3.2.1 (fun b hb => ?_)⟩⟩, fun c => by omega⟩
          · rw [e2, up_row _ _ _ _ _ (by omega), ho f (by omega)]; exact hf
          · rw [e2, up_row _ _ _ _ _ (by omega), ho a (by omega)]; exact c1
          · rw [e2, up_row _ _ _ _ _ (by omega), ho a (by omega)]; exact c2
          · rw [e2, up_row _ _ _ _ _ (by omega), ho _ (by omega)]; exact c6 j hj i hi
          · rw [e2, up_row _ _ _ _ _ (by omega)]; exact hw i hi
          · rw [e2, up_row _ _ _ _ _ (by omega)]; exact hd j hj
          · rw [hz3.2.2 _ (by omega), e2, up_at]
            show _ = upf (wgN p F r q) _ _ i
            unfold upf
            by_cases ci : i = (wtC p F r q).toNat
            · rw [if_pos ci, if_pos ci]
            · rw [if_neg ci, if_neg ci]; exact hg i hi
          · rw [hz3.2.2 b (by omega), e2, up_row _ _ _ _ _ (by omega)]; exact ho b hb
        | succ m2 ih2 =>
          intro i u hu hi
          have h2 := ih2 (i + 1) (u + 1) (by omega) (by omega)
          unfold unl at h2
          have hwr := lcw_rg (p := p) (by omega) (cdB p F r).1 (cdB p F r).2.2 (dgI p q) i
          have hwr' : 0 ≤ wdC p F r q i ∧ wdC p F r q i < p := hwr
          refine b_X1_weighAll_35 o of ?_
          rw [ho a (by omega), c1, show u.toNat = i by omega, hw i (by omega)]
          refine ⟨⟨by omega, by omega⟩, ⟨by omega, by omega⟩, fun c => by omega, fun _ => ⟨by omega, by omega, ⟨by omega, by omega⟩, fun c => b_X1_weighAll_60 ?_, fun c => b_X1_weighAll_60 ?_⟩⟩
          · rw [if_neg c] at h2; rw [Int.add_comm (unl _ _ _) 1]; exact h2
          · rw [if_pos c] at h2; rw [Int.add_comm (unl _ _ _) 0]; exact h2
      refine b_X1_weighAll_22 o ?_
      rw [ho a (by omega), c3]
      exact ⟨⟨by omega, by omega⟩, ⟨by omega, by omega⟩, fun c => by omega, fun _ => lp2 (cdT p F r).1 0 0 rfl (by omega)⟩
  refine b_X1_weighAll_0 o ⟨?_, fun c Z1 e1 Z2 hz2 => lp (szF p (cdB p F r).2.2).toNat 0 0 Z2 rfl (by omega) (fun i hi => ?_) (fun i hi => ?_) (fun j hj => ?_) (fun b hb => ?_), fun c => h Z ⟨funext fun i => ?_, fun q hq => ?_, Oth.rf⟩⟩
  · rcases h7 with e | ⟨e, _⟩ <;> rw [e] <;> exact ⟨by decide, by decide⟩
  · rw [hz2.2 _ (by omega), e1, fill_at _ _ _ _ hi]; rfl
  · rw [(hz2.1 i (by omega)).1, wdC_0]
  · rw [(hz2.1 j (by omega)).2, dgI_0]
  · rw [hz2.2 b (by omega), e1]; exact fill_row _ _ _ _ _ (by omega)
  · by_cases ci : i = 7
    · rw [if_pos ci, ci]; exact (h7.resolve_left c).1
    · rw [if_neg ci]
  · exact (h7.resolve_left c).2 q hq
def lsN (W : Nat → Int) : Nat → Nat → Int
  | 0, _ => 0
  | m + 1, w => if 0 < W w then (w : Int) else lsN W m (w + 1)
theorem lsN_ext {W W' : Nat → Int} : ∀ {m w : Nat}, (∀ i : Nat, w ≤ i → i < w + m → W i = W' i) → lsN W m w = lsN W' m w
  | 0, _, _ => rfl
  | m + 1, w, h => by
    unfold lsN
    rw [h w (by omega) (by omega), lsN_ext (m := m) (w := w + 1) (fun i h1 h2 => h i (by omega) (by omega))]
theorem sp_X1_least {k n : Nat} {x : Wx} {Z : Zt} {Q : Option Value → Wx → Zt → Prop} {a : Nat} (o : Is1 x a) {len : Nat} (hl : Z a 0 = (len : Int) ∧ len ≤ 26) (hb : ∀ i : Nat, i < 27 → Rg (Z (a + 1) i)) (h : Q (some (i_ (lsN (Z (a + 1)) len 1))) x Z) : V mX1_least k n 0 [some (r_ a), none] [] x Z Q := by
  have lp : ∀ (m w : Nat) (v : Int), v = w → 1 ≤ w → w + m = len + 1 → lsN (Z (a + 1)) m w = lsN (Z (a + 1)) len 1 → V mX1_least k n 2 [some (r_ a), some (i_ v)] [] x Z Q := by
    intro m
    induction m with
    | zero =>
      intro w v hv h1 hw he
      have he' : 0 = lsN (Z (a + 1)) len 1 := he
      refine b_X1_least_2 o ?_
      rw [hl.1]
      rw [← he'] at h
      exact ⟨⟨by omega, by omega⟩, ⟨by omega, by omega⟩, fun _ => h, fun c => by omega⟩
    | succ m ih =>
      intro w v hv h1 hw he
      have he' : (if 0 < Z (a + 1) w then (w : Int) else lsN (Z (a + 1)) m (w + 1)) = lsN (Z (a + 1)) len 1 := he
      refine b_X1_least_2 o ?_
      rw [hl.1, show v.toNat = w by omega]
      refine ⟨⟨by omega, by omega⟩, ⟨by omega, by omega⟩, fun c => by omega, fun _ => ⟨by omega, by omega, hb w (by omega), fun c => ih (w + 1) (v + 1) (by omega) (by omega) (by omega) ?_, fun c => ?_⟩⟩
      · rw [if_neg (by omega)] at he'; exact he'
      · rw [if_pos c] at he'; rw [hv, he']; exact h
  exact b_X1_least_0 (lp len 1 1 rfl (by omega) (by omega) rfl)
