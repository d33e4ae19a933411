/-! ===== the reference: what is told; the curve that is taken ===== -/
theorem dX12_points_0 : decode cX12_points 0 = .ok (.aload_n 0, 1) := by decide +kernel
theorem dX12_points_1 : decode cX12_points 1 = .ok (.iconst 0, 1) := by decide +kernel
theorem dX12_points_2 : decode cX12_points 2 = .ok (.putfield 227, 3) := by decide +kernel
theorem dX12_points_5 : decode cX12_points 5 = .ok (.iconst 0, 1) := by decide +kernel
theorem dX12_points_6 : decode cX12_points 6 = .ok (.istore_n 1, 1) := by decide +kernel
theorem dX12_points_7 : decode cX12_points 7 = .ok (.iload_n 1, 1) := by decide +kernel
theorem dX12_points_8 : decode cX12_points 8 = .ok (.aload_n 0, 1) := by decide +kernel
theorem dX12_points_9 : decode cX12_points 9 = .ok (.getfield 179, 3) := by decide +kernel
theorem dX12_points_12 : decode cX12_points 12 = .ok (.if_icmp .ge 74, 3) := by decide +kernel
theorem dX12_points_15 : decode cX12_points 15 = .ok (.iconst 0, 1) := by decide +kernel
theorem dX12_points_16 : decode cX12_points 16 = .ok (.istore_n 2, 1) := by decide +kernel
theorem dX12_points_17 : decode cX12_points 17 = .ok (.iload_n 2, 1) := by decide +kernel
theorem dX12_points_18 : decode cX12_points 18 = .ok (.aload_n 0, 1) := by decide +kernel
theorem dX12_points_19 : decode cX12_points 19 = .ok (.getfield 179, 3) := by decide +kernel
theorem dX12_points_22 : decode cX12_points 22 = .ok (.if_icmp .ge 58, 3) := by decide +kernel
theorem dX12_points_25 : decode cX12_points 25 = .ok (.aload_n 0, 1) := by decide +kernel
theorem dX12_points_26 : decode cX12_points 26 = .ok (.iload_n 2, 1) := by decide +kernel
theorem dX12_points_27 : decode cX12_points 27 = .ok (.iload_n 2, 1) := by decide +kernel
theorem dX12_points_28 : decode cX12_points 28 = .ok (.imul, 1) := by decide +kernel
theorem dX12_points_29 : decode cX12_points 29 = .ok (.invokevirtual 182, 3) := by decide +kernel
theorem dX12_points_32 : decode cX12_points 32 = .ok (.aload_n 0, 1) := by decide +kernel
theorem dX12_points_33 : decode cX12_points 33 = .ok (.iconst 0, 1) := by decide +kernel
theorem dX12_points_34 : decode cX12_points 34 = .ok (.iload_n 1, 1) := by decide +kernel
theorem dX12_points_35 : decode cX12_points 35 = .ok (.invokevirtual 230, 3) := by decide +kernel
theorem dX12_points_38 : decode cX12_points 38 = .ok (.if_icmp .eq 6, 3) := by decide +kernel
theorem dX12_points_41 : decode cX12_points 41 = .ok (.goto 33, 3) := by decide +kernel
theorem dX12_points_44 : decode cX12_points 44 = .ok (.aload_n 0, 1) := by decide +kernel
theorem dX12_points_45 : decode cX12_points 45 = .ok (.getfield 23, 3) := by decide +kernel
theorem dX12_points_48 : decode cX12_points 48 = .ok (.aload_n 0, 1) := by decide +kernel
theorem dX12_points_49 : decode cX12_points 49 = .ok (.getfield 227, 3) := by decide +kernel
theorem dX12_points_52 : decode cX12_points 52 = .ok (.iload_n 1, 1) := by decide +kernel
theorem dX12_points_53 : decode cX12_points 53 = .ok (.iastore, 1) := by decide +kernel
theorem dX12_points_54 : decode cX12_points 54 = .ok (.aload_n 0, 1) := by decide +kernel
theorem dX12_points_55 : decode cX12_points 55 = .ok (.getfield 26, 3) := by decide +kernel
theorem dX12_points_58 : decode cX12_points 58 = .ok (.aload_n 0, 1) := by decide +kernel
theorem dX12_points_59 : decode cX12_points 59 = .ok (.getfield 227, 3) := by decide +kernel
theorem dX12_points_62 : decode cX12_points 62 = .ok (.iload_n 2, 1) := by decide +kernel
theorem dX12_points_63 : decode cX12_points 63 = .ok (.iastore, 1) := by decide +kernel
theorem dX12_points_64 : decode cX12_points 64 = .ok (.aload_n 0, 1) := by decide +kernel
theorem dX12_points_65 : decode cX12_points 65 = .ok (.dup, 1) := by decide +kernel
theorem dX12_points_66 : decode cX12_points 66 = .ok (.getfield 227, 3) := by decide +kernel
theorem dX12_points_69 : decode cX12_points 69 = .ok (.iconst 1, 1) := by decide +kernel
theorem dX12_points_70 : decode cX12_points 70 = .ok (.iadd, 1) := by decide +kernel
theorem dX12_points_71 : decode cX12_points 71 = .ok (.putfield 227, 3) := by decide +kernel
theorem dX12_points_74 : decode cX12_points 74 = .ok (.iinc 2 1, 3) := by decide +kernel
theorem dX12_points_77 : decode cX12_points 77 = .ok (.goto (-60), 3) := by decide +kernel
theorem dX12_points_80 : decode cX12_points 80 = .ok (.iinc 1 1, 3) := by decide +kernel
theorem dX12_points_83 : decode cX12_points 83 = .ok (.goto (-76), 3) := by decide +kernel
theorem dX12_points_86 : decode cX12_points 86 = .ok (.aload_n 0, 1) := by decide +kernel
theorem dX12_points_87 : decode cX12_points 87 = .ok (.getfield 23, 3) := by decide +kernel
theorem dX12_points_90 : decode cX12_points 90 = .ok (.aload_n 0, 1) := by decide +kernel
theorem dX12_points_91 : decode cX12_points 91 = .ok (.getfield 227, 3) := by decide +kernel
theorem dX12_points_94 : decode cX12_points 94 = .ok (.bipush (-2), 2) := by decide +kernel
theorem dX12_points_96 : decode cX12_points 96 = .ok (.iastore, 1) := by decide +kernel
theorem dX12_points_97 : decode cX12_points 97 = .ok (.aload_n 0, 1) := by decide +kernel
theorem dX12_points_98 : decode cX12_points 98 = .ok (.getfield 26, 3) := by decide +kernel
theorem dX12_points_101 : decode cX12_points 101 = .ok (.aload_n 0, 1) := by decide +kernel
theorem dX12_points_102 : decode cX12_points 102 = .ok (.getfield 227, 3) := by decide +kernel
theorem dX12_points_105 : decode cX12_points 105 = .ok (.bipush (-2), 2) := by decide +kernel
theorem dX12_points_107 : decode cX12_points 107 = .ok (.iastore, 1) := by decide +kernel
theorem dX12_points_108 : decode cX12_points 108 = .ok (.aload_n 0, 1) := by decide +kernel
theorem dX12_points_109 : decode cX12_points 109 = .ok (.dup, 1) := by decide +kernel
theorem dX12_points_110 : decode cX12_points 110 = .ok (.getfield 227, 3) := by decide +kernel
theorem dX12_points_113 : decode cX12_points 113 = .ok (.iconst 1, 1) := by decide +kernel
theorem dX12_points_114 : decode cX12_points 114 = .ok (.iadd, 1) := by decide +kernel
theorem dX12_points_115 : decode cX12_points 115 = .ok (.putfield 227, 3) := by decide +kernel
theorem dX12_points_118 : decode cX12_points 118 = .ok (.return_, 1) := by decide +kernel
set_option maxRecDepth 20000 in
theorem b_X12_points_0 {k n : Nat} {x : Wx} {Z : Zt} {Q : Option Value → Wx → Zt → Prop} {a0 : Nat} (o_a0 : Is12 x a0)
    (h : ∀ Z1 : Zt, Z1 = up Z a0 15 0 → (V mX12_points k n 7 [some (r_ a0), some (i_ 0), none] [] x Z1 Q)) :
    V mX12_points k n 0 [some (r_ a0), none, none] [] x Z Q :=
  V_aload_n dX12_points_0 rfl (V_iconst dX12_points_1 (P_12_15 o_a0.1 lf_12_227 dX12_points_2 (V_nmZ (fun Z1 eZ1 => V_iconst dX12_points_5 (V_istore_n (lv' := [some (r_ a0), some (i_ 0), none]) dX12_points_6 (Nat.le_of_ble_eq_true rfl) rfl (V_msk [true, true, false] rfl (h Z1 eZ1)))))))
set_option maxRecDepth 20000 in
theorem b_X12_points_7 {k n : Nat} {x : Wx} {Z : Zt} {Q : Option Value → Wx → Zt → Prop} {a0 : Nat} {v1 : Int} (o_a0 : Is12 x a0)
    (h : Rg v1 ∧ Rg (Z a0 11) ∧ (((Z a0 11 ≤ v1) → (0 ≤ Z a0 15 ∧ Z a0 15 < 32 ∧ (∀ Z1 : Zt, Z1 = up Z (a0 + 5) (Z a0 15).toNat (-2) → (0 ≤ Z1 a0 15 ∧ Z1 a0 15 < 32 ∧ (∀ Z2 : Zt, Z2 = up Z1 (a0 + 6) (Z1 a0 15).toNat (-2) → (∀ Z3 : Zt, Z3 = up Z2 a0 15 ((Z2 a0 15) + 1) → (Q none x Z3))))))) ∧ ((v1 < Z a0 11) → (V mX12_points k n 17 [some (r_ a0), some (i_ v1), some (i_ 0)] [] x Z Q)))) :
    V mX12_points k n 7 [some (r_ a0), some (i_ v1), none] [] x Z Q :=
  V_iload_n dX12_points_7 rfl (V_aload_n dX12_points_8 rfl (G_12_11 o_a0.1 lf_12_179 dX12_points_9 (V_icmp_ge (tgt := 86) dX12_points_12 rfl h.1 h.2.1 (fun c1 => V_aload_n dX12_points_86 rfl (G_12_13 o_a0.1 o_a0.qR13 lf_12_23 dX12_points_87 (V_aload_n dX12_points_90 rfl (G_12_15 o_a0.1 lf_12_227 dX12_points_91 (V_bipush dX12_points_94 rfl (V_iast (t := 100) o_a0.qK13 (by decide) (by decide) rfl (h.2.2.1 c1).1 (h.2.2.1 c1).2.1 (Nat.le_of_ble_eq_true rfl) dX12_points_96 (V_nmZ (fun Z1 eZ1 => V_aload_n dX12_points_97 rfl (G_12_14 o_a0.1 o_a0.qR14 lf_12_26 dX12_points_98 (V_aload_n dX12_points_101 rfl (G_12_15 o_a0.1 lf_12_227 dX12_points_102 (V_bipush dX12_points_105 rfl (V_iast (t := 100) o_a0.qK14 (by decide) (by decide) rfl ((h.2.2.1 c1).2.2 Z1 eZ1).1 ((h.2.2.1 c1).2.2 Z1 eZ1).2.1 (Nat.le_of_ble_eq_true rfl) dX12_points_107 (V_nmZ (fun Z2 eZ2 => V_aload_n dX12_points_108 rfl (V_dup dX12_points_109 rfl (G_12_15 o_a0.1 lf_12_227 dX12_points_110 (V_iconst dX12_points_113 (V_iadd dX12_points_114 (P_12_15 o_a0.1 lf_12_227 dX12_points_115 (V_nmZ (fun Z3 eZ3 => V_ret dX12_points_118 rfl ((((h.2.2.1 c1).2.2 Z1 eZ1).2.2 Z2 eZ2) Z3 eZ3))))))))))))))))))))))) (fun c1 => V_iconst dX12_points_15 (V_istore_n (lv' := [some (r_ a0), some (i_ v1), some (i_ 0)]) dX12_points_16 (Nat.le_of_ble_eq_true rfl) rfl (V_msk [true, true, true] rfl (h.2.2.2 c1)))))))
set_option maxRecDepth 20000 in
theorem b_X12_points_17 {k n : Nat} {x : Wx} {Z : Zt} {Q : Option Value → Wx → Zt → Prop} {a0 : Nat} {v1 : Int} {v2 : Int} (o_a0 : Is12 x a0)
    (h : Rg v2 ∧ Rg (Z a0 11) ∧ (((Z a0 11 ≤ v2) → (V mX12_points k n 7 [some (r_ a0), some (i_ (v1 + 1)), none] [] x Z Q)) ∧ ((v2 < Z a0 11) → (Rg (v2 * v2) ∧ 0 < Z a0 11 ∧ Z a0 11 ≤ 13 ∧ (∃ g1 : Nat → Nat → Int, (∃ g2 : Int, ((IsP g2 ∧ Z a0 11 = g2) ∧ MS Z a0 g1 ∧ (0 ≤ (0 : Int) ∧ (0 : Int) < 27) ∧ (0 ≤ v1 ∧ v1 ≤ 13) ∧ InP g2 (g1 (0 : Int).toNat) ∧ (Rg ((v2 * v2) % Z a0 11) ∧ Rg (ev g2 (g1 (0 : Int).toNat) v1) ∧ ((((v2 * v2) % Z a0 11 = ev g2 (g1 (0 : Int).toNat) v1) → (0 ≤ Z a0 15 ∧ Z a0 15 < 32 ∧ (∀ Z1 : Zt, Z1 = up Z (a0 + 5) (Z a0 15).toNat v1 → (0 ≤ Z1 a0 15 ∧ Z1 a0 15 < 32 ∧ (∀ Z2 : Zt, Z2 = up Z1 (a0 + 6) (Z1 a0 15).toNat v2 → (∀ Z3 : Zt, Z3 = up Z2 a0 15 ((Z2 a0 15) + 1) → (V mX12_points k n 17 [some (r_ a0), some (i_ v1), some (i_ (v2 + 1))] [] x Z3 Q))))))) ∧ (((v2 * v2) % Z a0 11 ≠ ev g2 (g1 (0 : Int).toNat) v1) → (V mX12_points k n 17 [some (r_ a0), some (i_ v1), some (i_ (v2 + 1))] [] x Z Q))))))))))) :
    V mX12_points k n 17 [some (r_ a0), some (i_ v1), some (i_ v2)] [] x Z Q :=
  V_iload_n dX12_points_17 rfl (V_aload_n dX12_points_18 rfl (G_12_11 o_a0.1 lf_12_179 dX12_points_19 (V_icmp_ge (tgt := 80) dX12_points_22 rfl h.1 h.2.1 (fun c1 => V_iinc (lv' := [some (r_ a0), some (i_ (v1 + 1)), some (i_ v2)]) dX12_points_80 rfl (Nat.le_of_ble_eq_true rfl) rfl (V_goto (tgt := 7) dX12_points_83 rfl (V_msk [true, true, false] rfl (h.2.2.1 c1)))) (fun c1 => V_aload_n dX12_points_25 rfl (V_iload_n dX12_points_26 rfl (V_iload_n dX12_points_27 rfl (V_imul dX12_points_28 (V_callV (k' := 0) (n' := 0) (t := 12) (q := (RX12, TX12, 46)) [i_ (v2 * v2)] [] okX12_mod o_a0.1 rfl rfl lm_12_182 liX12_mod lqX12_mod (Nat.le_of_ble_eq_true rfl) (Nat.le_of_ble_eq_true rfl) (Nat.le_of_ble_eq_true rfl) (cat_of rfl) (Nat.le_of_ble_eq_true rfl) (Nat.zero_le _) (Nat.zero_le _) rfl dX12_points_29 (sp_X12_mod o_a0 (h.2.2.2 c1).1 (h.2.2.2 c1).2.1 (h.2.2.2 c1).2.2.1 (V_aload_n dX12_points_32 rfl (V_iconst dX12_points_33 (V_iload_n dX12_points_34 rfl (Exists.elim (h.2.2.2 c1).2.2.2 (fun g1 w1 => Exists.elim w1 (fun g2 w2 => V_callV (k' := 0) (n' := 0) (t := 12) (q := (RX12, TX12, 46)) [i_ 0, i_ v1] [i_ ((v2 * v2) % Z a0 11)] okX12_value o_a0.1 rfl rfl lm_12_230 liX12_value lqX12_value (Nat.le_of_ble_eq_true rfl) (Nat.le_of_ble_eq_true rfl) (Nat.le_of_ble_eq_true rfl) (cat_of rfl) (Nat.le_of_ble_eq_true rfl) (Nat.zero_le _) (Nat.zero_le _) rfl dX12_points_35 (sp_X12_value o_a0 w2.1 w2.2.1 w2.2.2.1 w2.2.2.2.1 w2.2.2.2.2.1 (V_icmp_eq (tgt := 44) dX12_points_38 rfl w2.2.2.2.2.2.1 w2.2.2.2.2.2.2.1 (fun c2 => V_aload_n dX12_points_44 rfl (G_12_13 o_a0.1 o_a0.qR13 lf_12_23 dX12_points_45 (V_aload_n dX12_points_48 rfl (G_12_15 o_a0.1 lf_12_227 dX12_points_49 (V_iload_n dX12_points_52 rfl (V_iast (t := 100) o_a0.qK13 (by decide) (by decide) rfl (w2.2.2.2.2.2.2.2.1 c2).1 (w2.2.2.2.2.2.2.2.1 c2).2.1 (Nat.le_of_ble_eq_true rfl) dX12_points_53 (V_nmZ (fun Z1 eZ1 => V_aload_n dX12_points_54 rfl (G_12_14 o_a0.1 o_a0.qR14 lf_12_26 dX12_points_55 (V_aload_n dX12_points_58 rfl (G_12_15 o_a0.1 lf_12_227 dX12_points_59 (V_iload_n dX12_points_62 rfl (V_iast (t := 100) o_a0.qK14 (by decide) (by decide) rfl ((w2.2.2.2.2.2.2.2.1 c2).2.2 Z1 eZ1).1 ((w2.2.2.2.2.2.2.2.1 c2).2.2 Z1 eZ1).2.1 (Nat.le_of_ble_eq_true rfl) dX12_points_63 (V_nmZ (fun Z2 eZ2 => V_aload_n dX12_points_64 rfl (V_dup dX12_points_65 rfl (G_12_15 o_a0.1 lf_12_227 dX12_points_66 (V_iconst dX12_points_69 (V_iadd dX12_points_70 (P_12_15 o_a0.1 lf_12_227 dX12_points_71 (V_nmZ (fun Z3 eZ3 => V_iinc (lv' := [some (r_ a0), some (i_ v1), some (i_ (v2 + 1))]) dX12_points_74 rfl (Nat.le_of_ble_eq_true rfl) rfl (V_goto (tgt := 17) dX12_points_77 rfl (V_msk [true, true, true] rfl ((((w2.2.2.2.2.2.2.2.1 c2).2.2 Z1 eZ1).2.2 Z2 eZ2) Z3 eZ3))))))))))))))))))))))))) (fun c2 => V_goto (tgt := 74) dX12_points_41 rfl (V_iinc (lv' := [some (r_ a0), some (i_ v1), some (i_ (v2 + 1))]) dX12_points_74 rfl (Nat.le_of_ble_eq_true rfl) rfl (V_goto (tgt := 17) dX12_points_77 rfl (V_msk [true, true, true] rfl (w2.2.2.2.2.2.2.2.2 c2))))))))))))))))))))))
/-- cells from `all` that keep T -/
def MT (g : Nat → Int) (T : Td) : Prop := (g 0 = T.ct 0 ∧ g 1 = T.ct 1 ∧ g 2 = T.ct 2) ∧ (g 3 = T.ln ∧ g 4 = T.fl ∧ g 5 = T.pc) ∧ (∀ i : Nat, i < 600 → g (10 + i) = T.tp i % 256) ∧ (∀ q : Nat, (q : Int) < T.ct 0 → g (610 + 8 * q) = T.rw q 0 ∧ g (611 + 8 * q) = T.rw q 1 + 1 ∧ ∀ i : Nat, (i : Int) ≤ T.rw q 1 → g (612 + 8 * q + i) = T.rw q (2 + i)) ∧ (∀ q : Nat, (q : Int) < T.ct 1 → g (626 + 26 * q) = T.rw (2 + q) 0 ∧ g (627 + 26 * q) = T.rw (2 + q) 1 ∧ ∀ i : Nat, (i : Int) < 3 * T.rw (2 + q) 0 → g (628 + 26 * q + i) = T.rw (2 + q) (2 + i)) ∧ (∀ q : Nat, (q : Int) < T.ct 2 → ∀ i : Nat, i < 8 → g (704 + 8 * q + i) = T.rw (5 + q) i)
def MI (x : Wx) (Z : Zt) (b : Nat) (S : Ab) : Prop := Is12 x b ∧ MT (Z (b + 1)) S.nw ∧ ∀ q : Nat, q < 3 → (S.im q = none → Z (b + 2) q = 0) ∧ ∀ T : Td, S.im q = some T → Z (b + 2) q = 1 ∧ MT (fun j => Z (b + 1) (728 * (q + 1) + j)) T
/-- nothing told has changed, and nothing outside -/
def Mq (b : Nat) (Z Z' : Zt) : Prop := Z' (b + 1) = Z (b + 1) ∧ Z' (b + 2) = Z (b + 2) ∧ ∀ c : Nat, (c < b ∨ b + 26 ≤ c) → Z' c = Z c
theorem Mq.rf {b : Nat} {Z : Zt} : Mq b Z Z := ⟨rfl, rfl, fun _ _ => rfl⟩
theorem Mq.tr {b : Nat} {Z Z1 Z2 : Zt} (h : Mq b Z Z1) (h2 : Mq b Z1 Z2) : Mq b Z Z2 := ⟨h2.1.trans h.1, h2.2.1.trans h.2.1, fun c hc => (h2.2.2 c hc).trans (h.2.2 c hc)⟩
theorem Mq.oth {b : Nat} {Z Z1 : Zt} {A : Nat → Prop} (h : Oth Z Z1 A) (hA : ∀ c, A c → (b ≤ c ∧ c < b + 26) ∧ c ≠ b + 1 ∧ c ≠ b + 2) : Mq b Z Z1 := ⟨h _ (fun q => (hA _ q).2.1 rfl), h _ (fun q => (hA _ q).2.2 rfl), fun c hc => h c (fun q => by have := hA c q; omega)⟩
theorem Mq.o4 {b : Nat} {Z Z1 : Zt} (h : Oth Z Z1 (O4 b)) : Mq b Z Z1 := Mq.oth h (fun c hc => by have : c = b + 4 := hc; omega)
theorem MI.mq {x : Wx} {Z Z' : Zt} {b : Nat} {S : Ab} (h : MI x Z b S) (hq : Mq b Z Z') : MI x Z' b S := by
  obtain ⟨h1, h2, h3⟩ := h
  refine ⟨h1, by rw [hq.1]; exact h2, ?_⟩
  rw [hq.1, hq.2.1]; exact h3
def MPt (Z : Zt) (b : Nat) (L : List (Int × Int)) : Prop := Z b 15 = L.length ∧ ∀ q : Nat, q < L.length → Z (b + 5) q = (L.getD q (0, 0)).1 ∧ Z (b + 6) q = (L.getD q (0, 0)).2
def FSm (Z Z1 : Zt) (b : Nat) (L : List (Int × Int)) : Prop := MPt Z1 b L ∧ (∀ c, c ≠ b → c ≠ b + 5 → c ≠ b + 6 → Z1 c = Z c) ∧ ∀ i, i ≠ 15 → Z1 b i = Z b i
theorem FSm.push {Z Z1 Z2 Z3 Z4 : Zt} {a : Nat} {L : List (Int × Int)} {x y : Int} (h : FSm Z Z1 a L) (e2 : Z2 = up Z1 (a + 5) (Z1 a 15).toNat x) (e3 : Z3 = up Z2 (a + 6) (Z2 a 15).toNat y) (e4 : Z4 = up Z3 a 15 (Z3 a 15 + 1)) : FSm Z Z4 a (L ++ [(x, y)]) := by
  have hl := h.1.1
  have a2 : Z2 a = Z1 a := by rw [e2, up_row _ _ _ _ _ (by omega)]
  have a3 : Z3 a = Z1 a := by rw [e3, up_row _ _ _ _ _ (by omega), a2]
  have b6 : ∀ k : Nat, Z4 (a + 5) k = if k = L.length then x else Z1 (a + 5) k := fun k => by
    rw [e4, up_row _ _ _ _ _ (by omega), e3, up_row _ _ _ _ _ (by omega), e2, up_at, hl, Int.toNat_natCast]
  have b7 : ∀ k : Nat, Z4 (a + 6) k = if k = L.length then y else Z1 (a + 6) k := fun k => by
    rw [e4, up_row _ _ _ _ _ (by omega), e3, up_at, a2, hl, Int.toNat_natCast, e2, up_row _ _ _ _ _ (by omega)]
  refine ⟨⟨?_, fun k hk => ?_⟩, fun b h1 h2 h3 => ?_, fun i hi => ?_⟩
  · rw [e4, up_at, if_pos rfl, a3, hl, List.length_append]; rfl
  · rw [b6, b7, getD_app]
    rw [List.length_append] at hk
    have hk2 : k < L.length + 1 := hk
    by_cases c : k = L.length
    · rw [if_pos c, if_pos c, if_neg (by omega), if_pos c]; exact ⟨rfl, rfl⟩
    · simp only [if_neg c, if_pos (show k < L.length by omega)]
      exact h.1.2 k (by omega)
  · rw [e4, up_row _ _ _ _ _ h1, e3, up_row _ _ _ _ _ h3, e2, up_row _ _ _ _ _ h2]
    exact h.2.1 b h1 h2 h3
  · rw [e4, up_at, if_neg hi, a3]
    exact h.2.2 i hi
theorem sp_X12_points {k n : Nat} {x : Wx} {Z : Zt} {Q : Option Value → Wx → Zt → Prop} {b : Nat} (o : Is12 x b) {P : Nat → Nat → Int} {p : Int} (hp : IsP p ∧ Z b 11 = p) (hP : MS Z b P) (hf : InP p (P 0)) (h : ∀ Z' : Zt, FSm Z Z' b (pall p (P 0)) → Q none x Z') : V mX12_points k n 0 [some (r_ b), none, none] [] x Z Q := by
  obtain ⟨hp', hb⟩ := hp
  have hr := hp'.rg
  have hl26 := pts_len hp' (P 0)
  -- the points over one x
  have inner : ∀ (m : Nat) (y X : Int) (L : List (Int × Int)) (Z1 : Zt), 0 ≤ y → y + m = p → 0 ≤ X ∧ X < p → FSm Z Z1 b L → (L ++ rowY p (ev p (P 0) X) X m y).length ≤ 26 → (∀ Z2 : Zt, FSm Z Z2 b (L ++ rowY p (ev p (P 0) X) X m y) → V mX12_points k n 7 [some (r_ b), some (i_ (X + 1)), none] [] x Z2 Q) → V mX12_points k n 17 [some (r_ b), some (i_ X), some (i_ y)] [] x Z1 Q := by
    intro m
    induction m with
    | zero =>
      intro y X L Z1 h0 h1 hX hF hL hk
      have e11 : Z1 b 11 = p := (hF.2.2 11 (by decide)).trans hb
      refine b_X12_points_17 o ⟨⟨by omega, by omega⟩, by rw [e11]; exact ⟨by omega, by omega⟩, fun _ => hk Z1 (by rw [show L ++ rowY p (ev p (P 0) X) X 0 y = L from List.append_nil L]; exact hF), fun c => by rw [e11] at c; omega⟩
    | succ m ih =>
      intro y X L Z1 h0 h1 hX hF hL hk
      have e11 : Z1 b 11 = p := (hF.2.2 11 (by decide)).trans hb
      have hM : MS Z1 b P := hP.kept (hF.2.1 _ (by omega) (by omega) (by omega))
      have e15 := hF.1.1
      have hv := ev_rg (p := p) (by omega) (P 0) X
      have hm := mul_bd (t := y) (c := 13) (B := y) (by omega) (by omega)
      have he := emr (y * y) (show 0 < p by omega)
      have hL2 : L.length ≤ 26 := by rw [List.length_append] at hL; omega
      refine b_X12_points_17 o ⟨⟨by omega, by omega⟩, by rw [e11]; exact ⟨by omega, by omega⟩, fun c => by rw [e11] at c; omega, fun _ => ⟨⟨by omega, by omega⟩, by omega, by omega, P, p, ⟨hp', e11⟩, hM, by decide, by omega, hf, by rw [e11]; exact ⟨by omega, by omega⟩, ⟨by show -2147483648 ≤ ev p (P 0) X; omega, by show ev p (P 0) X < 2147483648; omega⟩, fun c => ?_, fun c => ?_⟩⟩
      · rw [e11] at c
        have c : y * y % p = ev p (P 0) X := c
        have er : rowY p (ev p (P 0) X) X (m + 1) y = (X, y) :: rowY p (ev p (P 0) X) X m (y + 1) := by show (if y * y % p = ev p (P 0) X then _ else _) = _; rw [if_pos c]
        rw [er, show L ++ (X, y) :: rowY p (ev p (P 0) X) X m (y + 1) = (L ++ [(X, y)]) ++ rowY p (ev p (P 0) X) X m (y + 1) from by simp] at hL hk
        refine ⟨by omega, by omega, fun Z2 e2 => ⟨?_, ?_, fun Z3 e3 Z4 e4 => ?_⟩⟩
        · rw [e2, up_row _ _ _ _ _ (by omega), e15]; omega
        · rw [e2, up_row _ _ _ _ _ (by omega), e15]; omega
        · exact ih (y + 1) X _ Z4 (by omega) (by omega) hX (hF.push e2 e3 e4) hL hk
      · rw [e11] at c
        have c : ¬ y * y % p = ev p (P 0) X := c
        have er : rowY p (ev p (P 0) X) X (m + 1) y = rowY p (ev p (P 0) X) X m (y + 1) := by show (if y * y % p = ev p (P 0) X then _ else _) = _; rw [if_neg c]
        rw [er] at hL hk
        exact ih (y + 1) X L Z1 (by omega) (by omega) hX hF hL hk
  have outer : ∀ (m : Nat) (X : Int) (L : List (Int × Int)) (Z1 : Zt), 0 ≤ X → X + m = p → FSm Z Z1 b L → L ++ colX p (P 0) m X = pts p (P 0) → V mX12_points k n 7 [some (r_ b), some (i_ X), none] [] x Z1 Q := by
    intro m
    induction m with
    | zero =>
      intro X L Z1 h0 h1 hF hL
      have e11 : Z1 b 11 = p := (hF.2.2 11 (by decide)).trans hb
      have e15 := hF.1.1
      have hL : L = pts p (P 0) := by rw [← hL]; exact (List.append_nil L).symm
      rw [← hL] at hl26
      refine b_X12_points_7 o ⟨⟨by omega, by omega⟩, by rw [e11]; exact ⟨by omega, by omega⟩, fun _ => ⟨by omega, by omega, fun Z2 e2 => ⟨?_, ?_, fun Z3 e3 Z4 e4 => ?_⟩⟩, fun c => by rw [e11] at c; omega⟩
      · rw [e2, up_row _ _ _ _ _ (by omega), e15]; omega
      · rw [e2, up_row _ _ _ _ _ (by omega), e15]; omega
      · refine h Z4 ?_
        unfold pall; rw [← hL]; exact hF.push e2 e3 e4
    | succ m ih =>
      intro X L Z1 h0 h1 hF hL
      have e11 : Z1 b 11 = p := (hF.2.2 11 (by decide)).trans hb
      have hL : L ++ (rowY p (ev p (P 0) X) X p.toNat 0 ++ colX p (P 0) m (X + 1)) = pts p (P 0) := hL
      rw [← List.append_assoc] at hL
      have hle : (L ++ rowY p (ev p (P 0) X) X p.toNat 0).length ≤ 26 := by
        rw [← hL, List.length_append] at hl26; omega
      refine b_X12_points_7 o ⟨⟨by omega, by omega⟩, by rw [e11]; exact ⟨by omega, by omega⟩, fun c => by rw [e11] at c; omega, fun _ => inner p.toNat 0 X L Z1 (by decide) (by omega) ⟨h0, by omega⟩ hF hle (fun Z2 hF2 => ih (X + 1) _ Z2 (by omega) (by omega) hF2 hL)⟩
  refine b_X12_points_0 o (fun Z1 e1 => outer p.toNat 0 [] Z1 (by decide) (by omega) ⟨⟨by rw [e1, up_self]; rfl, fun q hq => absurd hq (Nat.not_lt_zero _)⟩, fun c h1 _ _ => by rw [e1, up_row _ _ _ _ _ h1], fun i hi => by rw [e1, up_at, if_neg hi]⟩ rfl)
theorem dX12_takesCurve_0 : decode cX12_takesCurve 0 = .ok (.aload_n 0, 1) := by decide +kernel
theorem dX12_takesCurve_1 : decode cX12_takesCurve 1 = .ok (.iconst 0, 1) := by decide +kernel
theorem dX12_takesCurve_2 : decode cX12_takesCurve 2 = .ok (.iload_n 1, 1) := by decide +kernel
theorem dX12_takesCurve_3 : decode cX12_takesCurve 3 = .ok (.invokevirtual 156, 3) := by decide +kernel
theorem dX12_takesCurve_6 : decode cX12_takesCurve 6 = .ok (.ifCond .ne 5, 3) := by decide +kernel
theorem dX12_takesCurve_9 : decode cX12_takesCurve 9 = .ok (.iconst 0, 1) := by decide +kernel
theorem dX12_takesCurve_10 : decode cX12_takesCurve 10 = .ok (.ireturn, 1) := by decide +kernel
theorem dX12_takesCurve_11 : decode cX12_takesCurve 11 = .ok (.iconst 0, 1) := by decide +kernel
theorem dX12_takesCurve_12 : decode cX12_takesCurve 12 = .ok (.iload_n 1, 1) := by decide +kernel
theorem dX12_takesCurve_13 : decode cX12_takesCurve 13 = .ok (.invokestatic 176, 3) := by decide +kernel
theorem dX12_takesCurve_16 : decode cX12_takesCurve 16 = .ok (.istore_n 2, 1) := by decide +kernel
theorem dX12_takesCurve_17 : decode cX12_takesCurve 17 = .ok (.aload_n 0, 1) := by decide +kernel
theorem dX12_takesCurve_18 : decode cX12_takesCurve 18 = .ok (.aload_n 0, 1) := by decide +kernel
theorem dX12_takesCurve_19 : decode cX12_takesCurve 19 = .ok (.getfield 7, 3) := by decide +kernel
theorem dX12_takesCurve_22 : decode cX12_takesCurve 22 = .ok (.iload_n 2, 1) := by decide +kernel
theorem dX12_takesCurve_23 : decode cX12_takesCurve 23 = .ok (.iaload, 1) := by decide +kernel
theorem dX12_takesCurve_24 : decode cX12_takesCurve 24 = .ok (.putfield 179, 3) := by decide +kernel
theorem dX12_takesCurve_27 : decode cX12_takesCurve 27 = .ok (.aload_n 0, 1) := by decide +kernel
theorem dX12_takesCurve_28 : decode cX12_takesCurve 28 = .ok (.aload_n 0, 1) := by decide +kernel
theorem dX12_takesCurve_29 : decode cX12_takesCurve 29 = .ok (.getfield 7, 3) := by decide +kernel
theorem dX12_takesCurve_32 : decode cX12_takesCurve 32 = .ok (.iload_n 2, 1) := by decide +kernel
theorem dX12_takesCurve_33 : decode cX12_takesCurve 33 = .ok (.iconst 1, 1) := by decide +kernel
theorem dX12_takesCurve_34 : decode cX12_takesCurve 34 = .ok (.iadd, 1) := by decide +kernel
theorem dX12_takesCurve_35 : decode cX12_takesCurve 35 = .ok (.iaload, 1) := by decide +kernel
theorem dX12_takesCurve_36 : decode cX12_takesCurve 36 = .ok (.iconst 2, 1) := by decide +kernel
theorem dX12_takesCurve_37 : decode cX12_takesCurve 37 = .ok (.idiv, 1) := by decide +kernel
theorem dX12_takesCurve_38 : decode cX12_takesCurve 38 = .ok (.iconst 1, 1) := by decide +kernel
theorem dX12_takesCurve_39 : decode cX12_takesCurve 39 = .ok (.isub, 1) := by decide +kernel
theorem dX12_takesCurve_40 : decode cX12_takesCurve 40 = .ok (.putfield 221, 3) := by decide +kernel
theorem dX12_takesCurve_43 : decode cX12_takesCurve 43 = .ok (.aload_n 0, 1) := by decide +kernel
theorem dX12_takesCurve_44 : decode cX12_takesCurve 44 = .ok (.iconst 0, 1) := by decide +kernel
theorem dX12_takesCurve_45 : decode cX12_takesCurve 45 = .ok (.invokevirtual 188, 3) := by decide +kernel
theorem dX12_takesCurve_48 : decode cX12_takesCurve 48 = .ok (.iconst 0, 1) := by decide +kernel
theorem dX12_takesCurve_49 : decode cX12_takesCurve 49 = .ok (.istore_n 3, 1) := by decide +kernel
theorem dX12_takesCurve_50 : decode cX12_takesCurve 50 = .ok (.iload_n 3, 1) := by decide +kernel
theorem dX12_takesCurve_51 : decode cX12_takesCurve 51 = .ok (.aload_n 0, 1) := by decide +kernel
theorem dX12_takesCurve_52 : decode cX12_takesCurve 52 = .ok (.getfield 7, 3) := by decide +kernel
theorem dX12_takesCurve_55 : decode cX12_takesCurve 55 = .ok (.iload_n 2, 1) := by decide +kernel
theorem dX12_takesCurve_56 : decode cX12_takesCurve 56 = .ok (.iconst 1, 1) := by decide +kernel
theorem dX12_takesCurve_57 : decode cX12_takesCurve 57 = .ok (.iadd, 1) := by decide +kernel
theorem dX12_takesCurve_58 : decode cX12_takesCurve 58 = .ok (.iaload, 1) := by decide +kernel
theorem dX12_takesCurve_59 : decode cX12_takesCurve 59 = .ok (.if_icmp .ge 27, 3) := by decide +kernel
theorem dX12_takesCurve_62 : decode cX12_takesCurve 62 = .ok (.aload_n 0, 1) := by decide +kernel
theorem dX12_takesCurve_63 : decode cX12_takesCurve 63 = .ok (.getfield 20, 3) := by decide +kernel
theorem dX12_takesCurve_66 : decode cX12_takesCurve 66 = .ok (.iconst 0, 1) := by decide +kernel
theorem dX12_takesCurve_67 : decode cX12_takesCurve 67 = .ok (.iload_n 3, 1) := by decide +kernel
theorem dX12_takesCurve_68 : decode cX12_takesCurve 68 = .ok (.iadd, 1) := by decide +kernel
theorem dX12_takesCurve_69 : decode cX12_takesCurve 69 = .ok (.aload_n 0, 1) := by decide +kernel
theorem dX12_takesCurve_70 : decode cX12_takesCurve 70 = .ok (.getfield 7, 3) := by decide +kernel
theorem dX12_takesCurve_73 : decode cX12_takesCurve 73 = .ok (.iload_n 2, 1) := by decide +kernel
theorem dX12_takesCurve_74 : decode cX12_takesCurve 74 = .ok (.iconst 2, 1) := by decide +kernel
theorem dX12_takesCurve_75 : decode cX12_takesCurve 75 = .ok (.iadd, 1) := by decide +kernel
theorem dX12_takesCurve_76 : decode cX12_takesCurve 76 = .ok (.iload_n 3, 1) := by decide +kernel
theorem dX12_takesCurve_77 : decode cX12_takesCurve 77 = .ok (.iadd, 1) := by decide +kernel
theorem dX12_takesCurve_78 : decode cX12_takesCurve 78 = .ok (.iaload, 1) := by decide +kernel
theorem dX12_takesCurve_79 : decode cX12_takesCurve 79 = .ok (.iastore, 1) := by decide +kernel
theorem dX12_takesCurve_80 : decode cX12_takesCurve 80 = .ok (.iinc 3 1, 3) := by decide +kernel
theorem dX12_takesCurve_83 : decode cX12_takesCurve 83 = .ok (.goto (-33), 3) := by decide +kernel
theorem dX12_takesCurve_86 : decode cX12_takesCurve 86 = .ok (.aload_n 0, 1) := by decide +kernel
theorem dX12_takesCurve_87 : decode cX12_takesCurve 87 = .ok (.invokevirtual 224, 3) := by decide +kernel
theorem dX12_takesCurve_90 : decode cX12_takesCurve 90 = .ok (.iconst 1, 1) := by decide +kernel
theorem dX12_takesCurve_91 : decode cX12_takesCurve 91 = .ok (.ireturn, 1) := by decide +kernel
set_option maxRecDepth 20000 in
theorem b_X12_takesCurve_0 {k n : Nat} {x : Wx} {Z : Zt} {Q : Option Value → Wx → Zt → Prop} {a0 : Nat} {v1 : Int} (o_a0 : Is12 x a0)
    (h : (0 ≤ (0 : Int) ∧ (0 : Int) < 3) ∧ Rg v1 ∧ Rg (Z (a0 + 1) (0 : Int).toNat - 1) ∧ (∀ (r1 : Int), (((r1 = 1 ∧ 0 ≤ v1 ∧ v1 < Z (a0 + 1) (0 : Int).toNat) ∨ (r1 = 0 ∧ (v1 < 0 ∨ Z (a0 + 1) (0 : Int).toNat ≤ v1)))) → (Rg r1 ∧ (((r1 ≠ 0) → (Rg (0 : Int) ∧ (0 ≤ plcO (0 : Int) v1 ∧ plcO (0 : Int) v1 < 2912 ∧ (∀ Z1 : Zt, Z1 = up Z a0 11 (Z (a0 + 1) (plcO (0 : Int) v1).toNat) → (0 ≤ (plcO (0 : Int) v1) + 1 ∧ (plcO (0 : Int) v1) + 1 < 2912 ∧ (Rg (Z1 (a0 + 1) ((plcO (0 : Int) v1) + 1).toNat) ∧ (∀ Z2 : Zt, Z2 = up Z1 a0 12 ((Int.tdiv (Z1 (a0 + 1) ((plcO (0 : Int) v1) + 1).toNat) 2) - 1) → (∃ g1 : Nat → Nat → Int, (MS Z2 a0 g1 ∧ (0 ≤ (0 : Int) ∧ (0 : Int) < 27) ∧ (∀ (Z'1 : Zt), (MS Z'1 a0 (updP g1 (0 : Int).toNat pzero) ∧ Oth Z2 Z'1 (O4 a0)) → (V mX12_takesCurve k n 50 [some (r_ a0), none, some (i_ (plcO (0 : Int) v1)), some (i_ 0)] [] x Z'1 Q))))))))))) ∧ ((r1 = 0) → (Q (some (i_ 0)) x Z)))))) :
    V mX12_takesCurve k n 0 [some (r_ a0), some (i_ v1), none, none] [] x Z Q :=
  V_aload_n dX12_takesCurve_0 rfl (V_iconst dX12_takesCurve_1 (V_iload_n dX12_takesCurve_2 rfl (V_callV (k' := 0) (n' := 0) (t := 12) (q := (RX12, TX12, 46)) [i_ 0, i_ v1] [] okX12_isOf o_a0.1 rfl rfl lm_12_156 liX12_isOf lqX12_isOf (Nat.le_of_ble_eq_true rfl) (Nat.le_of_ble_eq_true rfl) (Nat.le_of_ble_eq_true rfl) (cat_of rfl) (Nat.le_of_ble_eq_true rfl) (Nat.zero_le _) (Nat.zero_le _) rfl dX12_takesCurve_3 (sp_X12_isOf o_a0 h.1 h.2.1 h.2.2.1 (fun r1 p1 => V_if_ne (tgt := 11) dX12_takesCurve_6 rfl (h.2.2.2 r1 p1).1 (fun c1 => V_iconst dX12_takesCurve_11 (V_iload_n dX12_takesCurve_12 rfl (V_callS (k' := 0) (n' := 0) [i_ 0, i_ v1] [] okX12_placeOf lm_12_176 lsX12_placeOf (Nat.le_of_ble_eq_true rfl) (Nat.le_of_ble_eq_true rfl) (Nat.le_of_ble_eq_true rfl) (cat_of rfl) (Nat.le_of_ble_eq_true rfl) (Nat.zero_le _) (Nat.zero_le _) rfl dX12_takesCurve_13 (sp_X12_placeOf  ((h.2.2.2 r1 p1).2.1 c1).1 (V_istore_n (lv' := [some (r_ a0), some (i_ v1), some (i_ (plcO (0 : Int) v1)), none]) dX12_takesCurve_16 (Nat.le_of_ble_eq_true rfl) rfl (V_aload_n dX12_takesCurve_17 rfl (V_aload_n dX12_takesCurve_18 rfl (G_12_0 o_a0.1 o_a0.qR0 lf_12_7 dX12_takesCurve_19 (V_iload_n dX12_takesCurve_22 rfl (V_iald (t := 100) o_a0.qK0 (by decide) rfl ((h.2.2.2 r1 p1).2.1 c1).2.1 ((h.2.2.2 r1 p1).2.1 c1).2.2.1 (Nat.le_of_ble_eq_true rfl) dX12_takesCurve_23 (P_12_11 o_a0.1 lf_12_179 dX12_takesCurve_24 (V_nmZ (fun Z1 eZ1 => V_aload_n dX12_takesCurve_27 rfl (V_aload_n dX12_takesCurve_28 rfl (G_12_0 o_a0.1 o_a0.qR0 lf_12_7 dX12_takesCurve_29 (V_iload_n dX12_takesCurve_32 rfl (V_iconst dX12_takesCurve_33 (V_iadd dX12_takesCurve_34 (V_iald (t := 100) o_a0.qK0 (by decide) rfl (((h.2.2.2 r1 p1).2.1 c1).2.2.2 Z1 eZ1).1 (((h.2.2.2 r1 p1).2.1 c1).2.2.2 Z1 eZ1).2.1 (Nat.le_of_ble_eq_true rfl) dX12_takesCurve_35 (V_iconst dX12_takesCurve_36 (V_idiv dX12_takesCurve_37 (((h.2.2.2 r1 p1).2.1 c1).2.2.2 Z1 eZ1).2.2.1 (rg_c rfl) (by decide) (V_iconst dX12_takesCurve_38 (V_isub dX12_takesCurve_39 (P_12_12 o_a0.1 lf_12_221 dX12_takesCurve_40 (V_nmZ (fun Z2 eZ2 => V_aload_n dX12_takesCurve_43 rfl (V_iconst dX12_takesCurve_44 (Exists.elim ((((h.2.2.2 r1 p1).2.1 c1).2.2.2 Z1 eZ1).2.2.2 Z2 eZ2) (fun g1 w1 => V_callV (k' := 0) (n' := 0) (t := 12) (q := (RX12, TX12, 46)) [i_ 0] [] okX12_zero o_a0.1 rfl rfl lm_12_188 liX12_zero lqX12_zero (Nat.le_of_ble_eq_true rfl) (Nat.le_of_ble_eq_true rfl) (Nat.le_of_ble_eq_true rfl) (cat_of rfl) (Nat.le_of_ble_eq_true rfl) (Nat.zero_le _) (Nat.zero_le _) rfl dX12_takesCurve_45 (sp_X12_zero o_a0 w1.1 w1.2.1 (fun Z'1 p2 => V_iconst dX12_takesCurve_48 (V_istore_n (lv' := [some (r_ a0), some (i_ v1), some (i_ (plcO (0 : Int) v1)), some (i_ 0)]) dX12_takesCurve_49 (Nat.le_of_ble_eq_true rfl) rfl (V_msk [true, false, true, true] rfl (w1.2.2 Z'1 p2)))))))))))))))))))))))))))))))))) (fun c1 => V_iconst dX12_takesCurve_9 (V_iret (ty := .boolean) dX12_takesCurve_10 rfl rfl ((h.2.2.2 r1 p1).2.2 c1))))))))
set_option maxRecDepth 20000 in
theorem b_X12_takesCurve_50 {k n : Nat} {x : Wx} {Z : Zt} {Q : Option Value → Wx → Zt → Prop} {a0 : Nat} {v2 : Int} {v3 : Int} (o_a0 : Is12 x a0)
    (h : 0 ≤ v2 + 1 ∧ v2 + 1 < 2912 ∧ (Rg v3 ∧ Rg (Z (a0 + 1) (v2 + 1).toNat) ∧ (((Z (a0 + 1) (v2 + 1).toNat ≤ v3) → (∃ g1 : Nat → Nat → Int, (∃ g2 : Int, ((IsP g2 ∧ Z a0 11 = g2) ∧ MS Z a0 g1 ∧ InP g2 (g1 0) ∧ (∀ (Z'1 : Zt), (FSm Z Z'1 a0 (pall g2 (g1 0))) → (Q (some (i_ 1)) x Z'1)))))) ∧ ((v3 < Z (a0 + 1) (v2 + 1).toNat) → (0 ≤ (v2 + 2) + v3 ∧ (v2 + 2) + v3 < 2912 ∧ (0 ≤ 0 + v3 ∧ 0 + v3 < 648 ∧ (∀ Z1 : Zt, Z1 = up Z (a0 + 4) (0 + v3).toNat (Z (a0 + 1) ((v2 + 2) + v3).toNat) → (V mX12_takesCurve k n 50 [some (r_ a0), none, some (i_ v2), some (i_ (v3 + 1))] [] x Z1 Q)))))))) :
    V mX12_takesCurve k n 50 [some (r_ a0), none, some (i_ v2), some (i_ v3)] [] x Z Q :=
  V_iload_n dX12_takesCurve_50 rfl (V_aload_n dX12_takesCurve_51 rfl (G_12_0 o_a0.1 o_a0.qR0 lf_12_7 dX12_takesCurve_52 (V_iload_n dX12_takesCurve_55 rfl (V_iconst dX12_takesCurve_56 (V_iadd dX12_takesCurve_57 (V_iald (t := 100) o_a0.qK0 (by decide) rfl h.1 h.2.1 (Nat.le_of_ble_eq_true rfl) dX12_takesCurve_58 (V_icmp_ge (tgt := 86) dX12_takesCurve_59 rfl h.2.2.1 h.2.2.2.1 (fun c1 => V_aload_n dX12_takesCurve_86 rfl (Exists.elim (h.2.2.2.2.1 c1) (fun g1 w1 => Exists.elim w1 (fun g2 w2 => V_callV (k' := 0) (n' := 0) (t := 12) (q := (RX12, TX12, 46)) [] [] okX12_points o_a0.1 rfl rfl lm_12_224 liX12_points lqX12_points (Nat.le_of_ble_eq_true rfl) (Nat.le_of_ble_eq_true rfl) (Nat.le_of_ble_eq_true rfl) (cat_of rfl) (Nat.le_of_ble_eq_true rfl) (Nat.zero_le _) (Nat.zero_le _) rfl dX12_takesCurve_87 (sp_X12_points o_a0 w2.1 w2.2.1 w2.2.2.1 (fun Z'1 p1 => V_iconst dX12_takesCurve_90 (V_iret (ty := .boolean) dX12_takesCurve_91 rfl rfl (w2.2.2.2 Z'1 p1)))))))) (fun c1 => V_aload_n dX12_takesCurve_62 rfl (G_12_10 o_a0.1 o_a0.qR10 lf_12_20 dX12_takesCurve_63 (V_iconst dX12_takesCurve_66 (V_iload_n dX12_takesCurve_67 rfl (V_iadd dX12_takesCurve_68 (V_aload_n dX12_takesCurve_69 rfl (G_12_0 o_a0.1 o_a0.qR0 lf_12_7 dX12_takesCurve_70 (V_iload_n dX12_takesCurve_73 rfl (V_iconst dX12_takesCurve_74 (V_iadd dX12_takesCurve_75 (V_iload_n dX12_takesCurve_76 rfl (V_iadd dX12_takesCurve_77 (V_iald (t := 100) o_a0.qK0 (by decide) rfl (h.2.2.2.2.2 c1).1 (h.2.2.2.2.2 c1).2.1 (Nat.le_of_ble_eq_true rfl) dX12_takesCurve_78 (V_iast (t := 100) o_a0.qK10 (by decide) (by decide) rfl (h.2.2.2.2.2 c1).2.2.1 (h.2.2.2.2.2 c1).2.2.2.1 (Nat.le_of_ble_eq_true rfl) dX12_takesCurve_79 (V_nmZ (fun Z1 eZ1 => V_iinc (lv' := [some (r_ a0), none, some (i_ v2), some (i_ (v3 + 1))]) dX12_takesCurve_80 rfl (Nat.le_of_ble_eq_true rfl) rfl (V_goto (tgt := 50) dX12_takesCurve_83 rfl (V_msk [true, false, true, true] rfl ((h.2.2.2.2.2 c1).2.2.2.2 Z1 eZ1))))))))))))))))))))))))))
/-- the curve that is taken -/
def MC (Z : Zt) (b : Nat) (p : Int) (F : Nat → Int) : Prop := (Z b 11 = p ∧ Z b 12 = gen F) ∧ MPt Z b (pall p F)
theorem MC.kept {Z Z' : Zt} {b : Nat} {p : Int} {F : Nat → Int} (h : MC Z b p F) (h0 : Z' b 11 = Z b 11 ∧ Z' b 12 = Z b 12 ∧ Z' b 15 = Z b 15) (h5 : Z' (b + 5) = Z (b + 5)) (h6 : Z' (b + 6) = Z (b + 6)) : MC Z' b p F := by
  obtain ⟨⟨a1, a2⟩, a3, a4⟩ := h
  refine ⟨⟨by rw [h0.1]; exact a1, by rw [h0.2.1]; exact a2⟩, by rw [h0.2.2]; exact a3, fun q hq => by rw [h5, h6]; exact a4 q hq⟩
theorem MC.o4 {Z Z' : Zt} {b : Nat} {p : Int} {F : Nat → Int} (h : MC Z b p F) (h0 : Oth Z Z' (O4 b)) : MC Z' b p F := by
  have e : Z' b = Z b := h0 b (by show ¬ (b = b + 4); omega)
  exact h.kept ⟨by rw [e], by rw [e], by rw [e]⟩ (h0 _ (by show ¬ (b + 5 = b + 4); omega)) (h0 _ (by show ¬ (b + 6 = b + 4); omega))
theorem Td.crv {T : Td} (h : TdV T) {q : Nat} (hq : (q : Int) < T.ct 0) : CF (T.p q) (gen (T.F q)) (T.F q) ∧ pd (T.F q) = T.rw q 1 ∧ CrvR (T.rw q) := ⟨(crvR_pd (h.2.2.2.2.2.2.2.1 q hq)).1, (crvR_pd (h.2.2.2.2.2.2.2.1 q hq)).2, h.2.2.2.2.2.2.2.1 q hq⟩
theorem sp_X12_takesCurve {k n : Nat} {x : Wx} {Z : Zt} {Q : Option Value → Wx → Zt → Prop} {b : Nat} {c : Int} (o : Is12 x b) {P : Nat → Nat → Int} {T : Td} (hT : MT (Z (b + 1)) T) (hV : TdV T) (hP : MS Z b P) (hc : Rg c) (h : ∀ (Z' : Zt) (P' : Nat → Nat → Int) (r : Int), ((r = 1 ∧ (0 ≤ c ∧ c < T.ct 0) ∧ MC Z' b (T.p c.toNat) (T.F c.toNat) ∧ MS Z' b P' ∧ P' 0 = T.F c.toNat ∧ (∀ q : Nat, q ≠ 0 → P' q = P q) ∧ Oth Z Z' (fun d => d = b ∨ d = b + 4 ∨ d = b + 5 ∨ d = b + 6) ∧ (∀ i : Nat, i ≠ 11 → i ≠ 12 → i ≠ 15 → Z' b i = Z b i)) ∨ (r = 0 ∧ ¬ (0 ≤ c ∧ c < T.ct 0) ∧ Z' = Z ∧ P' = P)) → Q (some (i_ r)) x Z') : V mX12_takesCurve k n 0 [some (r_ b), some (i_ c), none, none] [] x Z Q := by
  have h0 := hT.1.1
  have hct := hV.2.2.2.2.1
  refine b_X12_takesCurve_0 o ⟨by decide, hc, by show Rg (Z (b + 1) 0 - 1); rw [h0]; exact ⟨by omega, by omega⟩, fun r hr => ?_⟩
  have hr : (r = 1 ∧ 0 ≤ c ∧ c < T.ct 0) ∨ (r = 0 ∧ (c < 0 ∨ T.ct 0 ≤ c)) := by rw [← h0]; exact hr
  refine ⟨⟨by omega, by omega⟩, fun hr1 => ?_, fun hr0 => h Z P 0 (Or.inr ⟨rfl, by omega, rfl, rfl⟩)⟩
  have hcc : 0 ≤ c ∧ c < T.ct 0 := by omega
  obtain ⟨q, eq⟩ : ∃ q : Nat, c = (q : Int) := ⟨c.toNat, by omega⟩
  subst eq
  rw [Int.toNat_natCast] at h
  have hq2 : q < 2 := by omega
  obtain ⟨hCF, hpd, hR⟩ := Td.crv hV hcc.2
  obtain ⟨t1, t2, t3⟩ := hT.2.2.2.1 q hcc.2
  have epl : plcO (0 : Int) (q : Int) = 610 + 8 * (q : Int) := rfl
  have pl1 : (plcO (0 : Int) (q : Int)).toNat = 610 + 8 * q := by rw [epl]; omega
  have pl2 : (plcO (0 : Int) (q : Int) + 1).toNat = 611 + 8 * q := by rw [epl]; omega
  have hd := hR.2.1
  have hg : gen (T.F q) = Int.tdiv (T.rw q 1 + 1) 2 - 1 := by
    have e : gen (T.F q) = if pd (T.F q) ≤ 3 then 1 else 2 := rfl
    rw [e, hpd]
    rcases hd with e | e
    · rw [e]; decide
    · rw [e]; decide
  have hpr := hCF.1.rg
  refine ⟨rg_z, by rw [epl]; omega, by rw [epl]; omega, fun Z1 e1 => ⟨by rw [epl]; omega, by rw [epl]; omega, ?_, fun Z2 e2 => ?_⟩⟩
  · rw [e1, up_row _ _ _ _ _ (by omega), pl2, t2]; exact ⟨by omega, by omega⟩
  rw [pl1, t1] at e1
  have e2' : Z2 = up Z1 b 12 (gen (T.F q)) := by
    rw [e2, e1, up_row (b := b + 1) _ _ _ _ (by omega), pl2, t2, hg]
  have o2 : ∀ d, d ≠ b → Z2 d = Z d := fun d hd => by rw [e2', up_row _ _ _ _ _ hd, e1, up_row _ _ _ _ _ hd]
  have b2 : ∀ i : Nat, Z2 b i = if i = 12 then gen (T.F q) else if i = 11 then T.rw q 0 else Z b i := fun i => by rw [e2', up_at, e1, up_at]
  have hM2 : MS Z2 b P := hP.kept (o2 _ (by omega))
  refine ⟨P, hM2, by decide, fun Z3 z3 => ?_⟩
  have m3 : MS Z3 b (updP P 0 pzero) := z3.1
  have o3 : ∀ d, d ≠ b → d ≠ b + 4 → Z3 d = Z d := fun d h1 h2 => (z3.2 d h2).trans (o2 d h1)
  have b3 : Z3 b = Z2 b := z3.2 b (by show ¬ (b = b + 4); omega)
  -- the numbers of F
  have lp : ∀ (m : Nat) (v : Nat) (Z4 : Zt), (v : Int) + m = T.rw q 1 + 1 → MS Z4 b (updP P 0 (fun j => if j < v then T.F q j else 0)) → Oth Z3 Z4 (O4 b) → V mX12_takesCurve k n 50 [some (r_ b), none, some (i_ (plcO (0 : Int) (q : Int))), some (i_ (v : Int))] [] x Z4 Q := by
    intro m
    induction m with
    | zero =>
      intro v Z4 hv hM hO
      have b4 : Z4 b = Z2 b := (hO b (by show ¬ (b = b + 4); omega)).trans b3
      have a4 : Z4 (b + 1) = Z (b + 1) := (hO _ (by show ¬ (b + 1 = b + 4); omega)).trans (o3 _ (by omega) (by omega))
      have m4 : MS Z4 b (updP P 0 (T.F q)) := hM.eq (fun r i _ hi => by
        unfold updP; split
        · show (if i < v then T.F q i else 0) = _
          by_cases ci : i < v
          · rw [if_pos ci]
          · rw [if_neg ci]; exact (pd_hi hCF.2.2.1 i (by omega)).symm
        · rfl)
      refine b_X12_takesCurve_50 o ⟨by rw [epl]; omega, by rw [epl]; omega, ⟨by omega, by omega⟩, by rw [a4, pl2, t2]; exact ⟨by omega, by omega⟩, fun _ => ⟨_, T.p q, ⟨hCF.1, by rw [b4, b2]; rfl⟩, m4, hCF.2.1, fun Z5 z5 => ?_⟩, fun cc => by rw [a4, pl2, t2] at cc; omega⟩
      have z5 : FSm Z4 Z5 b (pall (T.p q) (T.F q)) := z5
      refine h Z5 (updP P 0 (T.F q)) 1 (Or.inl ⟨rfl, hcc, ⟨⟨?_, ?_⟩, z5.1⟩, m4.kept (z5.2.1 _ (by omega) (by omega) (by omega)), rfl, fun q' hq' => updP_n _ _ hq', fun d hd => ?_, fun i i1 i2 i3 => ?_⟩)
      · rw [z5.2.2 11 (by decide), b4, b2]; rfl
      · rw [z5.2.2 12 (by decide), b4, b2]; rfl
      · have hd : ¬ (d = b ∨ d = b + 4 ∨ d = b + 5 ∨ d = b + 6) := hd
        rw [z5.2.1 d (by omega) (by omega) (by omega), hO d (by show ¬ (d = b + 4); omega), o3 d (by omega) (by omega)]
      · rw [z5.2.2 i i3, b4, b2, if_neg i2, if_neg i1]
    | succ m ih =>
      intro v Z4 hv hM hO
      have a4 : Z4 (b + 1) = Z (b + 1) := (hO _ (by show ¬ (b + 1 = b + 4); omega)).trans (o3 _ (by omega) (by omega))
      refine b_X12_takesCurve_50 o ⟨by rw [epl]; omega, by rw [epl]; omega, ⟨by omega, by omega⟩, by rw [a4, pl2, t2]; exact ⟨by omega, by omega⟩, fun cc => by rw [a4, pl2, t2] at cc; omega, fun _ => ⟨by rw [epl]; omega, by rw [epl]; omega, by omega, by omega, fun Z5 e5 => ?_⟩⟩
      rw [a4, show ((plcO (0 : Int) (q : Int)) + 2 + (v : Int)).toNat = 612 + 8 * q + v from by rw [epl]; omega, t3 v (by omega), show (0 : Int) + (v : Int) = 24 * 0 + (v : Int) from by omega] at e5
      have g := hM.put (u := 0) (i := (v : Int)) (by decide) (by omega) e5
      have hFv : T.F q v = T.rw q (2 + v) := by
        have hc := hR.2.2.1 v (by omega)
        show ptak (T.rw q 0) (T.rw q) 2 (T.rw q 1).toNat v = _
        unfold ptak; rw [if_pos (by omega)]; exact Int.emod_eq_of_lt hc.1 hc.2
      refine ih (v + 1) Z5 (by omega) (g.1.eq (fun r i _ hi => ?_)) (hO.tr g.2)
      rw [Int.toNat_natCast]
      unfold putP updP
      by_cases c2 : r = (0 : Int).toNat
      · have c2' : r = 0 := c2
        rw [if_pos c2, if_pos c2']
        show (if i = v then T.rw q (2 + v) else (if i < v then T.F q i else 0)) = (if i < v + 1 then T.F q i else 0)
        by_cases c3 : i = v
        · rw [if_pos c3, if_pos (by omega), c3, hFv]
        · rw [if_neg c3]
          by_cases c4 : i < v
          · rw [if_pos c4, if_pos (by omega)]
          · rw [if_neg c4, if_neg (by omega)]
      · have c2' : ¬ r = 0 := c2
        rw [if_neg c2, if_neg c2', if_neg c2']
  exact lp (T.rw q 1 + 1).toNat 0 Z3 (by omega) (m3.eq (fun r i _ _ => by
    unfold updP; split
    · rfl
    · rfl)) Oth.rf
