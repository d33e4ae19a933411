theorem dX9_gather_0 : decode cX9_gather 0 = .ok (.aload_n 0, 1) := by decide +kernel
theorem dX9_gather_1 : decode cX9_gather 1 = .ok (.getfield 19, 3) := by decide +kernel
theorem dX9_gather_4 : decode cX9_gather 4 = .ok (.iconst 0, 1) := by decide +kernel
theorem dX9_gather_5 : decode cX9_gather 5 = .ok (.invokestatic 105, 3) := by decide +kernel
theorem dX9_gather_8 : decode cX9_gather 8 = .ok (.iconst 0, 1) := by decide +kernel
theorem dX9_gather_9 : decode cX9_gather 9 = .ok (.istore_n 3, 1) := by decide +kernel
theorem dX9_gather_10 : decode cX9_gather 10 = .ok (.iload_n 3, 1) := by decide +kernel
theorem dX9_gather_11 : decode cX9_gather 11 = .ok (.bipush 13, 2) := by decide +kernel
theorem dX9_gather_13 : decode cX9_gather 13 = .ok (.if_icmp .ge 16, 3) := by decide +kernel
theorem dX9_gather_16 : decode cX9_gather 16 = .ok (.aload_n 0, 1) := by decide +kernel
theorem dX9_gather_17 : decode cX9_gather 17 = .ok (.getfield 15, 3) := by decide +kernel
theorem dX9_gather_20 : decode cX9_gather 20 = .ok (.iload_n 3, 1) := by decide +kernel
theorem dX9_gather_21 : decode cX9_gather 21 = .ok (.iconst 0, 1) := by decide +kernel
theorem dX9_gather_22 : decode cX9_gather 22 = .ok (.bastore, 1) := by decide +kernel
theorem dX9_gather_23 : decode cX9_gather 23 = .ok (.iinc 3 1, 3) := by decide +kernel
theorem dX9_gather_26 : decode cX9_gather 26 = .ok (.goto (-16), 3) := by decide +kernel
theorem dX9_gather_29 : decode cX9_gather 29 = .ok (.iconst 0, 1) := by decide +kernel
theorem dX9_gather_30 : decode cX9_gather 30 = .ok (.istore_n 3, 1) := by decide +kernel
theorem dX9_gather_31 : decode cX9_gather 31 = .ok (.iload_n 3, 1) := by decide +kernel
theorem dX9_gather_32 : decode cX9_gather 32 = .ok (.aload_n 2, 1) := by decide +kernel
theorem dX9_gather_33 : decode cX9_gather 33 = .ok (.iconst 0, 1) := by decide +kernel
theorem dX9_gather_34 : decode cX9_gather 34 = .ok (.iaload, 1) := by decide +kernel
theorem dX9_gather_35 : decode cX9_gather 35 = .ok (.if_icmp .ge 72, 3) := by decide +kernel
theorem dX9_gather_38 : decode cX9_gather 38 = .ok (.iload_n 3, 1) := by decide +kernel
theorem dX9_gather_39 : decode cX9_gather 39 = .ok (.bipush 8, 2) := by decide +kernel
theorem dX9_gather_41 : decode cX9_gather 41 = .ok (.if_icmp .ge 66, 3) := by decide +kernel
theorem dX9_gather_44 : decode cX9_gather 44 = .ok (.iconst 2, 1) := by decide +kernel
theorem dX9_gather_45 : decode cX9_gather 45 = .ok (.iconst 3, 1) := by decide +kernel
theorem dX9_gather_46 : decode cX9_gather 46 = .ok (.iload_n 3, 1) := by decide +kernel
theorem dX9_gather_47 : decode cX9_gather 47 = .ok (.imul, 1) := by decide +kernel
theorem dX9_gather_48 : decode cX9_gather 48 = .ok (.iadd, 1) := by decide +kernel
theorem dX9_gather_49 : decode cX9_gather 49 = .ok (.istore 4, 2) := by decide +kernel
theorem dX9_gather_51 : decode cX9_gather 51 = .ok (.aload_n 1, 1) := by decide +kernel
theorem dX9_gather_52 : decode cX9_gather 52 = .ok (.aload_n 2, 1) := by decide +kernel
theorem dX9_gather_53 : decode cX9_gather 53 = .ok (.iload 4, 2) := by decide +kernel
theorem dX9_gather_55 : decode cX9_gather 55 = .ok (.iaload, 1) := by decide +kernel
theorem dX9_gather_56 : decode cX9_gather 56 = .ok (.aload_n 2, 1) := by decide +kernel
theorem dX9_gather_57 : decode cX9_gather 57 = .ok (.iload 4, 2) := by decide +kernel
theorem dX9_gather_59 : decode cX9_gather 59 = .ok (.iconst 1, 1) := by decide +kernel
theorem dX9_gather_60 : decode cX9_gather 60 = .ok (.iadd, 1) := by decide +kernel
theorem dX9_gather_61 : decode cX9_gather 61 = .ok (.iaload, 1) := by decide +kernel
theorem dX9_gather_62 : decode cX9_gather 62 = .ok (.invokevirtual 111, 3) := by decide +kernel
theorem dX9_gather_65 : decode cX9_gather 65 = .ok (.istore 5, 2) := by decide +kernel
theorem dX9_gather_67 : decode cX9_gather 67 = .ok (.iload 5, 2) := by decide +kernel
theorem dX9_gather_69 : decode cX9_gather 69 = .ok (.ifCond .lt 32, 3) := by decide +kernel
theorem dX9_gather_72 : decode cX9_gather 72 = .ok (.aload_n 0, 1) := by decide +kernel
theorem dX9_gather_73 : decode cX9_gather 73 = .ok (.getfield 19, 3) := by decide +kernel
theorem dX9_gather_76 : decode cX9_gather 76 = .ok (.iload 5, 2) := by decide +kernel
theorem dX9_gather_78 : decode cX9_gather 78 = .ok (.dup2, 1) := by decide +kernel
theorem dX9_gather_79 : decode cX9_gather 79 = .ok (.iaload, 1) := by decide +kernel
theorem dX9_gather_80 : decode cX9_gather 80 = .ok (.aload_n 2, 1) := by decide +kernel
theorem dX9_gather_81 : decode cX9_gather 81 = .ok (.iload 4, 2) := by decide +kernel
theorem dX9_gather_83 : decode cX9_gather 83 = .ok (.iconst 2, 1) := by decide +kernel
theorem dX9_gather_84 : decode cX9_gather 84 = .ok (.iadd, 1) := by decide +kernel
theorem dX9_gather_85 : decode cX9_gather 85 = .ok (.iaload, 1) := by decide +kernel
theorem dX9_gather_86 : decode cX9_gather 86 = .ok (.iadd, 1) := by decide +kernel
theorem dX9_gather_87 : decode cX9_gather 87 = .ok (.iastore, 1) := by decide +kernel
theorem dX9_gather_88 : decode cX9_gather 88 = .ok (.aload_n 0, 1) := by decide +kernel
theorem dX9_gather_89 : decode cX9_gather 89 = .ok (.getfield 15, 3) := by decide +kernel
theorem dX9_gather_92 : decode cX9_gather 92 = .ok (.aload_n 1, 1) := by decide +kernel
theorem dX9_gather_93 : decode cX9_gather 93 = .ok (.getfield 82, 3) := by decide +kernel
theorem dX9_gather_96 : decode cX9_gather 96 = .ok (.iload 5, 2) := by decide +kernel
theorem dX9_gather_98 : decode cX9_gather 98 = .ok (.iaload, 1) := by decide +kernel
theorem dX9_gather_99 : decode cX9_gather 99 = .ok (.iconst 1, 1) := by decide +kernel
theorem dX9_gather_100 : decode cX9_gather 100 = .ok (.bastore, 1) := by decide +kernel
theorem dX9_gather_101 : decode cX9_gather 101 = .ok (.iinc 3 1, 3) := by decide +kernel
theorem dX9_gather_104 : decode cX9_gather 104 = .ok (.goto (-73), 3) := by decide +kernel
theorem dX9_gather_107 : decode cX9_gather 107 = .ok (.return_, 1) := by decide +kernel
set_option maxRecDepth 20000 in
theorem b_X9_gather_0 {k n : Nat} {x : Wx} {Z : Zt} {Q : Option Value → Wx → Zt → Prop} {a0 : Nat} {a1 : Nat} {a2 : Nat} (o_a0 : Is9 x a0)
    (h : ∀ Z1 : Zt, Z1 = fillZ Z (a0 + 3) 27 (0 : Int) → (V mX9_gather k n 10 [some (r_ a0), some (r_ a1), some (r_ a2), some (i_ 0), none, none] [] x Z1 Q)) :
    V mX9_gather k n 0 [some (r_ a0), some (r_ a1), some (r_ a2), none, none, none] [] x Z Q :=
  V_aload_n dX9_gather_0 rfl (G_9_6 o_a0.1 o_a0.2.2.2.2.2.1 lf_9_19 dX9_gather_1 (V_iconst dX9_gather_4 (V_callS (k' := 0) (n' := 0) [r_ (a0 + 3), i_ 0] [] okJ7_fill_53178 lm_9_105 lsJ7_fill_53178 (Nat.le_of_ble_eq_true rfl) (Nat.le_of_ble_eq_true rfl) (Nat.le_of_ble_eq_true rfl) (cat_of rfl) (Nat.le_of_ble_eq_true rfl) (Nat.zero_le _) (Nat.zero_le _) rfl dX9_gather_5 (sp_J7_fill_53178 o_a0.2.2.2.2.2.2.1 (Nat.le_of_ble_eq_true rfl)  (V_nmZ (fun Z1 eZ1 => V_iconst dX9_gather_8 (V_istore_n (lv' := [some (r_ a0), some (r_ a1), some (r_ a2), some (i_ 0), none, none]) dX9_gather_9 (Nat.le_of_ble_eq_true rfl) rfl (V_msk [true, true, true, true, false, false] rfl (h Z1 eZ1)))))))))
set_option maxRecDepth 20000 in
theorem b_X9_gather_10 {k n : Nat} {x : Wx} {Z : Zt} {Q : Option Value → Wx → Zt → Prop} {a0 : Nat} {a1 : Nat} {a2 : Nat} {v3 : Int} (o_a0 : Is9 x a0)
    (h : Rg v3 ∧ (((13 ≤ v3) → (V mX9_gather k n 31 [some (r_ a0), some (r_ a1), some (r_ a2), some (i_ 0), none, none] [] x Z Q)) ∧ ((v3 < 13) → (0 ≤ v3 ∧ (∀ Z1 : Zt, Z1 = up Z (a0 + 2) v3.toNat 0 → (V mX9_gather k n 10 [some (r_ a0), some (r_ a1), some (r_ a2), some (i_ (v3 + 1)), none, none] [] x Z1 Q)))))) :
    V mX9_gather k n 10 [some (r_ a0), some (r_ a1), some (r_ a2), some (i_ v3), none, none] [] x Z Q :=
  V_iload_n dX9_gather_10 rfl (V_bipush dX9_gather_11 rfl (V_icmp_ge (tgt := 29) dX9_gather_13 rfl h.1 (rg_c rfl) (fun c1 => V_iconst dX9_gather_29 (V_istore_n (lv' := [some (r_ a0), some (r_ a1), some (r_ a2), some (i_ 0), none, none]) dX9_gather_30 (Nat.le_of_ble_eq_true rfl) rfl (V_msk [true, true, true, true, false, false] rfl (h.2.1 c1)))) (fun c1 => V_aload_n dX9_gather_16 rfl (G_9_5 o_a0.1 o_a0.2.2.2.1 lf_9_15 dX9_gather_17 (V_iload_n dX9_gather_20 rfl (V_iconst dX9_gather_21 (V_zast (t := 102) o_a0.2.2.2.2.1 (by decide) (by decide) rfl (h.2.2 c1).1 c1 (Nat.le_of_ble_eq_true rfl) rfl dX9_gather_22 (V_nmZ (fun Z1 eZ1 => V_iinc (lv' := [some (r_ a0), some (r_ a1), some (r_ a2), some (i_ (v3 + 1)), none, none]) dX9_gather_23 rfl (Nat.le_of_ble_eq_true rfl) rfl (V_goto (tgt := 10) dX9_gather_26 rfl (V_msk [true, true, true, true, false, false] rfl ((h.2.2 c1).2 Z1 eZ1))))))))))))
set_option maxRecDepth 20000 in
theorem b_X9_gather_31 {k n : Nat} {x : Wx} {Z : Zt} {Q : Option Value → Wx → Zt → Prop} {a0 : Nat} {a1 : Nat} {a2 : Nat} {v3 : Int} (o_a1 : Is2 x a1) (o_a0 : Is9 x a0) (s_a2 : x.1 a2 = some (100, 26))
    (h : Rg v3 ∧ Rg (Z a2 0) ∧ (((Z a2 0 ≤ v3) → (Q none x Z)) ∧ ((v3 < Z a2 0) → (((8 ≤ v3) → (Q none x Z)) ∧ ((v3 < 8) → (0 ≤ 2 + (3 * v3) ∧ 2 + (3 * v3) < 26 ∧ (0 ≤ (2 + (3 * v3)) + 1 ∧ (2 + (3 * v3)) + 1 < 26 ∧ (∃ g1 : List (Int × Int), (Rg (Z a2 (2 + (3 * v3)).toNat) ∧ Rg (Z a2 ((2 + (3 * v3)) + 1).toNat) ∧ PtA Z a1 g1 ∧ PtR g1 ∧ (∀ i1 : Int, i1 = ptN g1 (Z a2 (2 + (3 * v3)).toNat) (Z a2 ((2 + (3 * v3)) + 1).toNat) → (Rg i1 ∧ (((i1 < 0) → (V mX9_gather k n 101 [some (r_ a0), some (r_ a1), some (r_ a2), some (i_ v3), none, none] [] x Z Q)) ∧ ((0 ≤ i1) → (i1 < 27 ∧ (0 ≤ (2 + (3 * v3)) + 2 ∧ (2 + (3 * v3)) + 2 < 26 ∧ (∀ Z1 : Zt, Z1 = up Z (a0 + 3) i1.toNat ((Z (a0 + 3) i1.toNat) + (Z a2 ((2 + (3 * v3)) + 2).toNat)) → (0 ≤ Z1 (a1 + 6) i1.toNat ∧ Z1 (a1 + 6) i1.toNat < 13 ∧ (∀ Z2 : Zt, Z2 = up Z1 (a0 + 2) (Z1 (a1 + 6) i1.toNat).toNat 1 → (V mX9_gather k n 101 [some (r_ a0), some (r_ a1), some (r_ a2), some (i_ v3), none, none] [] x Z2 Q))))))))))))))))))) :
    V mX9_gather k n 31 [some (r_ a0), some (r_ a1), some (r_ a2), some (i_ v3), none, none] [] x Z Q :=
  V_iload_n dX9_gather_31 rfl (V_aload_n dX9_gather_32 rfl (V_iconst dX9_gather_33 (V_iald (t := 100) s_a2 (by decide) rfl (by decide) (by decide) (Nat.le_of_ble_eq_true rfl) dX9_gather_34 (V_icmp_ge (tgt := 107) dX9_gather_35 rfl h.1 h.2.1 (fun c1 => V_ret dX9_gather_107 rfl (h.2.2.1 c1)) (fun c1 => V_iload_n dX9_gather_38 rfl (V_bipush dX9_gather_39 rfl (V_icmp_ge (tgt := 107) dX9_gather_41 rfl h.1 (rg_c rfl) (fun c2 => V_ret dX9_gather_107 rfl ((h.2.2.2 c1).1 c2)) (fun c2 => V_iconst dX9_gather_44 (V_iconst dX9_gather_45 (V_iload_n dX9_gather_46 rfl (V_imul dX9_gather_47 (V_iadd dX9_gather_48 (V_istore (lv' := [some (r_ a0), some (r_ a1), some (r_ a2), some (i_ v3), some (i_ (2 + (3 * v3))), none]) dX9_gather_49 (Nat.le_of_ble_eq_true rfl) rfl (V_aload_n dX9_gather_51 rfl (V_aload_n dX9_gather_52 rfl (V_iload dX9_gather_53 rfl (V_iald (t := 100) s_a2 (by decide) rfl ((h.2.2.2 c1).2 c2).1 ((h.2.2.2 c1).2 c2).2.1 (Nat.le_of_ble_eq_true rfl) dX9_gather_55 (V_aload_n dX9_gather_56 rfl (V_iload dX9_gather_57 rfl (V_iconst dX9_gather_59 (V_iadd dX9_gather_60 (V_iald (t := 100) s_a2 (by decide) rfl ((h.2.2.2 c1).2 c2).2.2.1 ((h.2.2.2 c1).2 c2).2.2.2.1 (Nat.le_of_ble_eq_true rfl) dX9_gather_61 (Exists.elim ((h.2.2.2 c1).2 c2).2.2.2.2 (fun g1 w1 => V_callV (k' := 0) (n' := 0) (t := 2) (q := (RX2, TX2, 17)) [i_ (Z a2 (2 + (3 * v3)).toNat), i_ (Z a2 ((2 + (3 * v3)) + 1).toNat)] [] okX2_pointAt o_a1.1 rfl rfl lm_9_111 liX2_pointAt lqX2_pointAt (Nat.le_of_ble_eq_true rfl) (Nat.le_of_ble_eq_true rfl) (Nat.le_of_ble_eq_true rfl) (cat_of rfl) (Nat.le_of_ble_eq_true rfl) (Nat.zero_le _) (Nat.zero_le _) rfl dX9_gather_62 (sp_X2_pointAt o_a1 w1.1 w1.2.1 w1.2.2.1 w1.2.2.2.1 (V_nmi (fun i1 ei1 => V_istore (lv' := [some (r_ a0), some (r_ a1), some (r_ a2), some (i_ v3), some (i_ (2 + (3 * v3))), some (i_ i1)]) dX9_gather_65 (Nat.le_of_ble_eq_true rfl) rfl (V_iload dX9_gather_67 rfl (V_if_lt (tgt := 101) dX9_gather_69 rfl (w1.2.2.2.2 i1 ei1).1 (fun c3 => V_msk [true, true, true, true, false, false] rfl ((w1.2.2.2.2 i1 ei1).2.1 c3)) (fun c3 => V_aload_n dX9_gather_72 rfl (G_9_6 o_a0.1 o_a0.2.2.2.2.2.1 lf_9_19 dX9_gather_73 (V_iload dX9_gather_76 rfl (V_dup2 dX9_gather_78 rfl rfl (V_iald (t := 100) o_a0.2.2.2.2.2.2.1 (by decide) rfl c3 ((w1.2.2.2.2 i1 ei1).2.2 c3).1 (Nat.le_of_ble_eq_true rfl) dX9_gather_79 (V_aload_n dX9_gather_80 rfl (V_iload dX9_gather_81 rfl (V_iconst dX9_gather_83 (V_iadd dX9_gather_84 (V_iald (t := 100) s_a2 (by decide) rfl ((w1.2.2.2.2 i1 ei1).2.2 c3).2.1 ((w1.2.2.2.2 i1 ei1).2.2 c3).2.2.1 (Nat.le_of_ble_eq_true rfl) dX9_gather_85 (V_iadd dX9_gather_86 (V_iast (t := 100) o_a0.2.2.2.2.2.2.1 (by decide) (by decide) rfl c3 ((w1.2.2.2.2 i1 ei1).2.2 c3).1 (Nat.le_of_ble_eq_true rfl) dX9_gather_87 (V_nmZ (fun Z1 eZ1 => V_aload_n dX9_gather_88 rfl (G_9_5 o_a0.1 o_a0.2.2.2.1 lf_9_15 dX9_gather_89 (V_aload_n dX9_gather_92 rfl (G_2_4 o_a1.1 o_a1.2.2.2.2.2.1 lf_9_82 dX9_gather_93 (V_iload dX9_gather_96 rfl (V_iald (t := 100) o_a1.2.2.2.2.2.2.1 (by decide) rfl c3 ((w1.2.2.2.2 i1 ei1).2.2 c3).1 (Nat.le_of_ble_eq_true rfl) dX9_gather_98 (V_iconst dX9_gather_99 (V_zast (t := 102) o_a0.2.2.2.2.1 (by decide) (by decide) rfl (((w1.2.2.2.2 i1 ei1).2.2 c3).2.2.2 Z1 eZ1).1 (((w1.2.2.2.2 i1 ei1).2.2 c3).2.2.2 Z1 eZ1).2.1 (Nat.le_of_ble_eq_true rfl) rfl dX9_gather_100 (V_nmZ (fun Z2 eZ2 => V_msk [true, true, true, true, false, false] rfl ((((w1.2.2.2.2 i1 ei1).2.2 c3).2.2.2 Z1 eZ1).2.2 Z2 eZ2)))))))))))))))))))))))))))))))))))))))))))))))))))))
set_option maxRecDepth 20000 in
theorem b_X9_gather_101 {k n : Nat} {x : Wx} {Z : Zt} {Q : Option Value → Wx → Zt → Prop} {a0 : Nat} {a1 : Nat} {a2 : Nat} {v3 : Int} 
    (h : V mX9_gather k n 31 [some (r_ a0), some (r_ a1), some (r_ a2), some (i_ (v3 + 1)), none, none] [] x Z Q) :
    V mX9_gather k n 101 [some (r_ a0), some (r_ a1), some (r_ a2), some (i_ v3), none, none] [] x Z Q :=
  V_iinc (lv' := [some (r_ a0), some (r_ a1), some (r_ a2), some (i_ (v3 + 1)), none, none]) dX9_gather_101 rfl (Nat.le_of_ble_eq_true rfl) rfl (V_goto (tgt := 31) dX9_gather_104 rfl (V_msk [true, true, true, true, false, false] rfl h))
/-! ===== Room: how often each POINT is named ===== -/
theorem pAt_eq {L : List (Int × Int)} {x y : Int} : ∀ (m k : Nat), 0 ≤ pAt L x y m k → (L.getD (pAt L x y m k).toNat (0, 0)).1 = x ∧ (L.getD (pAt L x y m k).toNat (0, 0)).2 = y
  | 0, _, h => absurd (show (0 : Int) ≤ -1 from h) (by decide)
  | m + 1, k, h => by
    unfold pAt at h ⊢
    by_cases c : (L.getD k (0, 0)).1 = x ∧ (L.getD k (0, 0)).2 = y
    · rw [if_pos c, Int.toNat_natCast]; exact c
    · rw [if_neg c] at h ⊢
      exact pAt_eq m (k + 1) h
/-- the number of the i-th entry's POINT -/
def enK (L : List (Int × Int)) (r : Nat → Int) (i : Nat) : Int := ptN L (r (2 + 3 * i)) (r (3 + 3 * i))
def oft (L : List (Int × Int)) (r : Nat → Int) : Nat → Nat → Int
  | 0 => fun _ => 0
  | i + 1 => if 0 ≤ enK L r i then upf (oft L r i) (enK L r i).toNat (oft L r i (enK L r i).toNat + r (4 + 3 * i)) else oft L r i
def nmd (L : List (Int × Int)) (r : Nat → Int) : Nat → Nat → Int
  | 0 => fun _ => 0
  | i + 1 => if 0 ≤ enK L r i then upf (nmd L r i) (r (2 + 3 * i)).toNat 1 else nmd L r i
theorem oft_pos {L : List (Int × Int)} {r : Nat → Int} {i : Nat} (h : 0 ≤ enK L r i) : oft L r (i + 1) = upf (oft L r i) (enK L r i).toNat (oft L r i (enK L r i).toNat + r (4 + 3 * i)) := if_pos h
theorem oft_neg {L : List (Int × Int)} {r : Nat → Int} {i : Nat} (h : ¬ 0 ≤ enK L r i) : oft L r (i + 1) = oft L r i := if_neg h
theorem nmd_pos {L : List (Int × Int)} {r : Nat → Int} {i : Nat} (h : 0 ≤ enK L r i) : nmd L r (i + 1) = upf (nmd L r i) (r (2 + 3 * i)).toNat 1 := if_pos h
theorem nmd_neg {L : List (Int × Int)} {r : Nat → Int} {i : Nat} (h : ¬ 0 ≤ enK L r i) : nmd L r (i + 1) = nmd L r i := if_neg h
theorem sp_X9_gather {k n : Nat} {x : Wx} {Z : Zt} {Q : Option Value → Wx → Zt → Prop} {s c r : Nat} (o : Is9 x s) (oc : Is2 x c) (sr : x.1 r = some (100, 26)) {L : List (Int × Int)} (hL : PtA Z c L) (hPr : PtR L) (h0 : 0 ≤ Z r 0 ∧ Z r 0 ≤ 8) (hg : ∀ i : Nat, i < 26 → Rg (Z r i)) (hx : ∀ i : Nat, i < 8 → 0 ≤ Z r (2 + 3 * i) ∧ Z r (2 + 3 * i) ≤ 12) (hrs : r < s ∨ s + 48 ≤ r) (hcs : c + 16 ≤ s ∨ s + 48 ≤ c) (h : ∀ Z' : Zt, ((∀ q : Nat, q < 27 → Z' (s + 3) q = oft L (Z r) (Z r 0).toNat q) ∧ (∀ q : Nat, q < 13 → Z' (s + 2) q = nmd L (Z r) (Z r 0).toNat q) ∧ Oth Z Z' (fun b => b = s + 2 ∨ b = s + 3)) → Q none x Z') : V mX9_gather k n 0 [some (r_ s), some (r_ c), some (r_ r), none, none, none] [] x Z Q := by
  have hl := hPr.1
  have lp2 : ∀ (m i : Nat) (w : Int) (Z1 : Zt), w = i → i + m = (Z r 0).toNat → Oth Z Z1 (fun b => b = s + 2 ∨ b = s + 3) → (∀ q : Nat, q < 27 → Z1 (s + 3) q = oft L (Z r) i q) → (∀ q : Nat, q < 13 → Z1 (s + 2) q = nmd L (Z r) i q) → V mX9_gather k n 31 [some (r_ s), some (r_ c), some (r_ r), some (i_ w), none, none] [] x Z1 Q := by
    intro m
    induction m with
    | zero =>
      intro i w Z1 hw hi ho h3 h2
      have er : Z1 r = Z r := ho r (by omega)
      refine b_X9_gather_31 oc o sr ?_
      rw [er]
      refine ⟨⟨by omega, by omega⟩, ⟨by omega, by omega⟩, fun _ => h Z1 ⟨fun q hq => ?_, fun q hq => ?_, ho⟩, fun c2 => by omega⟩
      · rw [h3 q hq, show i = (Z r 0).toNat by omega]
      · rw [h2 q hq, show i = (Z r 0).toNat by omega]
    | succ m ih =>
      intro i w Z1 hw hi ho h3 h2
      have er : Z1 r = Z r := ho r (by omega)
      have hL1 : PtA Z1 c L := by
        unfold PtA
        rw [ho c (by omega), ho (c + 6) (by omega), ho (c + 7) (by omega)]; exact hL
      have hk := pAt_rg L (Z r (2 + 3 * i)) (Z r (3 + 3 * i)) L.length 0
      have hke := pAt_eq (L := L) (x := Z r (2 + 3 * i)) (y := Z r (3 + 3 * i)) L.length 0
      refine b_X9_gather_31 oc o sr ?_
      rw [er, show (2 + 3 * w).toNat = 2 + 3 * i by omega, show (2 + 3 * w + 1).toNat = 3 + 3 * i by omega, show (2 + 3 * w + 2).toNat = 4 + 3 * i by omega]
      refine ⟨⟨by omega, by omega⟩, ⟨by omega, by omega⟩, fun c2 => by omega, fun _ => ⟨fun c2 => by omega, fun _ => ⟨by omega, by omega, by omega, by omega, L, hg _ (by omega), hg _ (by omega), hL1, hPr, fun i1 e1 => ?_⟩⟩⟩
      have e1' : i1 = enK L (Z r) i := e1
      have hk' : -1 ≤ i1 ∧ i1 < (0 + L.length : Nat) := by rw [e1]; exact ⟨hk.1, hk.2.1⟩
      refine ⟨⟨by omega, by omega⟩, fun c3 => b_X9_gather_101 (ih (i + 1) (w + 1) Z1 (by omega) (by omega) ho (fun q hq => ?_) (fun q hq => ?_)), fun c3 => ⟨by omega, by omega, by omega, fun Z2 e2 => ?_⟩⟩
      · rw [h3 q hq, oft_neg (by omega)]
      · rw [h2 q hq, nmd_neg (by omega)]
      · have hpt := hL1.2 i1.toNat (by omega)
        have hxe : (L.getD i1.toNat (0, 0)).1 = Z r (2 + 3 * i) := by
          rw [e1]; exact (hke (by rw [e1] at c3; exact c3)).1
        have e6 : Z2 (c + 6) i1.toNat = Z r (2 + 3 * i) := by rw [e2, up_row _ _ _ _ _ (by omega), hpt.1, hxe]
        have hxr := hx i (by omega)
        rw [e6]
        refine ⟨by omega, by omega, fun Z3 e3 => b_X9_gather_101 (ih (i + 1) (w + 1) Z3 (by omega) (by omega) (fun b hb => ?_) (fun q hq => ?_) (fun q hq => ?_))⟩
        · rw [e3, up_row _ _ _ _ _ (fun e => hb (Or.inl e)), e2, up_row _ _ _ _ _ (fun e => hb (Or.inr e))]; exact ho b hb
        · rw [e3, up_row _ _ _ _ _ (by omega), e2, up_at, h3 i1.toNat (by omega)]
          rw [oft_pos (by omega), ← e1']
          unfold upf
          by_cases c4 : q = i1.toNat
          · rw [if_pos c4, if_pos c4]
          · rw [if_neg c4, if_neg c4]; exact h3 q hq
        · rw [e3, up_at, e2, up_row _ _ _ _ _ (by omega)]
          rw [nmd_pos (by omega)]
          unfold upf
          by_cases c4 : q = (Z r (2 + 3 * i)).toNat
          · rw [if_pos c4, if_pos c4]
          · rw [if_neg c4, if_neg c4]; exact h2 q hq
  have lp1 : ∀ (m i : Nat) (w : Int) (Z1 : Zt), w = i → i + m = 13 → Oth Z Z1 (fun b => b = s + 2 ∨ b = s + 3) → (∀ q : Nat, q < 27 → Z1 (s + 3) q = 0) → (∀ q : Nat, q < i → Z1 (s + 2) q = 0) → V mX9_gather k n 10 [some (r_ s), some (r_ c), some (r_ r), some (i_ w), none, none] [] x Z1 Q := by
    intro m
    induction m with
    | zero =>
      intro i w Z1 hw hi ho h3 h2
      exact b_X9_gather_10 o ⟨⟨by omega, by omega⟩, fun _ => lp2 (Z r 0).toNat 0 0 Z1 rfl (by omega) ho h3 (fun q hq => h2 q (by omega)), fun c2 => by omega⟩
    | succ m ih =>
      intro i w Z1 hw hi ho h3 h2
      refine b_X9_gather_10 o ⟨⟨by omega, by omega⟩, fun c2 => by omega, fun _ => ⟨by omega, fun Z2 e2 => ih (i + 1) (w + 1) Z2 (by omega) (by omega) (fun b hb => ?_) (fun q hq => ?_) (fun q hq => ?_)⟩⟩
      · rw [e2, up_row _ _ _ _ _ (fun e => hb (Or.inl e))]; exact ho b hb
      · rw [e2, up_row _ _ _ _ _ (by omega)]; exact h3 q hq
      · rw [e2, up_at]
        by_cases c4 : q = w.toNat
        · rw [if_pos c4]
        · rw [if_neg c4]; exact h2 q (by omega)
  refine b_X9_gather_0 o fun Z1 e1 => lp1 13 0 0 Z1 rfl rfl (fun b hb => ?_) (fun q hq => ?_) (fun q hq => by omega)
  · rw [e1]; exact fill_row _ _ _ _ _ (fun e => hb (Or.inr e))
  · rw [e1]; exact fill_at _ _ _ _ hq
theorem dX9_findDepths_0 : decode cX9_findDepths 0 = .ok (.aload_n 0, 1) := by decide +kernel
theorem dX9_findDepths_1 : decode cX9_findDepths 1 = .ok (.getfield 22, 3) := by decide +kernel
theorem dX9_findDepths_4 : decode cX9_findDepths 4 = .ok (.iconst 0, 1) := by decide +kernel
theorem dX9_findDepths_5 : decode cX9_findDepths 5 = .ok (.invokestatic 105, 3) := by decide +kernel
theorem dX9_findDepths_8 : decode cX9_findDepths 8 = .ok (.iconst 0, 1) := by decide +kernel
theorem dX9_findDepths_9 : decode cX9_findDepths 9 = .ok (.istore_n 2, 1) := by decide +kernel
theorem dX9_findDepths_10 : decode cX9_findDepths 10 = .ok (.iload_n 2, 1) := by decide +kernel
theorem dX9_findDepths_11 : decode cX9_findDepths 11 = .ok (.aload_n 1, 1) := by decide +kernel
theorem dX9_findDepths_12 : decode cX9_findDepths 12 = .ok (.getfield 79, 3) := by decide +kernel
theorem dX9_findDepths_15 : decode cX9_findDepths 15 = .ok (.iconst 1, 1) := by decide +kernel
theorem dX9_findDepths_16 : decode cX9_findDepths 16 = .ok (.isub, 1) := by decide +kernel
theorem dX9_findDepths_17 : decode cX9_findDepths 17 = .ok (.if_icmp .ge 62, 3) := by decide +kernel
theorem dX9_findDepths_20 : decode cX9_findDepths 20 = .ok (.aload_n 1, 1) := by decide +kernel
theorem dX9_findDepths_21 : decode cX9_findDepths 21 = .ok (.getfield 82, 3) := by decide +kernel
theorem dX9_findDepths_24 : decode cX9_findDepths 24 = .ok (.iload_n 2, 1) := by decide +kernel
theorem dX9_findDepths_25 : decode cX9_findDepths 25 = .ok (.iaload, 1) := by decide +kernel
theorem dX9_findDepths_26 : decode cX9_findDepths 26 = .ok (.istore_n 3, 1) := by decide +kernel
theorem dX9_findDepths_27 : decode cX9_findDepths 27 = .ok (.aload_n 1, 1) := by decide +kernel
theorem dX9_findDepths_28 : decode cX9_findDepths 28 = .ok (.iload_n 2, 1) := by decide +kernel
theorem dX9_findDepths_29 : decode cX9_findDepths 29 = .ok (.invokevirtual 85, 3) := by decide +kernel
theorem dX9_findDepths_32 : decode cX9_findDepths 32 = .ok (.ifCond .eq 16, 3) := by decide +kernel
theorem dX9_findDepths_35 : decode cX9_findDepths 35 = .ok (.aload_n 0, 1) := by decide +kernel
theorem dX9_findDepths_36 : decode cX9_findDepths 36 = .ok (.getfield 19, 3) := by decide +kernel
theorem dX9_findDepths_39 : decode cX9_findDepths 39 = .ok (.iload_n 2, 1) := by decide +kernel
theorem dX9_findDepths_40 : decode cX9_findDepths 40 = .ok (.iaload, 1) := by decide +kernel
theorem dX9_findDepths_41 : decode cX9_findDepths 41 = .ok (.iconst 1, 1) := by decide +kernel
theorem dX9_findDepths_42 : decode cX9_findDepths 42 = .ok (.iadd, 1) := by decide +kernel
theorem dX9_findDepths_43 : decode cX9_findDepths 43 = .ok (.iconst 2, 1) := by decide +kernel
theorem dX9_findDepths_44 : decode cX9_findDepths 44 = .ok (.idiv, 1) := by decide +kernel
theorem dX9_findDepths_45 : decode cX9_findDepths 45 = .ok (.goto 9, 3) := by decide +kernel
theorem dX9_findDepths_48 : decode cX9_findDepths 48 = .ok (.aload_n 0, 1) := by decide +kernel
theorem dX9_findDepths_49 : decode cX9_findDepths 49 = .ok (.getfield 19, 3) := by decide +kernel
theorem dX9_findDepths_52 : decode cX9_findDepths 52 = .ok (.iload_n 2, 1) := by decide +kernel
theorem dX9_findDepths_53 : decode cX9_findDepths 53 = .ok (.iaload, 1) := by decide +kernel
theorem dX9_findDepths_54 : decode cX9_findDepths 54 = .ok (.istore 4, 2) := by decide +kernel
theorem dX9_findDepths_56 : decode cX9_findDepths 56 = .ok (.aload_n 0, 1) := by decide +kernel
theorem dX9_findDepths_57 : decode cX9_findDepths 57 = .ok (.getfield 22, 3) := by decide +kernel
theorem dX9_findDepths_60 : decode cX9_findDepths 60 = .ok (.iload_n 3, 1) := by decide +kernel
theorem dX9_findDepths_61 : decode cX9_findDepths 61 = .ok (.aload_n 0, 1) := by decide +kernel
theorem dX9_findDepths_62 : decode cX9_findDepths 62 = .ok (.getfield 22, 3) := by decide +kernel
theorem dX9_findDepths_65 : decode cX9_findDepths 65 = .ok (.iload_n 3, 1) := by decide +kernel
theorem dX9_findDepths_66 : decode cX9_findDepths 66 = .ok (.iaload, 1) := by decide +kernel
theorem dX9_findDepths_67 : decode cX9_findDepths 67 = .ok (.iload 4, 2) := by decide +kernel
theorem dX9_findDepths_69 : decode cX9_findDepths 69 = .ok (.invokestatic 114, 3) := by decide +kernel
theorem dX9_findDepths_72 : decode cX9_findDepths 72 = .ok (.iastore, 1) := by decide +kernel
theorem dX9_findDepths_73 : decode cX9_findDepths 73 = .ok (.iinc 2 1, 3) := by decide +kernel
theorem dX9_findDepths_76 : decode cX9_findDepths 76 = .ok (.goto (-66), 3) := by decide +kernel
theorem dX9_findDepths_79 : decode cX9_findDepths 79 = .ok (.return_, 1) := by decide +kernel
set_option maxRecDepth 20000 in
theorem b_X9_findDepths_0 {k n : Nat} {x : Wx} {Z : Zt} {Q : Option Value → Wx → Zt → Prop} {a0 : Nat} {a1 : Nat} (o_a0 : Is9 x a0)
    (h : ∀ Z1 : Zt, Z1 = fillZ Z (a0 + 4) 13 (0 : Int) → (V mX9_findDepths k n 10 [some (r_ a0), some (r_ a1), some (i_ 0), none, none] [] x Z1 Q)) :
    V mX9_findDepths k n 0 [some (r_ a0), some (r_ a1), none, none, none] [] x Z Q :=
  V_aload_n dX9_findDepths_0 rfl (G_9_7 o_a0.1 o_a0.2.2.2.2.2.2.2.1 lf_9_22 dX9_findDepths_1 (V_iconst dX9_findDepths_4 (V_callS (k' := 0) (n' := 0) [r_ (a0 + 4), i_ 0] [] okJ7_fill_53178 lm_9_105 lsJ7_fill_53178 (Nat.le_of_ble_eq_true rfl) (Nat.le_of_ble_eq_true rfl) (Nat.le_of_ble_eq_true rfl) (cat_of rfl) (Nat.le_of_ble_eq_true rfl) (Nat.zero_le _) (Nat.zero_le _) rfl dX9_findDepths_5 (sp_J7_fill_53178 o_a0.2.2.2.2.2.2.2.2.1 (Nat.le_of_ble_eq_true rfl)  (V_nmZ (fun Z1 eZ1 => V_iconst dX9_findDepths_8 (V_istore_n (lv' := [some (r_ a0), some (r_ a1), some (i_ 0), none, none]) dX9_findDepths_9 (Nat.le_of_ble_eq_true rfl) rfl (V_msk [true, true, true, false, false] rfl (h Z1 eZ1)))))))))
set_option maxRecDepth 20000 in
theorem b_X9_findDepths_10 {k n : Nat} {x : Wx} {Z : Zt} {Q : Option Value → Wx → Zt → Prop} {a0 : Nat} {a1 : Nat} {v2 : Int} (o_a1 : Is2 x a1) (o_a0 : Is9 x a0)
    (h : Rg v2 ∧ Rg ((Z a1 3) - 1) ∧ ((((Z a1 3) - 1 ≤ v2) → (Q none x Z)) ∧ ((v2 < (Z a1 3) - 1) → (0 ≤ v2 ∧ v2 < 27 ∧ (∃ g1 : List (Int × Int), (PtA Z a1 g1 ∧ PtR g1 ∧ (0 ≤ v2 ∧ v2 < g1.length) ∧ (Rg (bI (fxd g1 v2)) ∧ (((bI (fxd g1 v2) = 0) → (V mX9_findDepths k n 54 [some (r_ a0), some (r_ a1), some (i_ v2), some (i_ (Z (a1 + 6) v2.toNat)), none] [i_ (Z (a0 + 3) v2.toNat)] x Z Q)) ∧ ((bI (fxd g1 v2) ≠ 0) → (Rg ((Z (a0 + 3) v2.toNat) + 1) ∧ (V mX9_findDepths k n 54 [some (r_ a0), some (r_ a1), some (i_ v2), some (i_ (Z (a1 + 6) v2.toNat)), none] [i_ (Int.tdiv ((Z (a0 + 3) v2.toNat) + 1) 2)] x Z Q))))))))))) :
    V mX9_findDepths k n 10 [some (r_ a0), some (r_ a1), some (i_ v2), none, none] [] x Z Q :=
  V_iload_n dX9_findDepths_10 rfl (V_aload_n dX9_findDepths_11 rfl (G_2_3 o_a1.1 lf_9_79 dX9_findDepths_12 (V_iconst dX9_findDepths_15 (V_isub dX9_findDepths_16 (V_icmp_ge (tgt := 79) dX9_findDepths_17 rfl h.1 h.2.1 (fun c1 => V_ret dX9_findDepths_79 rfl (h.2.2.1 c1)) (fun c1 => V_aload_n dX9_findDepths_20 rfl (G_2_4 o_a1.1 o_a1.2.2.2.2.2.1 lf_9_82 dX9_findDepths_21 (V_iload_n dX9_findDepths_24 rfl (V_iald (t := 100) o_a1.2.2.2.2.2.2.1 (by decide) rfl (h.2.2.2 c1).1 (h.2.2.2 c1).2.1 (Nat.le_of_ble_eq_true rfl) dX9_findDepths_25 (V_istore_n (lv' := [some (r_ a0), some (r_ a1), some (i_ v2), some (i_ (Z (a1 + 6) v2.toNat)), none]) dX9_findDepths_26 (Nat.le_of_ble_eq_true rfl) rfl (V_aload_n dX9_findDepths_27 rfl (V_iload_n dX9_findDepths_28 rfl (Exists.elim (h.2.2.2 c1).2.2 (fun g1 w1 => V_callV (k' := 0) (n' := 0) (t := 2) (q := (RX2, TX2, 17)) [i_ v2] [] okX2_isFixed o_a1.1 rfl rfl lm_9_85 liX2_isFixed lqX2_isFixed (Nat.le_of_ble_eq_true rfl) (Nat.le_of_ble_eq_true rfl) (Nat.le_of_ble_eq_true rfl) (cat_of rfl) (Nat.le_of_ble_eq_true rfl) (Nat.zero_le _) (Nat.zero_le _) rfl dX9_findDepths_29 (sp_X2_isFixed o_a1 w1.1 w1.2.1 w1.2.2.1 (V_if_eq (tgt := 48) dX9_findDepths_32 rfl w1.2.2.2.1 (fun c2 => V_aload_n dX9_findDepths_48 rfl (G_9_6 o_a0.1 o_a0.2.2.2.2.2.1 lf_9_19 dX9_findDepths_49 (V_iload_n dX9_findDepths_52 rfl (V_iald (t := 100) o_a0.2.2.2.2.2.2.1 (by decide) rfl (h.2.2.2 c1).1 (h.2.2.2 c1).2.1 (Nat.le_of_ble_eq_true rfl) dX9_findDepths_53 (V_msk [true, true, true, true, false] rfl (w1.2.2.2.2.1 c2)))))) (fun c2 => V_aload_n dX9_findDepths_35 rfl (G_9_6 o_a0.1 o_a0.2.2.2.2.2.1 lf_9_19 dX9_findDepths_36 (V_iload_n dX9_findDepths_39 rfl (V_iald (t := 100) o_a0.2.2.2.2.2.2.1 (by decide) rfl (h.2.2.2 c1).1 (h.2.2.2 c1).2.1 (Nat.le_of_ble_eq_true rfl) dX9_findDepths_40 (V_iconst dX9_findDepths_41 (V_iadd dX9_findDepths_42 (V_iconst dX9_findDepths_43 (V_idiv dX9_findDepths_44 (w1.2.2.2.2.2 c2).1 (rg_c rfl) (by decide) (V_goto (tgt := 54) dX9_findDepths_45 rfl (V_msk [true, true, true, true, false] rfl (w1.2.2.2.2.2 c2).2))))))))))))))))))))))))))
set_option maxRecDepth 20000 in
theorem b_X9_findDepths_54 {k n : Nat} {x : Wx} {Z : Zt} {Q : Option Value → Wx → Zt → Prop} {a0 : Nat} {a1 : Nat} {v2 : Int} {v3 : Int} {t0 : Int} (o_a0 : Is9 x a0)
    (h : 0 ≤ v3 ∧ v3 < 13 ∧ (Rg (Z (a0 + 4) v3.toNat) ∧ Rg t0 ∧ (∀ Z1 : Zt, Z1 = up Z (a0 + 4) v3.toNat (max (Z (a0 + 4) v3.toNat) t0) → (V mX9_findDepths k n 10 [some (r_ a0), some (r_ a1), some (i_ (v2 + 1)), none, none] [] x Z1 Q)))) :
    V mX9_findDepths k n 54 [some (r_ a0), some (r_ a1), some (i_ v2), some (i_ v3), none] [i_ t0] x Z Q :=
  V_istore (lv' := [some (r_ a0), some (r_ a1), some (i_ v2), some (i_ v3), some (i_ t0)]) dX9_findDepths_54 (Nat.le_of_ble_eq_true rfl) rfl (V_aload_n dX9_findDepths_56 rfl (G_9_7 o_a0.1 o_a0.2.2.2.2.2.2.2.1 lf_9_22 dX9_findDepths_57 (V_iload_n dX9_findDepths_60 rfl (V_aload_n dX9_findDepths_61 rfl (G_9_7 o_a0.1 o_a0.2.2.2.2.2.2.2.1 lf_9_22 dX9_findDepths_62 (V_iload_n dX9_findDepths_65 rfl (V_iald (t := 100) o_a0.2.2.2.2.2.2.2.2.1 (by decide) rfl h.1 h.2.1 (Nat.le_of_ble_eq_true rfl) dX9_findDepths_66 (V_iload dX9_findDepths_67 rfl (V_mmax lm_9_114 (Nat.le_of_ble_eq_true rfl) (Nat.le_of_ble_eq_true rfl) h.2.2.1 h.2.2.2.1 dX9_findDepths_69 (V_iast (t := 100) o_a0.2.2.2.2.2.2.2.2.1 (by decide) (by decide) rfl h.1 h.2.1 (Nat.le_of_ble_eq_true rfl) dX9_findDepths_72 (V_nmZ (fun Z1 eZ1 => V_iinc (lv' := [some (r_ a0), some (r_ a1), some (i_ (v2 + 1)), some (i_ v3), some (i_ t0)]) dX9_findDepths_73 rfl (Nat.le_of_ble_eq_true rfl) rfl (V_goto (tgt := 10) dX9_findDepths_76 rfl (V_msk [true, true, true, false, false] rfl (h.2.2.2.2 Z1 eZ1)))))))))))))))
def dp1 (L : List (Int × Int)) (o : Nat → Int) (k : Nat) : Int := if fxd L k = true then Int.tdiv (o k + 1) 2 else o k
/-- how deep the POINTS over each x lie -/
def dpt (L : List (Int × Int)) (o : Nat → Int) : Nat → Nat → Int
  | 0 => fun _ => 0
  | k + 1 => upf (dpt L o k) (L.getD k (0, 0)).1.toNat (max (dpt L o k (L.getD k (0, 0)).1.toNat) (dp1 L o k))
theorem dp1_rg {L : List (Int × Int)} {o : Nat → Int} {k : Nat} (h : -1000 ≤ o k ∧ o k ≤ 1000) : -1001 ≤ dp1 L o k ∧ dp1 L o k ≤ 1001 := by
  unfold dp1
  split
  · by_cases c : 0 ≤ o k + 1
    · rw [Int.tdiv_eq_ediv_of_nonneg c]; omega
    · have : Int.tdiv (o k + 1) 2 = -(Int.tdiv (-(o k + 1)) 2) := by rw [Int.neg_tdiv, Int.neg_neg]
      rw [this, Int.tdiv_eq_ediv_of_nonneg (by omega)]; omega
  · omega
theorem dpt_rg {L : List (Int × Int)} {o : Nat → Int} : ∀ (k : Nat), (∀ i : Nat, i < k → -1000 ≤ o i ∧ o i ≤ 1000) → ∀ q : Nat, 0 ≤ dpt L o k q ∧ dpt L o k q ≤ 1001
  | 0, _, q => ⟨by show (0 : Int) ≤ 0; decide, by show (0 : Int) ≤ 1001; decide⟩
  | k + 1, h, q => by
    have ih := dpt_rg (L := L) (o := o) k (fun i hi => h i (by omega))
    have h1 := dp1_rg (L := L) (h k (by omega))
    have h2 := ih (L.getD k (0, 0)).1.toNat
    show 0 ≤ upf (dpt L o k) _ _ q ∧ upf (dpt L o k) _ _ q ≤ 1001
    unfold upf
    split
    · omega
    · exact ih q
theorem sp_X9_findDepths {k n : Nat} {x : Wx} {Z : Zt} {Q : Option Value → Wx → Zt → Prop} {s c : Nat} (o : Is9 x s) (oc : Is2 x c) {p : Int} {F : Nat → Int} (hp : IsP p) (hL : PtA Z c (pall p F)) (hof : ∀ i : Nat, i < 27 → -1000 ≤ Z (s + 3) i ∧ Z (s + 3) i ≤ 1000) (hcs : c + 16 ≤ s ∨ s + 48 ≤ c) (h : ∀ Z' : Zt, ((∀ q : Nat, q < 13 → Z' (s + 4) q = dpt (pall p F) (Z (s + 3)) ((pall p F).length - 1) q) ∧ Oth Z Z' (fun b => b = s + 4)) → Q none x Z') : V mX9_findDepths k n 0 [some (r_ s), some (r_ c), none, none, none] [] x Z Q := by
  have hpr := hp.rg
  have hl := pall_len hp F
  have hPr := pall_rg hp F
  have lp : ∀ (m i : Nat) (w : Int) (Z1 : Zt), w = i → i + m = (pall p F).length - 1 → Oth Z Z1 (fun b => b = s + 4) → (∀ q : Nat, q < 13 → Z1 (s + 4) q = dpt (pall p F) (Z (s + 3)) i q) → V mX9_findDepths k n 10 [some (r_ s), some (r_ c), some (i_ w), none, none] [] x Z1 Q := by
    intro m
    induction m with
    | zero =>
      intro i w Z1 hw hi ho hz
      refine b_X9_findDepths_10 oc o ?_
      rw [ho c (by omega), hL.1]
      refine ⟨⟨by omega, by omega⟩, ⟨by omega, by omega⟩, fun _ => h Z1 ⟨fun q hq => ?_, ho⟩, fun c2 => by omega⟩
      rw [hz q hq, show i = (pall p F).length - 1 by omega]
    | succ m ih =>
      intro i w Z1 hw hi ho hz
      have hL1 : PtA Z1 c (pall p F) := by
        unfold PtA
        rw [ho c (by omega), ho (c + 6) (by omega), ho (c + 7) (by omega)]; exact hL
      have hpt := hL1.2 i (by omega)
      have hgt := pall_get (p := p) (F := F) (by omega) (k := i) (by omega)
      have ho3 := hof i (by omega)
      have tail : ∀ t : Int, t = dp1 (pall p F) (Z (s + 3)) i → V mX9_findDepths k n 54 [some (r_ s), some (r_ c), some (i_ w), some (i_ ((pall p F).getD i (0, 0)).1), none] [i_ t] x Z1 Q := by
        intro t ht
        have h1 := dp1_rg (L := pall p F) ho3
        have h2 := dpt_rg (L := pall p F) (o := Z (s + 3)) i (fun q hq => hof q (by omega)) ((pall p F).getD i (0, 0)).1.toNat
        refine b_X9_findDepths_54 o ?_
        rw [hz _ (by omega)]
        refine ⟨by omega, by omega, ⟨by omega, by omega⟩, ⟨by omega, by omega⟩, fun Z2 e2 => ih (i + 1) (w + 1) Z2 (by omega) (by omega) (fun b hb => ?_) (fun q hq => ?_)⟩
        · rw [e2, up_row _ _ _ _ _ hb]; exact ho b hb
        · rw [e2, up_at, ht]
          show _ = upf (dpt (pall p F) (Z (s + 3)) i) _ _ q
          unfold upf
          by_cases c4 : q = ((pall p F).getD i (0, 0)).1.toNat
          · rw [if_pos c4, if_pos c4]
          · rw [if_neg c4, if_neg c4]; exact hz q hq
      refine b_X9_findDepths_10 oc o ?_
      rw [ho c (by omega), hL.1, show w.toNat = i by omega, hpt.1, ho (s + 3) (by omega)]
      refine ⟨⟨by omega, by omega⟩, ⟨by omega, by omega⟩, fun c2 => by omega, fun _ => ⟨by omega, by omega, pall p F, hL1, hPr, ⟨by omega, by omega⟩, bI_rg _, fun c3 => tail _ ?_, fun c3 => ⟨⟨by omega, by omega⟩, tail _ ?_⟩⟩⟩
      · have := bI_0 c3
        rw [hw] at this
        unfold dp1; rw [if_neg (by rw [this]; decide)]
      · have := bI_1 c3
        rw [hw] at this
        unfold dp1; rw [if_pos this]
  refine b_X9_findDepths_0 o fun Z1 e1 => lp ((pall p F).length - 1) 0 0 Z1 rfl (by omega) (fun b hb => ?_) (fun q hq => ?_)
  · rw [e1]; exact fill_row _ _ _ _ _ hb
  · rw [e1, fill_at _ _ _ _ hq]; rfl
