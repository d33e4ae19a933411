/-! ===== Told: what is told ===== -/
def fstr (s : Int) : Int := if s = 0 then 0 else if s = 1 then 2 else 5
def mstr (s : Int) : Int := if s = 0 then 2 else 3
/-- the constants' arrays -/
def KS (x : Wx) : Prop := x.1 (x.2.2.2 0) = some (200, 3) ∧ x.1 (x.2.2.2 1) = some (200, 3) ∧ x.1 (x.2.2.2 2) = some (200, 5)
def KW (x : Wx) (Z : Zt) : Prop := (∀ s : Nat, s < 3 → Z (x.2.2.2 0) s = mstr s) ∧ (∀ s : Nat, s < 3 → Z (x.2.2.2 1) s = fstr s) ∧ (Z (x.2.2.2 2) 0 = 3 ∧ Z (x.2.2.2 2) 1 = 5 ∧ Z (x.2.2.2 2) 2 = 7 ∧ Z (x.2.2.2 2) 3 = 11 ∧ Z (x.2.2.2 2) 4 = 13)
theorem KW.kept {x : Wx} {Z Z' : Zt} {A : Nat → Prop} (h : KW x Z) (ho : Oth Z Z' A) (h0 : ¬ A (x.2.2.2 0)) (h1 : ¬ A (x.2.2.2 1)) (h2 : ¬ A (x.2.2.2 2)) : KW x Z' := by
  unfold KW
  rw [ho _ h0, ho _ h1, ho _ h2]
  exact h
theorem KW.m {x : Wx} {Z : Zt} (h : KW x Z) {s : Int} (hs : 0 ≤ s ∧ s < 3) : Z (x.2.2.2 0) s.toNat = mstr s := by
  have := h.1 s.toNat (by omega)
  rw [show ((s.toNat : Nat) : Int) = s by omega] at this
  exact this
theorem KW.f {x : Wx} {Z : Zt} (h : KW x Z) {s : Int} (hs : 0 ≤ s ∧ s < 3) : Z (x.2.2.2 1) s.toNat = fstr s := by
  have := h.2.1 s.toNat (by omega)
  rw [show ((s.toNat : Nat) : Int) = s by omega] at this
  exact this
theorem fstr_rg {s : Int} (hs : 0 ≤ s ∧ s < 3) : 0 ≤ fstr s ∧ fstr s + mstr s ≤ 8 ∧ 2 ≤ mstr s ∧ mstr s ≤ 3 := by
  unfold fstr mstr
  by_cases c : s = 0
  · rw [if_pos c, if_pos c]; omega
  · rw [if_neg c, if_neg c]
    split <;> omega
/-- of a number the j-th byte, the highest first -/
def byt (v : Int) (j : Nat) : Int := Int.bmod (v % 4294967296 / 2 ^ (24 - 8 * j)) 256
def apZ (Z : Zt) (t : Nat) (v : Int) (m : Nat) : Zt := fun b i => if b = t + 1 ∧ (Z t 1).toNat ≤ i ∧ i < (Z t 1).toNat + m then byt v (i - (Z t 1).toNat) else if b = t ∧ i = 1 then Z t 1 + m else Z b i
theorem dX10_append_0 : decode cX10_append 0 = .ok (.bipush 24, 2) := by decide +kernel
theorem dX10_append_2 : decode cX10_append 2 = .ok (.istore_n 2, 1) := by decide +kernel
theorem dX10_append_3 : decode cX10_append 3 = .ok (.iload_n 2, 1) := by decide +kernel
theorem dX10_append_4 : decode cX10_append 4 = .ok (.ifCond .lt 44, 3) := by decide +kernel
theorem dX10_append_7 : decode cX10_append 7 = .ok (.aload_n 0, 1) := by decide +kernel
theorem dX10_append_8 : decode cX10_append 8 = .ok (.getfield 28, 3) := by decide +kernel
theorem dX10_append_11 : decode cX10_append 11 = .ok (.aload_n 0, 1) := by decide +kernel
theorem dX10_append_12 : decode cX10_append 12 = .ok (.getfield 9, 3) := by decide +kernel
theorem dX10_append_15 : decode cX10_append 15 = .ok (.arraylength, 1) := by decide +kernel
theorem dX10_append_16 : decode cX10_append 16 = .ok (.if_icmp .ge 32, 3) := by decide +kernel
theorem dX10_append_19 : decode cX10_append 19 = .ok (.aload_n 0, 1) := by decide +kernel
theorem dX10_append_20 : decode cX10_append 20 = .ok (.getfield 9, 3) := by decide +kernel
theorem dX10_append_23 : decode cX10_append 23 = .ok (.aload_n 0, 1) := by decide +kernel
theorem dX10_append_24 : decode cX10_append 24 = .ok (.getfield 28, 3) := by decide +kernel
theorem dX10_append_27 : decode cX10_append 27 = .ok (.iload_n 1, 1) := by decide +kernel
theorem dX10_append_28 : decode cX10_append 28 = .ok (.iload_n 2, 1) := by decide +kernel
theorem dX10_append_29 : decode cX10_append 29 = .ok (.iushr, 1) := by decide +kernel
theorem dX10_append_30 : decode cX10_append 30 = .ok (.i2b, 1) := by decide +kernel
theorem dX10_append_31 : decode cX10_append 31 = .ok (.bastore, 1) := by decide +kernel
theorem dX10_append_32 : decode cX10_append 32 = .ok (.aload_n 0, 1) := by decide +kernel
theorem dX10_append_33 : decode cX10_append 33 = .ok (.dup, 1) := by decide +kernel
theorem dX10_append_34 : decode cX10_append 34 = .ok (.getfield 28, 3) := by decide +kernel
theorem dX10_append_37 : decode cX10_append 37 = .ok (.iconst 1, 1) := by decide +kernel
theorem dX10_append_38 : decode cX10_append 38 = .ok (.iadd, 1) := by decide +kernel
theorem dX10_append_39 : decode cX10_append 39 = .ok (.putfield 28, 3) := by decide +kernel
theorem dX10_append_42 : decode cX10_append 42 = .ok (.iinc 2 (-8), 3) := by decide +kernel
theorem dX10_append_45 : decode cX10_append 45 = .ok (.goto (-42), 3) := by decide +kernel
theorem dX10_append_48 : decode cX10_append 48 = .ok (.return_, 1) := by decide +kernel
set_option maxRecDepth 20000 in
theorem b_X10_append_0 {k n : Nat} {x : Wx} {Z : Zt} {Q : Option Value → Wx → Zt → Prop} {a0 : Nat} {v1 : Int} 
    (h : V mX10_append k n 3 [some (r_ a0), some (i_ v1), some (i_ 24)] [] x Z Q) :
    V mX10_append k n 0 [some (r_ a0), some (i_ v1), none] [] x Z Q :=
  V_bipush dX10_append_0 rfl (V_istore_n (lv' := [some (r_ a0), some (i_ v1), some (i_ 24)]) dX10_append_2 (Nat.le_of_ble_eq_true rfl) rfl (V_msk [true, true, true] rfl h))
set_option maxRecDepth 20000 in
theorem b_X10_append_3 {k n : Nat} {x : Wx} {Z : Zt} {Q : Option Value → Wx → Zt → Prop} {a0 : Nat} {v1 : Int} {v2 : Int} (o_a0 : Is10 x a0)
    (h : Rg v2 ∧ (((v2 < 0) → (Q none x Z)) ∧ ((0 ≤ v2) → (Rg (Z a0 1) ∧ (((600 ≤ Z a0 1) → (Q none x Z)) ∧ ((Z a0 1 < 600) → (v2 < 32 ∧ (0 ≤ Z a0 1 ∧ (∀ Z1 : Zt, Z1 = up Z (a0 + 1) (Z a0 1).toNat (Int.bmod (v1 % 4294967296 / 2 ^ v2.toNat) 256) → (∀ Z2 : Zt, Z2 = up Z1 a0 1 ((Z1 a0 1) + 1) → (V mX10_append k n 3 [some (r_ a0), some (i_ v1), some (i_ (v2 + (-8)))] [] x Z2 Q))))))))))) :
    V mX10_append k n 3 [some (r_ a0), some (i_ v1), some (i_ v2)] [] x Z Q :=
  V_iload_n dX10_append_3 rfl (V_if_lt (tgt := 48) dX10_append_4 rfl h.1 (fun c1 => V_ret dX10_append_48 rfl (h.2.1 c1)) (fun c1 => V_aload_n dX10_append_7 rfl (G_10_1 o_a0.1 lf_10_28 dX10_append_8 (V_aload_n dX10_append_11 rfl (G_10_0 o_a0.1 o_a0.2.1 lf_10_9 dX10_append_12 (V_alen (t := 101) o_a0.2.2.1 (by decide) (Nat.le_of_ble_eq_true rfl) dX10_append_15 (V_icmp_ge (tgt := 48) dX10_append_16 rfl (h.2.2 c1).1 (rg_c rfl) (fun c2 => V_ret dX10_append_48 rfl ((h.2.2 c1).2.1 c2)) (fun c2 => V_aload_n dX10_append_19 rfl (G_10_0 o_a0.1 o_a0.2.1 lf_10_9 dX10_append_20 (V_aload_n dX10_append_23 rfl (G_10_1 o_a0.1 lf_10_28 dX10_append_24 (V_iload_n dX10_append_27 rfl (V_iload_n dX10_append_28 rfl (V_iushr dX10_append_29 (ushr_eq _ _ c1 ((h.2.2 c1).2.2 c2).1) (V_i2b dX10_append_30 (i2b_eq _) (V_bast (t := 101) o_a0.2.2.1 (by decide) (by decide) rfl ((h.2.2 c1).2.2 c2).2.1 c2 (Nat.le_of_ble_eq_true rfl) (nar_b _) dX10_append_31 (V_nmZ (fun Z1 eZ1 => V_aload_n dX10_append_32 rfl (V_dup dX10_append_33 rfl (G_10_1 o_a0.1 lf_10_28 dX10_append_34 (V_iconst dX10_append_37 (V_iadd dX10_append_38 (P_10_1 o_a0.1 lf_10_28 dX10_append_39 (V_nmZ (fun Z2 eZ2 => V_iinc (lv' := [some (r_ a0), some (i_ v1), some (i_ (v2 + (-8)))]) dX10_append_42 rfl (Nat.le_of_ble_eq_true rfl) rfl (V_goto (tgt := 3) dX10_append_45 rfl (V_msk [true, true, true] rfl ((((h.2.2 c1).2.2 c2).2.2 Z1 eZ1) Z2 eZ2))))))))))))))))))))))))))))
theorem dX10_row_0 : decode cX10_row 0 = .ok (.iload_n 2, 1) := by decide +kernel
theorem dX10_row_1 : decode cX10_row 1 = .ok (.ifCond .lt 13, 3) := by decide +kernel
theorem dX10_row_4 : decode cX10_row 4 = .ok (.iload_n 2, 1) := by decide +kernel
theorem dX10_row_5 : decode cX10_row 5 = .ok (.aload_n 0, 1) := by decide +kernel
theorem dX10_row_6 : decode cX10_row 6 = .ok (.getfield 19, 3) := by decide +kernel
theorem dX10_row_9 : decode cX10_row 9 = .ok (.iload_n 1, 1) := by decide +kernel
theorem dX10_row_10 : decode cX10_row 10 = .ok (.iaload, 1) := by decide +kernel
theorem dX10_row_11 : decode cX10_row 11 = .ok (.if_icmp .lt 5, 3) := by decide +kernel
theorem dX10_row_14 : decode cX10_row 14 = .ok (.aconst_null, 1) := by decide +kernel
theorem dX10_row_15 : decode cX10_row 15 = .ok (.areturn, 1) := by decide +kernel
theorem dX10_row_16 : decode cX10_row 16 = .ok (.aload_n 0, 1) := by decide +kernel
theorem dX10_row_17 : decode cX10_row 17 = .ok (.getfield 25, 3) := by decide +kernel
theorem dX10_row_20 : decode cX10_row 20 = .ok (.getstatic 31, 3) := by decide +kernel
theorem dX10_row_23 : decode cX10_row 23 = .ok (.iload_n 1, 1) := by decide +kernel
theorem dX10_row_24 : decode cX10_row 24 = .ok (.iaload, 1) := by decide +kernel
theorem dX10_row_25 : decode cX10_row 25 = .ok (.iload_n 2, 1) := by decide +kernel
theorem dX10_row_26 : decode cX10_row 26 = .ok (.iadd, 1) := by decide +kernel
theorem dX10_row_27 : decode cX10_row 27 = .ok (.aaload, 1) := by decide +kernel
theorem dX10_row_28 : decode cX10_row 28 = .ok (.areturn, 1) := by decide +kernel
set_option maxRecDepth 20000 in
theorem b_X10_row_0 {k n : Nat} {x : Wx} {Z : Zt} {Q : Option Value → Wx → Zt → Prop} {a0 : Nat} {v1 : Int} {v2 : Int} (o_a0 : Is10 x a0) (s_x_2_2_2_1 : x.1 (x.2.2.2 1) = some (200, 3))
    (h : Rg v2 ∧ (((v2 < 0) → (V mX10_row k n 14 [none, none, none] [] x Z Q)) ∧ ((0 ≤ v2) → (0 ≤ v1 ∧ v1 < 3 ∧ (Rg (Z (a0 + 2) v1.toNat) ∧ (((v2 < Z (a0 + 2) v1.toNat) → (0 ≤ (Z (x.2.2.2 1) v1.toNat) + v2 ∧ (Z (x.2.2.2 1) v1.toNat) + v2 < 8 ∧ (Q (some (va_rf (some (a0 + 4 + ((Z (x.2.2.2 1) v1.toNat) + v2).toNat)))) x Z))) ∧ ((Z (a0 + 2) v1.toNat ≤ v2) → (V mX10_row k n 14 [none, none, none] [] x Z Q)))))))) :
    V mX10_row k n 0 [some (r_ a0), some (i_ v1), some (i_ v2)] [] x Z Q :=
  V_iload_n dX10_row_0 rfl (V_if_lt (tgt := 14) dX10_row_1 rfl h.1 (fun c1 => V_msk [false, false, false] rfl (h.2.1 c1)) (fun c1 => V_iload_n dX10_row_4 rfl (V_aload_n dX10_row_5 rfl (G_10_4 o_a0.1 o_a0.2.2.2.1 lf_10_19 dX10_row_6 (V_iload_n dX10_row_9 rfl (V_iald (t := 100) o_a0.2.2.2.2.1 (by decide) rfl (h.2.2 c1).1 (h.2.2 c1).2.1 (Nat.le_of_ble_eq_true rfl) dX10_row_10 (V_icmp_lt (tgt := 16) dX10_row_11 rfl h.1 (h.2.2 c1).2.2.1 (fun c2 => V_aload_n dX10_row_16 rfl (G_10_5 o_a0.1 o_a0.2.2.2.2.2.1 lf_10_25 dX10_row_17 (V_getsN (j := (1, "FIRST_ROW_OF_SORT")) (by decide) lfn_10_31 dX10_row_20 (V_iload_n dX10_row_23 rfl (V_iald (t := 200) s_x_2_2_2_1 (by decide) rfl (h.2.2 c1).1 (h.2.2 c1).2.1 (Nat.le_of_ble_eq_true rfl) dX10_row_24 (V_iload_n dX10_row_25 rfl (V_iadd dX10_row_26 (V_aaldR (t := 104) o_a0.2.2.2.2.2.2.1 (by decide) (fun _ _ => rfl) rfl ((h.2.2 c1).2.2.2.1 c2).1 ((h.2.2 c1).2.2.2.1 c2).2.1 (Nat.le_of_ble_eq_true rfl) (o_a0.2.2.2.2.2.2.2 _ ((ix_lt ((h.2.2 c1).2.2.2.1 c2).1 ((h.2.2 c1).2.2.2.1 c2).2.1))).1 dX10_row_27 (V_aret (r := (some (a0 + 4 + ((Z (x.2.2.2 1) v1.toNat) + v2).toNat))) dX10_row_28 rfl (Or.inr ⟨_, rfl⟩) ((h.2.2 c1).2.2.2.1 c2).2.2))))))))) (fun c2 => V_msk [false, false, false] rfl ((h.2.2 c1).2.2.2.2 c2)))))))))
set_option maxRecDepth 20000 in
theorem b_X10_row_14 {k n : Nat} {x : Wx} {Z : Zt} {Q : Option Value → Wx → Zt → Prop}  
    (h : Q (some (va_rf none)) x Z) :
    V mX10_row k n 14 [none, none, none] [] x Z Q :=
  V_aconst dX10_row_14 (V_aret (r := none) dX10_row_15 rfl (Or.inr ⟨_, rfl⟩) h)
theorem dX10_copy_0 : decode cX10_copy 0 = .ok (.aload_n 1, 1) := by decide +kernel
theorem dX10_copy_1 : decode cX10_copy 1 = .ok (.getfield 9, 3) := by decide +kernel
theorem dX10_copy_4 : decode cX10_copy 4 = .ok (.iconst 0, 1) := by decide +kernel
theorem dX10_copy_5 : decode cX10_copy 5 = .ok (.aload_n 0, 1) := by decide +kernel
theorem dX10_copy_6 : decode cX10_copy 6 = .ok (.getfield 9, 3) := by decide +kernel
theorem dX10_copy_9 : decode cX10_copy 9 = .ok (.iconst 0, 1) := by decide +kernel
theorem dX10_copy_10 : decode cX10_copy 10 = .ok (.aload_n 0, 1) := by decide +kernel
theorem dX10_copy_11 : decode cX10_copy 11 = .ok (.getfield 9, 3) := by decide +kernel
theorem dX10_copy_14 : decode cX10_copy 14 = .ok (.arraylength, 1) := by decide +kernel
theorem dX10_copy_15 : decode cX10_copy 15 = .ok (.invokestatic 37, 3) := by decide +kernel
theorem dX10_copy_18 : decode cX10_copy 18 = .ok (.aload_n 0, 1) := by decide +kernel
theorem dX10_copy_19 : decode cX10_copy 19 = .ok (.aload_n 1, 1) := by decide +kernel
theorem dX10_copy_20 : decode cX10_copy 20 = .ok (.getfield 28, 3) := by decide +kernel
theorem dX10_copy_23 : decode cX10_copy 23 = .ok (.putfield 28, 3) := by decide +kernel
theorem dX10_copy_26 : decode cX10_copy 26 = .ok (.aload_n 0, 1) := by decide +kernel
theorem dX10_copy_27 : decode cX10_copy 27 = .ok (.aload_n 1, 1) := by decide +kernel
theorem dX10_copy_28 : decode cX10_copy 28 = .ok (.getfield 43, 3) := by decide +kernel
theorem dX10_copy_31 : decode cX10_copy 31 = .ok (.putfield 43, 3) := by decide +kernel
theorem dX10_copy_34 : decode cX10_copy 34 = .ok (.aload_n 0, 1) := by decide +kernel
theorem dX10_copy_35 : decode cX10_copy 35 = .ok (.aload_n 1, 1) := by decide +kernel
theorem dX10_copy_36 : decode cX10_copy 36 = .ok (.getfield 15, 3) := by decide +kernel
theorem dX10_copy_39 : decode cX10_copy 39 = .ok (.putfield 15, 3) := by decide +kernel
theorem dX10_copy_42 : decode cX10_copy 42 = .ok (.aload_n 1, 1) := by decide +kernel
theorem dX10_copy_43 : decode cX10_copy 43 = .ok (.getfield 19, 3) := by decide +kernel
theorem dX10_copy_46 : decode cX10_copy 46 = .ok (.iconst 0, 1) := by decide +kernel
theorem dX10_copy_47 : decode cX10_copy 47 = .ok (.aload_n 0, 1) := by decide +kernel
theorem dX10_copy_48 : decode cX10_copy 48 = .ok (.getfield 19, 3) := by decide +kernel
theorem dX10_copy_51 : decode cX10_copy 51 = .ok (.iconst 0, 1) := by decide +kernel
theorem dX10_copy_52 : decode cX10_copy 52 = .ok (.iconst 3, 1) := by decide +kernel
theorem dX10_copy_53 : decode cX10_copy 53 = .ok (.invokestatic 37, 3) := by decide +kernel
theorem dX10_copy_56 : decode cX10_copy 56 = .ok (.iconst 0, 1) := by decide +kernel
theorem dX10_copy_57 : decode cX10_copy 57 = .ok (.istore_n 2, 1) := by decide +kernel
theorem dX10_copy_58 : decode cX10_copy 58 = .ok (.iload_n 2, 1) := by decide +kernel
theorem dX10_copy_59 : decode cX10_copy 59 = .ok (.aload_n 0, 1) := by decide +kernel
theorem dX10_copy_60 : decode cX10_copy 60 = .ok (.getfield 25, 3) := by decide +kernel
theorem dX10_copy_63 : decode cX10_copy 63 = .ok (.arraylength, 1) := by decide +kernel
theorem dX10_copy_64 : decode cX10_copy 64 = .ok (.if_icmp .ge 28, 3) := by decide +kernel
theorem dX10_copy_67 : decode cX10_copy 67 = .ok (.aload_n 1, 1) := by decide +kernel
theorem dX10_copy_68 : decode cX10_copy 68 = .ok (.getfield 25, 3) := by decide +kernel
theorem dX10_copy_71 : decode cX10_copy 71 = .ok (.iload_n 2, 1) := by decide +kernel
theorem dX10_copy_72 : decode cX10_copy 72 = .ok (.aaload, 1) := by decide +kernel
theorem dX10_copy_73 : decode cX10_copy 73 = .ok (.iconst 0, 1) := by decide +kernel
theorem dX10_copy_74 : decode cX10_copy 74 = .ok (.aload_n 0, 1) := by decide +kernel
theorem dX10_copy_75 : decode cX10_copy 75 = .ok (.getfield 25, 3) := by decide +kernel
theorem dX10_copy_78 : decode cX10_copy 78 = .ok (.iload_n 2, 1) := by decide +kernel
theorem dX10_copy_79 : decode cX10_copy 79 = .ok (.aaload, 1) := by decide +kernel
theorem dX10_copy_80 : decode cX10_copy 80 = .ok (.iconst 0, 1) := by decide +kernel
theorem dX10_copy_81 : decode cX10_copy 81 = .ok (.bipush 26, 2) := by decide +kernel
theorem dX10_copy_83 : decode cX10_copy 83 = .ok (.invokestatic 37, 3) := by decide +kernel
theorem dX10_copy_86 : decode cX10_copy 86 = .ok (.iinc 2 1, 3) := by decide +kernel
theorem dX10_copy_89 : decode cX10_copy 89 = .ok (.goto (-31), 3) := by decide +kernel
theorem dX10_copy_92 : decode cX10_copy 92 = .ok (.return_, 1) := by decide +kernel
set_option maxRecDepth 20000 in
theorem b_X10_copy_0 {k n : Nat} {x : Wx} {Z : Zt} {Q : Option Value → Wx → Zt → Prop} {a0 : Nat} {a1 : Nat} (o_a1 : Is10 x a1) (o_a0 : Is10 x a0)
    (h : (∀ i : Nat, i < 600 → fits .byte (i_ (Z (a1 + 1) (0 + i))) = true) ∧ (∀ Z1 : Zt, Z1 = cpyZ Z (a1 + 1) 0 (a0 + 1) 0 600 → (∀ Z2 : Zt, Z2 = up Z1 a0 1 (Z1 a1 1) → (∀ Z3 : Zt, Z3 = up Z2 a0 2 (Z2 a1 2) → (∀ Z4 : Zt, Z4 = up Z3 a0 3 (Z3 a1 3) → (∀ Z5 : Zt, Z5 = cpyZ Z4 (a1 + 2) 0 (a0 + 2) 0 3 → (V mX10_copy k n 58 [some (r_ a0), some (r_ a1), some (i_ 0)] [] x Z5 Q))))))) :
    V mX10_copy k n 0 [some (r_ a0), some (r_ a1), none] [] x Z Q :=
  V_aload_n dX10_copy_0 rfl (G_10_0 o_a1.1 o_a1.2.1 lf_10_9 dX10_copy_1 (V_iconst dX10_copy_4 (V_aload_n dX10_copy_5 rfl (G_10_0 o_a0.1 o_a0.2.1 lf_10_9 dX10_copy_6 (V_iconst dX10_copy_9 (V_aload_n dX10_copy_10 rfl (G_10_0 o_a0.1 o_a0.2.1 lf_10_9 dX10_copy_11 (V_alen (t := 101) o_a0.2.2.1 (by decide) (Nat.le_of_ble_eq_true rfl) dX10_copy_14 (V_acopy (t := 101) o_a1.2.2.1 o_a0.2.2.1 (by decide) (by decide) rfl (fun _ _ => rfl) (by decide) (by decide) (by decide) (by decide) (by decide) ⟨(Nat.le_of_ble_eq_true rfl), (Nat.le_of_ble_eq_true rfl)⟩ h.1 lm_10_37 lcpn lcps lini_J10 (Nat.le_of_ble_eq_true rfl) (Nat.le_of_ble_eq_true rfl) dX10_copy_15 (V_nmZ (fun Z1 eZ1 => V_aload_n dX10_copy_18 rfl (V_aload_n dX10_copy_19 rfl (G_10_1 o_a1.1 lf_10_28 dX10_copy_20 (P_10_1 o_a0.1 lf_10_28 dX10_copy_23 (V_nmZ (fun Z2 eZ2 => V_aload_n dX10_copy_26 rfl (V_aload_n dX10_copy_27 rfl (G_10_2 o_a1.1 lf_10_43 dX10_copy_28 (P_10_2 o_a0.1 lf_10_43 dX10_copy_31 (V_nmZ (fun Z3 eZ3 => V_aload_n dX10_copy_34 rfl (V_aload_n dX10_copy_35 rfl (G_10_3 o_a1.1 lf_10_15 dX10_copy_36 (P_10_3 o_a0.1 lf_10_15 dX10_copy_39 (V_nmZ (fun Z4 eZ4 => V_aload_n dX10_copy_42 rfl (G_10_4 o_a1.1 o_a1.2.2.2.1 lf_10_19 dX10_copy_43 (V_iconst dX10_copy_46 (V_aload_n dX10_copy_47 rfl (G_10_4 o_a0.1 o_a0.2.2.2.1 lf_10_19 dX10_copy_48 (V_iconst dX10_copy_51 (V_iconst dX10_copy_52 (V_acopy (t := 100) o_a1.2.2.2.2.1 o_a0.2.2.2.2.1 (by decide) (by decide) rfl (fun _ _ => rfl) (by decide) (by decide) (by decide) (by decide) (by decide) ⟨(Nat.le_of_ble_eq_true rfl), (Nat.le_of_ble_eq_true rfl)⟩ (fun _ _ => rfl) lm_10_37 lcpn lcps lini_J10 (Nat.le_of_ble_eq_true rfl) (Nat.le_of_ble_eq_true rfl) dX10_copy_53 (V_nmZ (fun Z5 eZ5 => V_iconst dX10_copy_56 (V_istore_n (lv' := [some (r_ a0), some (r_ a1), some (i_ 0)]) dX10_copy_57 (Nat.le_of_ble_eq_true rfl) rfl (V_msk [true, true, true] rfl (((((h.2 Z1 eZ1) Z2 eZ2) Z3 eZ3) Z4 eZ4) Z5 eZ5))))))))))))))))))))))))))))))))))))))
set_option maxRecDepth 20000 in
theorem b_X10_copy_58 {k n : Nat} {x : Wx} {Z : Zt} {Q : Option Value → Wx → Zt → Prop} {a0 : Nat} {a1 : Nat} {v2 : Int} (o_a0 : Is10 x a0) (o_a1 : Is10 x a1)
    (h : Rg v2 ∧ (((8 ≤ v2) → (Q none x Z)) ∧ ((v2 < 8) → (0 ≤ v2 ∧ (∀ Z1 : Zt, Z1 = cpyZ Z (a1 + 4 + v2.toNat) 0 (a0 + 4 + v2.toNat) 0 26 → (V mX10_copy k n 58 [some (r_ a0), some (r_ a1), some (i_ (v2 + 1))] [] x Z1 Q)))))) :
    V mX10_copy k n 58 [some (r_ a0), some (r_ a1), some (i_ v2)] [] x Z Q :=
  V_iload_n dX10_copy_58 rfl (V_aload_n dX10_copy_59 rfl (G_10_5 o_a0.1 o_a0.2.2.2.2.2.1 lf_10_25 dX10_copy_60 (V_alen (t := 104) o_a0.2.2.2.2.2.2.1 (by decide) (Nat.le_of_ble_eq_true rfl) dX10_copy_63 (V_icmp_ge (tgt := 92) dX10_copy_64 rfl h.1 (rg_c rfl) (fun c1 => V_ret dX10_copy_92 rfl (h.2.1 c1)) (fun c1 => V_aload_n dX10_copy_67 rfl (G_10_5 o_a1.1 o_a1.2.2.2.2.2.1 lf_10_25 dX10_copy_68 (V_iload_n dX10_copy_71 rfl (V_aaldR (t := 104) o_a1.2.2.2.2.2.2.1 (by decide) (fun _ _ => rfl) rfl (h.2.2 c1).1 c1 (Nat.le_of_ble_eq_true rfl) (o_a1.2.2.2.2.2.2.2 _ ((ix_lt (h.2.2 c1).1 c1))).1 dX10_copy_72 (V_iconst dX10_copy_73 (V_aload_n dX10_copy_74 rfl (G_10_5 o_a0.1 o_a0.2.2.2.2.2.1 lf_10_25 dX10_copy_75 (V_iload_n dX10_copy_78 rfl (V_aaldR (t := 104) o_a0.2.2.2.2.2.2.1 (by decide) (fun _ _ => rfl) rfl (h.2.2 c1).1 c1 (Nat.le_of_ble_eq_true rfl) (o_a0.2.2.2.2.2.2.2 _ ((ix_lt (h.2.2 c1).1 c1))).1 dX10_copy_79 (V_iconst dX10_copy_80 (V_bipush dX10_copy_81 rfl (V_acopy (t := 100) (o_a1.2.2.2.2.2.2.2 _ ((ix_lt (h.2.2 c1).1 c1))).2 (o_a0.2.2.2.2.2.2.2 _ ((ix_lt (h.2.2 c1).1 c1))).2 (by decide) (by decide) rfl (fun _ _ => rfl) (by decide) (by decide) (by decide) (by decide) (by decide) ⟨(Nat.le_of_ble_eq_true rfl), (Nat.le_of_ble_eq_true rfl)⟩ (fun _ _ => rfl) lm_10_37 lcpn lcps lini_J10 (Nat.le_of_ble_eq_true rfl) (Nat.le_of_ble_eq_true rfl) dX10_copy_83 (V_nmZ (fun Z1 eZ1 => V_iinc (lv' := [some (r_ a0), some (r_ a1), some (i_ (v2 + 1))]) dX10_copy_86 rfl (Nat.le_of_ble_eq_true rfl) rfl (V_goto (tgt := 58) dX10_copy_89 rfl (V_msk [true, true, true] rfl ((h.2.2 c1).2 Z1 eZ1)))))))))))))))))))))
theorem dX10_tell_0 : decode cX10_tell 0 = .ok (.iload_n 2, 1) := by decide +kernel
theorem dX10_tell_1 : decode cX10_tell 1 = .ok (.ifCond .lt 12, 3) := by decide +kernel
theorem dX10_tell_4 : decode cX10_tell 4 = .ok (.iload_n 2, 1) := by decide +kernel
theorem dX10_tell_5 : decode cX10_tell 5 = .ok (.getstatic 34, 3) := by decide +kernel
theorem dX10_tell_8 : decode cX10_tell 8 = .ok (.iload_n 1, 1) := by decide +kernel
theorem dX10_tell_9 : decode cX10_tell 9 = .ok (.iaload, 1) := by decide +kernel
theorem dX10_tell_10 : decode cX10_tell 10 = .ok (.if_icmp .lt 4, 3) := by decide +kernel
theorem dX10_tell_13 : decode cX10_tell 13 = .ok (.return_, 1) := by decide +kernel
theorem dX10_tell_14 : decode cX10_tell 14 = .ok (.aload_n 3, 1) := by decide +kernel
theorem dX10_tell_15 : decode cX10_tell 15 = .ok (.iconst 0, 1) := by decide +kernel
theorem dX10_tell_16 : decode cX10_tell 16 = .ok (.aload_n 0, 1) := by decide +kernel
theorem dX10_tell_17 : decode cX10_tell 17 = .ok (.getfield 25, 3) := by decide +kernel
theorem dX10_tell_20 : decode cX10_tell 20 = .ok (.getstatic 31, 3) := by decide +kernel
theorem dX10_tell_23 : decode cX10_tell 23 = .ok (.iload_n 1, 1) := by decide +kernel
theorem dX10_tell_24 : decode cX10_tell 24 = .ok (.iaload, 1) := by decide +kernel
theorem dX10_tell_25 : decode cX10_tell 25 = .ok (.iload_n 2, 1) := by decide +kernel
theorem dX10_tell_26 : decode cX10_tell 26 = .ok (.iadd, 1) := by decide +kernel
theorem dX10_tell_27 : decode cX10_tell 27 = .ok (.aaload, 1) := by decide +kernel
theorem dX10_tell_28 : decode cX10_tell 28 = .ok (.iconst 0, 1) := by decide +kernel
theorem dX10_tell_29 : decode cX10_tell 29 = .ok (.bipush 26, 2) := by decide +kernel
theorem dX10_tell_31 : decode cX10_tell 31 = .ok (.invokestatic 37, 3) := by decide +kernel
theorem dX10_tell_34 : decode cX10_tell 34 = .ok (.iload_n 2, 1) := by decide +kernel
theorem dX10_tell_35 : decode cX10_tell 35 = .ok (.aload_n 0, 1) := by decide +kernel
theorem dX10_tell_36 : decode cX10_tell 36 = .ok (.getfield 19, 3) := by decide +kernel
theorem dX10_tell_39 : decode cX10_tell 39 = .ok (.iload_n 1, 1) := by decide +kernel
theorem dX10_tell_40 : decode cX10_tell 40 = .ok (.iaload, 1) := by decide +kernel
theorem dX10_tell_41 : decode cX10_tell 41 = .ok (.if_icmp .ne 12, 3) := by decide +kernel
theorem dX10_tell_44 : decode cX10_tell 44 = .ok (.aload_n 0, 1) := by decide +kernel
theorem dX10_tell_45 : decode cX10_tell 45 = .ok (.getfield 19, 3) := by decide +kernel
theorem dX10_tell_48 : decode cX10_tell 48 = .ok (.iload_n 1, 1) := by decide +kernel
theorem dX10_tell_49 : decode cX10_tell 49 = .ok (.iload_n 2, 1) := by decide +kernel
theorem dX10_tell_50 : decode cX10_tell 50 = .ok (.iconst 1, 1) := by decide +kernel
theorem dX10_tell_51 : decode cX10_tell 51 = .ok (.iadd, 1) := by decide +kernel
theorem dX10_tell_52 : decode cX10_tell 52 = .ok (.iastore, 1) := by decide +kernel
theorem dX10_tell_53 : decode cX10_tell 53 = .ok (.return_, 1) := by decide +kernel
set_option maxRecDepth 20000 in
theorem b_X10_tell_0 {k n : Nat} {x : Wx} {Z : Zt} {Q : Option Value → Wx → Zt → Prop} {a0 : Nat} {v1 : Int} {v2 : Int} {a3 : Nat} (o_a0 : Is10 x a0) (s_x_2_2_2_0 : x.1 (x.2.2.2 0) = some (200, 3)) (s_x_2_2_2_1 : x.1 (x.2.2.2 1) = some (200, 3)) (s_a3 : x.1 a3 = some (100, 26))
    (h : Rg v2 ∧ (((v2 < 0) → (Q none x Z)) ∧ ((0 ≤ v2) → (0 ≤ v1 ∧ v1 < 3 ∧ (Rg (Z (x.2.2.2 0) v1.toNat) ∧ (((v2 < Z (x.2.2.2 0) v1.toNat) → (0 ≤ (Z (x.2.2.2 1) v1.toNat) + v2 ∧ (Z (x.2.2.2 1) v1.toNat) + v2 < 8 ∧ (∀ Z1 : Zt, Z1 = cpyZ Z a3 0 (a0 + 4 + ((Z (x.2.2.2 1) v1.toNat) + v2).toNat) 0 26 → (Rg (Z1 (a0 + 2) v1.toNat) ∧ (((v2 ≠ Z1 (a0 + 2) v1.toNat) → (Q none x Z1)) ∧ ((v2 = Z1 (a0 + 2) v1.toNat) → (∀ Z2 : Zt, Z2 = up Z1 (a0 + 2) v1.toNat (v2 + 1) → (Q none x Z2)))))))) ∧ ((Z (x.2.2.2 0) v1.toNat ≤ v2) → (Q none x Z)))))))) :
    V mX10_tell k n 0 [some (r_ a0), some (i_ v1), some (i_ v2), some (r_ a3)] [] x Z Q :=
  V_iload_n dX10_tell_0 rfl (V_if_lt (tgt := 13) dX10_tell_1 rfl h.1 (fun c1 => V_ret dX10_tell_13 rfl (h.2.1 c1)) (fun c1 => V_iload_n dX10_tell_4 rfl (V_getsN (j := (0, "MOST_OF_SORT")) (by decide) lfn_10_34 dX10_tell_5 (V_iload_n dX10_tell_8 rfl (V_iald (t := 200) s_x_2_2_2_0 (by decide) rfl (h.2.2 c1).1 (h.2.2 c1).2.1 (Nat.le_of_ble_eq_true rfl) dX10_tell_9 (V_icmp_lt (tgt := 14) dX10_tell_10 rfl h.1 (h.2.2 c1).2.2.1 (fun c2 => V_aload_n dX10_tell_14 rfl (V_iconst dX10_tell_15 (V_aload_n dX10_tell_16 rfl (G_10_5 o_a0.1 o_a0.2.2.2.2.2.1 lf_10_25 dX10_tell_17 (V_getsN (j := (1, "FIRST_ROW_OF_SORT")) (by decide) lfn_10_31 dX10_tell_20 (V_iload_n dX10_tell_23 rfl (V_iald (t := 200) s_x_2_2_2_1 (by decide) rfl (h.2.2 c1).1 (h.2.2 c1).2.1 (Nat.le_of_ble_eq_true rfl) dX10_tell_24 (V_iload_n dX10_tell_25 rfl (V_iadd dX10_tell_26 (V_aaldR (t := 104) o_a0.2.2.2.2.2.2.1 (by decide) (fun _ _ => rfl) rfl ((h.2.2 c1).2.2.2.1 c2).1 ((h.2.2 c1).2.2.2.1 c2).2.1 (Nat.le_of_ble_eq_true rfl) (o_a0.2.2.2.2.2.2.2 _ ((ix_lt ((h.2.2 c1).2.2.2.1 c2).1 ((h.2.2 c1).2.2.2.1 c2).2.1))).1 dX10_tell_27 (V_iconst dX10_tell_28 (V_bipush dX10_tell_29 rfl (V_acopy (t := 100) s_a3 (o_a0.2.2.2.2.2.2.2 _ ((ix_lt ((h.2.2 c1).2.2.2.1 c2).1 ((h.2.2 c1).2.2.2.1 c2).2.1))).2 (by decide) (by decide) rfl (fun _ _ => rfl) (by decide) (by decide) (by decide) (by decide) (by decide) ⟨(Nat.le_of_ble_eq_true rfl), (Nat.le_of_ble_eq_true rfl)⟩ (fun _ _ => rfl) lm_10_37 lcpn lcps lini_J10 (Nat.le_of_ble_eq_true rfl) (Nat.le_of_ble_eq_true rfl) dX10_tell_31 (V_nmZ (fun Z1 eZ1 => V_iload_n dX10_tell_34 rfl (V_aload_n dX10_tell_35 rfl (G_10_4 o_a0.1 o_a0.2.2.2.1 lf_10_19 dX10_tell_36 (V_iload_n dX10_tell_39 rfl (V_iald (t := 100) o_a0.2.2.2.2.1 (by decide) rfl (h.2.2 c1).1 (h.2.2 c1).2.1 (Nat.le_of_ble_eq_true rfl) dX10_tell_40 (V_icmp_ne (tgt := 53) dX10_tell_41 rfl h.1 (((h.2.2 c1).2.2.2.1 c2).2.2 Z1 eZ1).1 (fun c3 => V_ret dX10_tell_53 rfl ((((h.2.2 c1).2.2.2.1 c2).2.2 Z1 eZ1).2.1 c3)) (fun c3 => V_aload_n dX10_tell_44 rfl (G_10_4 o_a0.1 o_a0.2.2.2.1 lf_10_19 dX10_tell_45 (V_iload_n dX10_tell_48 rfl (V_iload_n dX10_tell_49 rfl (V_iconst dX10_tell_50 (V_iadd dX10_tell_51 (V_iast (t := 100) o_a0.2.2.2.2.1 (by decide) (by decide) rfl (h.2.2 c1).1 (h.2.2 c1).2.1 (Nat.le_of_ble_eq_true rfl) dX10_tell_52 (V_nmZ (fun Z2 eZ2 => V_ret dX10_tell_53 rfl (((((h.2.2 c1).2.2.2.1 c2).2.2 Z1 eZ1).2.2 c3) Z2 eZ2)))))))))))))))))))))))))))))) (fun c2 => V_ret dX10_tell_13 rfl ((h.2.2 c1).2.2.2.2 c2))))))))
theorem dX10_degreeOf_0 : decode cX10_degreeOf 0 = .ok (.aload_n 0, 1) := by decide +kernel
theorem dX10_degreeOf_1 : decode cX10_degreeOf 1 = .ok (.ifnonnull 5, 3) := by decide +kernel
theorem dX10_degreeOf_4 : decode cX10_degreeOf 4 = .ok (.iconst 0, 1) := by decide +kernel
theorem dX10_degreeOf_5 : decode cX10_degreeOf 5 = .ok (.ireturn, 1) := by decide +kernel
theorem dX10_degreeOf_6 : decode cX10_degreeOf 6 = .ok (.aload_n 0, 1) := by decide +kernel
theorem dX10_degreeOf_7 : decode cX10_degreeOf 7 = .ok (.iconst 1, 1) := by decide +kernel
theorem dX10_degreeOf_8 : decode cX10_degreeOf 8 = .ok (.iaload, 1) := by decide +kernel
theorem dX10_degreeOf_9 : decode cX10_degreeOf 9 = .ok (.istore_n 1, 1) := by decide +kernel
theorem dX10_degreeOf_10 : decode cX10_degreeOf 10 = .ok (.iconst 0, 1) := by decide +kernel
theorem dX10_degreeOf_11 : decode cX10_degreeOf 11 = .ok (.istore_n 2, 1) := by decide +kernel
theorem dX10_degreeOf_12 : decode cX10_degreeOf 12 = .ok (.iload_n 2, 1) := by decide +kernel
theorem dX10_degreeOf_13 : decode cX10_degreeOf 13 = .ok (.aload_n 0, 1) := by decide +kernel
theorem dX10_degreeOf_14 : decode cX10_degreeOf 14 = .ok (.iconst 0, 1) := by decide +kernel
theorem dX10_degreeOf_15 : decode cX10_degreeOf 15 = .ok (.iaload, 1) := by decide +kernel
theorem dX10_degreeOf_16 : decode cX10_degreeOf 16 = .ok (.if_icmp .ge 27, 3) := by decide +kernel
theorem dX10_degreeOf_19 : decode cX10_degreeOf 19 = .ok (.iload_n 2, 1) := by decide +kernel
theorem dX10_degreeOf_20 : decode cX10_degreeOf 20 = .ok (.bipush 8, 2) := by decide +kernel
theorem dX10_degreeOf_22 : decode cX10_degreeOf 22 = .ok (.if_icmp .ge 21, 3) := by decide +kernel
theorem dX10_degreeOf_25 : decode cX10_degreeOf 25 = .ok (.iload_n 1, 1) := by decide +kernel
theorem dX10_degreeOf_26 : decode cX10_degreeOf 26 = .ok (.aload_n 0, 1) := by decide +kernel
theorem dX10_degreeOf_27 : decode cX10_degreeOf 27 = .ok (.iconst 2, 1) := by decide +kernel
theorem dX10_degreeOf_28 : decode cX10_degreeOf 28 = .ok (.iconst 3, 1) := by decide +kernel
theorem dX10_degreeOf_29 : decode cX10_degreeOf 29 = .ok (.iload_n 2, 1) := by decide +kernel
theorem dX10_degreeOf_30 : decode cX10_degreeOf 30 = .ok (.imul, 1) := by decide +kernel
theorem dX10_degreeOf_31 : decode cX10_degreeOf 31 = .ok (.iadd, 1) := by decide +kernel
theorem dX10_degreeOf_32 : decode cX10_degreeOf 32 = .ok (.iconst 2, 1) := by decide +kernel
theorem dX10_degreeOf_33 : decode cX10_degreeOf 33 = .ok (.iadd, 1) := by decide +kernel
theorem dX10_degreeOf_34 : decode cX10_degreeOf 34 = .ok (.iaload, 1) := by decide +kernel
theorem dX10_degreeOf_35 : decode cX10_degreeOf 35 = .ok (.iadd, 1) := by decide +kernel
theorem dX10_degreeOf_36 : decode cX10_degreeOf 36 = .ok (.istore_n 1, 1) := by decide +kernel
theorem dX10_degreeOf_37 : decode cX10_degreeOf 37 = .ok (.iinc 2 1, 3) := by decide +kernel
theorem dX10_degreeOf_40 : decode cX10_degreeOf 40 = .ok (.goto (-28), 3) := by decide +kernel
theorem dX10_degreeOf_43 : decode cX10_degreeOf 43 = .ok (.iload_n 1, 1) := by decide +kernel
theorem dX10_degreeOf_44 : decode cX10_degreeOf 44 = .ok (.ireturn, 1) := by decide +kernel
set_option maxRecDepth 20000 in
theorem b_X10_degreeOf_0 {k n : Nat} {x : Wx} {Z : Zt} {Q : Option Value → Wx → Zt → Prop} {a0 : Nat} (s_a0 : x.1 a0 = some (100, 26))
    (h : V mX10_degreeOf k n 12 [some (r_ a0), some (i_ (Z a0 1)), some (i_ 0)] [] x Z Q) :
    V mX10_degreeOf k n 0 [some (r_ a0), none, none] [] x Z Q :=
  V_aload_n dX10_degreeOf_0 rfl (V_ifnonnull_r (tgt := 6) dX10_degreeOf_1 rfl (V_aload_n dX10_degreeOf_6 rfl (V_iconst dX10_degreeOf_7 (V_iald (t := 100) s_a0 (by decide) rfl (by decide) (by decide) (Nat.le_of_ble_eq_true rfl) dX10_degreeOf_8 (V_istore_n (lv' := [some (r_ a0), some (i_ (Z a0 1)), none]) dX10_degreeOf_9 (Nat.le_of_ble_eq_true rfl) rfl (V_iconst dX10_degreeOf_10 (V_istore_n (lv' := [some (r_ a0), some (i_ (Z a0 1)), some (i_ 0)]) dX10_degreeOf_11 (Nat.le_of_ble_eq_true rfl) rfl (V_msk [true, true, true] rfl h))))))))
set_option maxRecDepth 20000 in
theorem b_X10_degreeOf_12 {k n : Nat} {x : Wx} {Z : Zt} {Q : Option Value → Wx → Zt → Prop} {a0 : Nat} {v1 : Int} {v2 : Int} (s_a0 : x.1 a0 = some (100, 26))
    (h : Rg v2 ∧ Rg (Z a0 0) ∧ (((Z a0 0 ≤ v2) → (V mX10_degreeOf k n 43 [none, some (i_ v1), none] [] x Z Q)) ∧ ((v2 < Z a0 0) → (((8 ≤ v2) → (V mX10_degreeOf k n 43 [none, some (i_ v1), none] [] x Z Q)) ∧ ((v2 < 8) → (0 ≤ (2 + (3 * v2)) + 2 ∧ (2 + (3 * v2)) + 2 < 26 ∧ (V mX10_degreeOf k n 12 [some (r_ a0), some (i_ (v1 + (Z a0 ((2 + (3 * v2)) + 2).toNat))), some (i_ (v2 + 1))] [] x Z Q))))))) :
    V mX10_degreeOf k n 12 [some (r_ a0), some (i_ v1), some (i_ v2)] [] x Z Q :=
  V_iload_n dX10_degreeOf_12 rfl (V_aload_n dX10_degreeOf_13 rfl (V_iconst dX10_degreeOf_14 (V_iald (t := 100) s_a0 (by decide) rfl (by decide) (by decide) (Nat.le_of_ble_eq_true rfl) dX10_degreeOf_15 (V_icmp_ge (tgt := 43) dX10_degreeOf_16 rfl h.1 h.2.1 (fun c1 => V_msk [false, true, false] rfl (h.2.2.1 c1)) (fun c1 => V_iload_n dX10_degreeOf_19 rfl (V_bipush dX10_degreeOf_20 rfl (V_icmp_ge (tgt := 43) dX10_degreeOf_22 rfl h.1 (rg_c rfl) (fun c2 => V_msk [false, true, false] rfl ((h.2.2.2 c1).1 c2)) (fun c2 => V_iload_n dX10_degreeOf_25 rfl (V_aload_n dX10_degreeOf_26 rfl (V_iconst dX10_degreeOf_27 (V_iconst dX10_degreeOf_28 (V_iload_n dX10_degreeOf_29 rfl (V_imul dX10_degreeOf_30 (V_iadd dX10_degreeOf_31 (V_iconst dX10_degreeOf_32 (V_iadd dX10_degreeOf_33 (V_iald (t := 100) s_a0 (by decide) rfl ((h.2.2.2 c1).2 c2).1 ((h.2.2.2 c1).2 c2).2.1 (Nat.le_of_ble_eq_true rfl) dX10_degreeOf_34 (V_iadd dX10_degreeOf_35 (V_istore_n (lv' := [some (r_ a0), some (i_ (v1 + (Z a0 ((2 + (3 * v2)) + 2).toNat))), some (i_ v2)]) dX10_degreeOf_36 (Nat.le_of_ble_eq_true rfl) rfl (V_iinc (lv' := [some (r_ a0), some (i_ (v1 + (Z a0 ((2 + (3 * v2)) + 2).toNat))), some (i_ (v2 + 1))]) dX10_degreeOf_37 rfl (Nat.le_of_ble_eq_true rfl) rfl (V_goto (tgt := 12) dX10_degreeOf_40 rfl (V_msk [true, true, true] rfl ((h.2.2.2 c1).2 c2).2.2))))))))))))))))))))))
set_option maxRecDepth 20000 in
theorem b_X10_degreeOf_43 {k n : Nat} {x : Wx} {Z : Zt} {Q : Option Value → Wx → Zt → Prop} {v1 : Int} 
    (h : Q (some (i_ v1)) x Z) :
    V mX10_degreeOf k n 43 [none, some (i_ v1), none] [] x Z Q :=
  V_iload_n dX10_degreeOf_43 rfl (V_iret (ty := .int) dX10_degreeOf_44 rfl rfl h)
theorem sp_X10_append {k n : Nat} {x : Wx} {Z : Zt} {Q : Option Value → Wx → Zt → Prop} {t : Nat} {v : Int} (o : Is10 x t) (hl : 0 ≤ Z t 1 ∧ Z t 1 ≤ 596) (h : Q none x (apZ Z t v 4)) : V mX10_append k n 0 [some (r_ t), some (i_ v), none] [] x Z Q := by
  have lp : ∀ (m j : Nat) (w : Int) (Z1 : Zt), j + m = 4 → w = 24 - 8 * (j : Int) → Z1 = apZ Z t v j → V mX10_append k n 3 [some (r_ t), some (i_ v), some (i_ w)] [] x Z1 Q := by
    intro m
    induction m with
    | zero =>
      intro j w Z1 hm hw hz
      refine b_X10_append_3 o ⟨⟨by omega, by omega⟩, fun _ => ?_, fun c => by omega⟩
      rw [hz, show j = 4 by omega]; exact h
    | succ m ih =>
      intro j w Z1 hm hw hz
      have e1 : Z1 t 1 = Z t 1 + j := by
        rw [hz]; unfold apZ
        rw [if_neg (by omega), if_pos ⟨rfl, rfl⟩]
      refine b_X10_append_3 o ⟨⟨by omega, by omega⟩, fun c => by omega, fun c => ⟨⟨by omega, by omega⟩, fun c2 => by omega, fun c2 => ⟨by omega, by omega, fun Z2 e2 Z3 e3 => ih (j + 1) (w + (-8)) Z3 (by omega) (by omega) ?_⟩⟩⟩
      have e4 : Z2 t 1 = Z t 1 + j := by rw [e2, up_row _ _ _ _ _ (by omega)]; exact e1
      rw [e3, e4, e2, e1, hz]
      funext b i
      unfold up apZ
      rw [show w.toNat = 24 - 8 * j by omega, show (Z t 1 + (j : Int)).toNat = (Z t 1).toNat + j by omega]
      by_cases c3 : b = t ∧ i = 1
      · rw [if_pos c3, if_neg (by omega), if_pos c3]; omega
      · rw [if_neg c3]
        by_cases c4 : b = t + 1 ∧ i = (Z t 1).toNat + j
        · rw [if_pos c4, if_pos (by omega)]
          unfold byt
          rw [show i - (Z t 1).toNat = j by omega]
        · rw [if_neg c4]
          by_cases c5 : b = t + 1 ∧ (Z t 1).toNat ≤ i ∧ i < (Z t 1).toNat + j
          · rw [if_pos c5, if_pos (by omega)]
          · rw [if_neg c5, if_neg c3, if_neg (by omega), if_neg c3]
  refine b_X10_append_0 (lp 4 0 24 Z (by omega) (by omega) ?_)
  funext b i
  unfold apZ
  rw [if_neg (by omega)]
  by_cases c3 : b = t ∧ i = 1
  · rw [if_pos c3, c3.1, c3.2]; omega
  · rw [if_neg c3]
theorem sp_X10_row {k n : Nat} {x : Wx} {Z : Zt} {Q : Option Value → Wx → Zt → Prop} {t : Nat} {s w : Int} (o : Is10 x t) (ks : KS x) (kw : KW x Z) (hs : 0 ≤ s ∧ s < 3) (hw : Rg w) (hc : 0 ≤ Z (t + 2) s.toNat ∧ Z (t + 2) s.toNat ≤ mstr s) (h : Q (some (va_rf (if 0 ≤ w ∧ w < Z (t + 2) s.toNat then some (t + 4 + (fstr s + w).toNat) else none))) x Z) : V mX10_row k n 0 [some (r_ t), some (i_ s), some (i_ w)] [] x Z Q := by
  have hf := fstr_rg hs
  refine b_X10_row_0 o ks.2.1 ⟨hw, fun c => b_X10_row_14 ?_, fun c => ⟨hs.1, hs.2, ⟨by omega, by omega⟩, fun c2 => ?_, fun c2 => b_X10_row_14 ?_⟩⟩
  · rw [if_neg (by omega)] at h; exact h
  · rw [kw.f hs]
    rw [if_pos ⟨c, c2⟩] at h
    exact ⟨by omega, by omega, h⟩
  · rw [if_neg (by omega)] at h; exact h
/-- the row is told as number w of its sort -/
def tlZ (Z : Zt) (t r : Nat) (s w : Int) : Zt := fun b i => if b = t + 4 + (fstr s + w).toNat ∧ i < 26 then Z r i else if b = t + 2 ∧ i = s.toNat ∧ w = Z (t + 2) s.toNat then w + 1 else Z b i
theorem sp_X10_tell {k n : Nat} {x : Wx} {Z : Zt} {Q : Option Value → Wx → Zt → Prop} {t r : Nat} {s w : Int} (o : Is10 x t) (ks : KS x) (sr : x.1 r = some (100, 26)) (kw : KW x Z) (hs : 0 ≤ s ∧ s < 3) (hw : 0 ≤ w ∧ w < mstr s) (hc : 0 ≤ Z (t + 2) s.toNat ∧ Z (t + 2) s.toNat ≤ mstr s) (h : Q none x (tlZ Z t r s w)) : V mX10_tell k n 0 [some (r_ t), some (i_ s), some (i_ w), some (r_ r)] [] x Z Q := by
  have hf := fstr_rg hs
  refine b_X10_tell_0 o ks.1 ks.2.1 sr ⟨⟨by omega, by omega⟩, fun c => by omega, fun c => ⟨hs.1, hs.2, ?_⟩⟩
  rw [kw.m hs, kw.f hs]
  refine ⟨⟨by omega, by omega⟩, fun _ => ⟨by omega, by omega, fun Z1 e1 => ?_⟩, fun c2 => by omega⟩
  have e2 : Z1 (t + 2) s.toNat = Z (t + 2) s.toNat := by rw [e1]; unfold cpyZ; rw [if_neg (by omega)]
  rw [e2]
  refine ⟨⟨by omega, by omega⟩, fun c2 => ?_, fun c2 Z2 e3 => ?_⟩
  · have : Z1 = tlZ Z t r s w := by
      rw [e1]
      funext b i
      unfold cpyZ tlZ
      by_cases c3 : b = t + 4 + (fstr s + w).toNat
      · rw [if_pos c3]
        by_cases c4 : i < 26
        · rw [if_pos ⟨by omega, by omega⟩, if_pos ⟨c3, c4⟩]; congr 1; omega
        · rw [if_neg (by omega), if_neg (by omega), if_neg (by omega), c3]
      · rw [if_neg c3, if_neg (by omega), if_neg (fun e => c2 e.2.2)]
    rw [this]; exact h
  · have : Z2 = tlZ Z t r s w := by
      rw [e3, e1]
      funext b i
      unfold up cpyZ tlZ
      by_cases c5 : b = t + 2 ∧ i = s.toNat
      · rw [if_pos c5, if_neg (by omega), if_pos ⟨c5.1, c5.2, c2⟩]
      · rw [if_neg c5]
        by_cases c3 : b = t + 4 + (fstr s + w).toNat
        · rw [if_pos c3]
          by_cases c4 : i < 26
          · rw [if_pos ⟨by omega, by omega⟩, if_pos ⟨c3, c4⟩]; congr 1; omega
          · rw [if_neg (by omega), if_neg (by omega), if_neg (by omega), c3]
        · rw [if_neg c3, if_neg (by omega), if_neg (fun e => c5 ⟨e.1, e.2.1⟩)]
    rw [this]; exact h
theorem cpy_row (Z : Zt) (a sp b dp m c : Nat) (h : c ≠ b) : cpyZ Z a sp b dp m c = Z c := funext fun i => by unfold cpyZ; rw [if_neg h]
theorem cpy_at (Z : Zt) (a b m i : Nat) : cpyZ Z a 0 b 0 m b i = if i < m then Z a i else Z b i := by
  unfold cpyZ
  rw [if_pos rfl]
  by_cases c : i < m
  · rw [if_pos ⟨Nat.zero_le i, by omega⟩, if_pos c]; congr 1; omega
  · rw [if_neg (by omega), if_neg c]
/-- the object at t tells in Z' what the one at u tells in Z -/
def Cpd (Z : Zt) (u : Nat) (Z' : Zt) (t : Nat) : Prop := (∀ i : Nat, i < 600 → Z' (t + 1) i = Z (u + 1) i) ∧ (Z' t 1 = Z u 1 ∧ Z' t 2 = Z u 2 ∧ Z' t 3 = Z u 3) ∧ (∀ i : Nat, i < 3 → Z' (t + 2) i = Z (u + 2) i) ∧ (∀ r i : Nat, r < 8 → i < 26 → Z' (t + 4 + r) i = Z (u + 4 + r) i)
theorem sp_X10_copy {k n : Nat} {x : Wx} {Z : Zt} {Q : Option Value → Wx → Zt → Prop} {t u : Nat} (o : Is10 x t) (ou : Is10 x u) (hd : u + 12 ≤ t ∨ t + 12 ≤ u) (hb : ∀ i : Nat, i < 600 → fits .byte (i_ (Z (u + 1) i)) = true) (h : ∀ Z' : Zt, (Cpd Z u Z' t ∧ Oth Z Z' (fun b => t ≤ b ∧ b < t + 12)) → Q none x Z') : V mX10_copy k n 0 [some (r_ t), some (r_ u), none] [] x Z Q := by
  refine b_X10_copy_0 ou o ⟨fun i hi => by rw [Nat.zero_add]; exact hb i hi, fun Z1 e1 Z2 e2 Z3 e3 Z4 e4 Z5 e5 => ?_⟩
  have q1 : ∀ b, b ≠ t + 1 → Z1 b = Z b := fun b hb => by rw [e1]; exact cpy_row _ _ _ _ _ _ _ hb
  have q2 : ∀ b, b ≠ t → Z4 b = Z1 b := fun b hb => by rw [e4, up_row _ _ _ _ _ hb, e3, up_row _ _ _ _ _ hb, e2, up_row _ _ _ _ _ hb]
  have q3 : ∀ b, b ≠ t + 2 → Z5 b = Z4 b := fun b hb => by rw [e5]; exact cpy_row _ _ _ _ _ _ _ hb
  have f1 : Z4 t 1 = Z u 1 ∧ Z4 t 2 = Z u 2 ∧ Z4 t 3 = Z u 3 := by
    have g2 : Z2 u = Z u := by rw [e2, up_row _ _ _ _ _ (by omega), q1 u (by omega)]
    have g3 : Z3 u = Z u := by rw [e3, up_row _ _ _ _ _ (by omega), g2]
    refine ⟨?_, ?_, ?_⟩
    · rw [e4, up_at, if_neg (by decide), e3, up_at, if_neg (by decide), e2, up_self, q1 u (by omega)]
    · rw [e4, up_at, if_neg (by decide), e3, up_self, g2]
    · rw [e4, up_self, g3]
  have r1 : ∀ i : Nat, i < 600 → Z5 (t + 1) i = Z (u + 1) i := fun i hi => by
    rw [q3 _ (by omega), q2 _ (by omega), e1, cpy_at, if_pos hi]
  have r3 : ∀ i : Nat, i < 3 → Z5 (t + 2) i = Z (u + 2) i := fun i hi => by
    rw [e5, cpy_at, if_pos hi, q2 _ (by omega), q1 _ (by omega)]
  have r0 : Oth Z Z5 (fun b => t ≤ b ∧ b < t + 4) := fun b hb => by rw [q3 b (by omega), q2 b (by omega), q1 b (by omega)]
  have lp : ∀ (m : Nat) (v : Int) (Z1 : Zt), 0 ≤ v → v + m = 8 → (∀ r i : Nat, (r : Int) < v → i < 26 → Z1 (t + 4 + r) i = Z (u + 4 + r) i) → Oth Z5 Z1 (fun b => t + 4 ≤ b ∧ b < t + 12) → V mX10_copy k n 58 [some (r_ t), some (r_ u), some (i_ v)] [] x Z1 Q := by
    intro m
    induction m with
    | zero =>
      intro v Z1 hv hm hz ho
      refine b_X10_copy_58 o ou ⟨⟨by omega, by omega⟩, fun _ => h Z1 ⟨⟨fun i hi => ?_, ?_, fun i hi => ?_, fun r i hr hi => hz r i (by omega) hi⟩, fun b hb => ?_⟩, fun c => by omega⟩
      · rw [ho _ (by omega)]; exact r1 i hi
      · rw [ho _ (by omega), q3 t (by omega)]; exact f1
      · rw [ho _ (by omega)]; exact r3 i hi
      · rw [ho b (by omega), r0 b (by omega)]
    | succ m ih =>
      intro v Z1 hv hm hz ho
      refine b_X10_copy_58 o ou ⟨⟨by omega, by omega⟩, fun c => by omega, fun c => ⟨hv, fun Z2 e => ih (v + 1) Z2 (by omega) (by omega) (fun r i hr hi => ?_) (fun b hb => ?_)⟩⟩
      · rw [e]
        by_cases c1 : r = v.toNat
        · subst c1
          rw [cpy_at, if_pos hi, ho _ (by omega), r0 _ (by omega)]
        · rw [cpy_row _ _ _ _ _ _ _ (by omega)]; exact hz r i (by omega) hi
      · rw [e, cpy_row _ _ _ _ _ _ _ (by omega), ho b hb]
  exact lp 8 0 Z5 (by omega) (by omega) (fun r i hr hi => by omega) Oth.rf
/-- the degree of a sum's row -/
def sdeg (r : Nat → Int) : Nat → Int
  | 0 => r 1
  | m + 1 => sdeg r m + eO r m
theorem sdeg_rg {r : Nat → Int} (h : SumR r) : ∀ m : Nat, m ≤ 8 → -9 - 5 * (m : Int) ≤ sdeg r m ∧ sdeg r m ≤ 9 + 5 * (m : Int)
  | 0, _ => by have := h.2.1; unfold sdeg; omega
  | m + 1, hm => by
    have h1 := sdeg_rg h m (by omega)
    have h2 := (h.2.2 m (by omega)).2.2
    unfold sdeg
    omega
theorem sp_X10_degreeOf {k n : Nat} {x : Wx} {Z : Zt} {Q : Option Value → Wx → Zt → Prop} {r : Nat} (sr : x.1 r = some (100, 26)) (hr : SumR (Z r)) (h : Q (some (i_ (sdeg (Z r) (Z r 0).toNat))) x Z) : V mX10_degreeOf k n 0 [some (r_ r), none, none] [] x Z Q := by
  have h0 := hr.1
  have lp : ∀ (m : Nat) (v : Int), 0 ≤ v → v + m = Z r 0 → V mX10_degreeOf k n 12 [some (r_ r), some (i_ (sdeg (Z r) v.toNat)), some (i_ v)] [] x Z Q := by
    intro m
    induction m with
    | zero =>
      intro v hv hm
      refine b_X10_degreeOf_12 sr ⟨⟨by omega, by omega⟩, ⟨by omega, by omega⟩, fun _ => b_X10_degreeOf_43 ?_, fun c => by omega⟩
      rw [show v.toNat = (Z r 0).toNat by omega]; exact h
    | succ m ih =>
      intro v hv hm
      refine b_X10_degreeOf_12 sr ⟨⟨by omega, by omega⟩, ⟨by omega, by omega⟩, fun c => by omega, fun c => ⟨fun c2 => by omega, fun c2 => ⟨by omega, by omega, ?_⟩⟩⟩
      have e : sdeg (Z r) v.toNat + Z r ((2 + (3 * v)) + 2).toNat = sdeg (Z r) (v + 1).toNat := by
        rw [show (v + 1).toNat = v.toNat + 1 by omega]
        show _ = sdeg (Z r) v.toNat + eO (Z r) v.toNat
        unfold eO
        congr 2
        omega
      rw [e]
      exact ih (v + 1) (by omega) (by omega)
  exact b_X10_degreeOf_0 sr (lp (Z r 0).toNat 0 (by omega) (by omega))
