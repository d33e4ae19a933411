/-! ===== Field: the numbers below a prime ===== -/
def Oth (Z Z' : Zt) (A : Nat → Prop) : Prop := ∀ b, ¬ A b → Z' b = Z b
theorem Oth.rf {Z : Zt} {A : Nat → Prop} : Oth Z Z A := fun _ _ => rfl
theorem Oth.tr {Z Z1 Z2 : Zt} {A : Nat → Prop} (h : Oth Z Z1 A) (h2 : Oth Z1 Z2 A) : Oth Z Z2 A := fun b hb => (h2 b hb).trans (h b hb)
theorem Oth.wk {Z Z1 : Zt} {A B : Nat → Prop} (h : Oth Z Z1 A) (hw : ∀ b, A b → B b) : Oth Z Z1 B := fun b hb => h b (fun q => hb (hw b q))
theorem Oth.up {Z Z1 : Zt} {A : Nat → Prop} {a j : Nat} {v : Int} (h : Oth Z Z1 A) (ha : A a) : Oth Z (up Z1 a j v) A := fun b hb => by
  rw [← h b hb]
  funext i
  exact up_ne Z1 a j v b i (Or.inl (fun e => hb (e ▸ ha)))
theorem up_row (Z : Zt) (a j : Nat) (v : Int) (b : Nat) (h : b ≠ a) : up Z a j v b = Z b := funext fun i => up_ne Z a j v b i (Or.inl h)
theorem up_at (Z : Zt) (a j : Nat) (v : Int) (i : Nat) : up Z a j v a i = if i = j then v else Z a i := by
  by_cases h : i = j
  · subst h; simp [up]
  · simp [up, h]
theorem tmod_pos {v p : Int} (hp : 0 < p) (h : 0 ≤ Int.tmod v p) : Int.tmod v p = v % p := by
  have h1 := Int.tmod_eq_emod (a := v) (b := p)
  have h2 := Int.emod_nonneg v (show p ≠ 0 by omega)
  have h3 := Int.emod_lt_of_pos v hp
  split at h1 <;> omega
theorem tmod_neg {v p : Int} (hp : 0 < p) (h : Int.tmod v p < 0) : Int.tmod v p + p = v % p := by
  have h1 := Int.tmod_eq_emod (a := v) (b := p)
  have h2 := Int.emod_nonneg v (show p ≠ 0 by omega)
  have h3 := Int.emod_lt_of_pos v hp
  split at h1 <;> omega
theorem tmod_rg {v p : Int} (hp : 0 < p) (h13 : p ≤ 100) : Rg (Int.tmod v p) := by
  have h1 := Int.tmod_eq_emod (a := v) (b := p)
  have h2 := Int.emod_nonneg v (show p ≠ 0 by omega)
  have h3 := Int.emod_lt_of_pos v hp
  split at h1 <;> exact ⟨by omega, by omega⟩
theorem dX4_rem_0 : decode cX4_rem 0 = .ok (.aload_n 0, 1) := by decide +kernel
theorem dX4_rem_1 : decode cX4_rem 1 = .ok (.getfield 9, 3) := by decide +kernel
theorem dX4_rem_4 : decode cX4_rem 4 = .ok (.iconst 2, 1) := by decide +kernel
theorem dX4_rem_5 : decode cX4_rem 5 = .ok (.if_icmp .ge 5, 3) := by decide +kernel
theorem dX4_rem_8 : decode cX4_rem 8 = .ok (.iconst 0, 1) := by decide +kernel
theorem dX4_rem_9 : decode cX4_rem 9 = .ok (.ireturn, 1) := by decide +kernel
theorem dX4_rem_10 : decode cX4_rem 10 = .ok (.iload_n 1, 1) := by decide +kernel
theorem dX4_rem_11 : decode cX4_rem 11 = .ok (.aload_n 0, 1) := by decide +kernel
theorem dX4_rem_12 : decode cX4_rem 12 = .ok (.getfield 9, 3) := by decide +kernel
theorem dX4_rem_15 : decode cX4_rem 15 = .ok (.irem, 1) := by decide +kernel
theorem dX4_rem_16 : decode cX4_rem 16 = .ok (.istore_n 2, 1) := by decide +kernel
theorem dX4_rem_17 : decode cX4_rem 17 = .ok (.iload_n 2, 1) := by decide +kernel
theorem dX4_rem_18 : decode cX4_rem 18 = .ok (.ifCond .ge 12, 3) := by decide +kernel
theorem dX4_rem_21 : decode cX4_rem 21 = .ok (.iload_n 2, 1) := by decide +kernel
theorem dX4_rem_22 : decode cX4_rem 22 = .ok (.aload_n 0, 1) := by decide +kernel
theorem dX4_rem_23 : decode cX4_rem 23 = .ok (.getfield 9, 3) := by decide +kernel
theorem dX4_rem_26 : decode cX4_rem 26 = .ok (.iadd, 1) := by decide +kernel
theorem dX4_rem_27 : decode cX4_rem 27 = .ok (.goto 4, 3) := by decide +kernel
theorem dX4_rem_30 : decode cX4_rem 30 = .ok (.iload_n 2, 1) := by decide +kernel
theorem dX4_rem_31 : decode cX4_rem 31 = .ok (.ireturn, 1) := by decide +kernel
set_option maxRecDepth 20000 in
theorem b_X4_rem_0 {k n : Nat} {x : Wx} {Z : Zt} {Q : Option Value → Wx → Zt → Prop} {a0 : Nat} {v1 : Int} (o_a0 : Is4 x a0)
    (h : Rg (Z a0 0) ∧ (((2 ≤ Z a0 0) → (Rg v1 ∧ 0 < Z a0 0 ∧ (Rg (Int.tmod v1 (Z a0 0)) ∧ (((0 ≤ Int.tmod v1 (Z a0 0)) → (Q (some (i_ (Int.tmod v1 (Z a0 0)))) x Z)) ∧ ((Int.tmod v1 (Z a0 0) < 0) → (Q (some (i_ ((Int.tmod v1 (Z a0 0)) + (Z a0 0)))) x Z)))))) ∧ ((Z a0 0 < 2) → (Q (some (i_ 0)) x Z)))) :
    V mX4_rem k n 0 [some (r_ a0), some (i_ v1), none] [] x Z Q :=
  V_aload_n dX4_rem_0 rfl (G_4_0 o_a0.1 lf_4_9 dX4_rem_1 (V_iconst dX4_rem_4 (V_icmp_ge (tgt := 10) dX4_rem_5 rfl h.1 (rg_c rfl) (fun c1 => V_iload_n dX4_rem_10 rfl (V_aload_n dX4_rem_11 rfl (G_4_0 o_a0.1 lf_4_9 dX4_rem_12 (V_irem dX4_rem_15 (h.2.1 c1).1 h.1 (h.2.1 c1).2.1 (V_istore_n (lv' := [some (r_ a0), some (i_ v1), some (i_ (Int.tmod v1 (Z a0 0)))]) dX4_rem_16 (Nat.le_of_ble_eq_true rfl) rfl (V_iload_n dX4_rem_17 rfl (V_if_ge (tgt := 30) dX4_rem_18 rfl (h.2.1 c1).2.2.1 (fun c2 => V_iload_n dX4_rem_30 rfl (V_iret (ty := .int) dX4_rem_31 rfl rfl ((h.2.1 c1).2.2.2.1 c2))) (fun c2 => V_iload_n dX4_rem_21 rfl (V_aload_n dX4_rem_22 rfl (G_4_0 o_a0.1 lf_4_9 dX4_rem_23 (V_iadd dX4_rem_26 (V_goto (tgt := 31) dX4_rem_27 rfl (V_iret (ty := .int) dX4_rem_31 rfl rfl ((h.2.1 c1).2.2.2.2 c2)))))))))))))) (fun c1 => V_iconst dX4_rem_8 (V_iret (ty := .int) dX4_rem_9 rfl rfl (h.2.2 c1))))))
theorem sp_X4_rem {k n : Nat} {x : Wx} {Z : Zt} {Q : Option Value → Wx → Zt → Prop} {a : Nat} {v : Int} (o : Is4 x a) (h1 : Rg v) (h2 : 2 ≤ Z a 0) (h3 : Z a 0 ≤ 13) (h : Q (some (i_ (v % Z a 0))) x Z) : V mX4_rem k n 0 [some (r_ a), some (i_ v), none] [] x Z Q := by
  refine b_X4_rem_0 o ⟨⟨by omega, by omega⟩, fun _ => ⟨h1, by omega, tmod_rg (by omega) (by omega), fun c => ?_, fun c => ?_⟩, fun c => by omega⟩
  · rw [tmod_pos (by omega) c]; exact h
  · rw [tmod_neg (by omega) c]; exact h
theorem dX4_inverse_0 : decode cX4_inverse 0 = .ok (.iload_n 1, 1) := by decide +kernel
theorem dX4_inverse_1 : decode cX4_inverse 1 = .ok (.ifCond .lt 9, 3) := by decide +kernel
theorem dX4_inverse_4 : decode cX4_inverse 4 = .ok (.iload_n 1, 1) := by decide +kernel
theorem dX4_inverse_5 : decode cX4_inverse 5 = .ok (.bipush 13, 2) := by decide +kernel
theorem dX4_inverse_7 : decode cX4_inverse 7 = .ok (.if_icmp .lt 7, 3) := by decide +kernel
theorem dX4_inverse_10 : decode cX4_inverse 10 = .ok (.iconst 0, 1) := by decide +kernel
theorem dX4_inverse_11 : decode cX4_inverse 11 = .ok (.goto 9, 3) := by decide +kernel
theorem dX4_inverse_14 : decode cX4_inverse 14 = .ok (.aload_n 0, 1) := by decide +kernel
theorem dX4_inverse_15 : decode cX4_inverse 15 = .ok (.getfield 18, 3) := by decide +kernel
theorem dX4_inverse_18 : decode cX4_inverse 18 = .ok (.iload_n 1, 1) := by decide +kernel
theorem dX4_inverse_19 : decode cX4_inverse 19 = .ok (.iaload, 1) := by decide +kernel
theorem dX4_inverse_20 : decode cX4_inverse 20 = .ok (.ireturn, 1) := by decide +kernel
set_option maxRecDepth 20000 in
theorem b_X4_inverse_0 {k n : Nat} {x : Wx} {Z : Zt} {Q : Option Value → Wx → Zt → Prop} {a0 : Nat} {v1 : Int} (o_a0 : Is4 x a0)
    (h : Rg v1 ∧ (((v1 < 0) → (Q (some (i_ 0)) x Z)) ∧ ((0 ≤ v1) → (((v1 < 13) → (Q (some (i_ (Z (a0 + 1) v1.toNat))) x Z)) ∧ ((13 ≤ v1) → (Q (some (i_ 0)) x Z)))))) :
    V mX4_inverse k n 0 [some (r_ a0), some (i_ v1)] [] x Z Q :=
  V_iload_n dX4_inverse_0 rfl (V_if_lt (tgt := 10) dX4_inverse_1 rfl h.1 (fun c1 => V_iconst dX4_inverse_10 (V_goto (tgt := 20) dX4_inverse_11 rfl (V_iret (ty := .int) dX4_inverse_20 rfl rfl (h.2.1 c1)))) (fun c1 => V_iload_n dX4_inverse_4 rfl (V_bipush dX4_inverse_5 rfl (V_icmp_lt (tgt := 14) dX4_inverse_7 rfl h.1 (rg_c rfl) (fun c2 => V_aload_n dX4_inverse_14 rfl (G_4_2 o_a0.1 o_a0.2.1 lf_4_18 dX4_inverse_15 (V_iload_n dX4_inverse_18 rfl (V_iald (t := 100) o_a0.2.2.1 (by decide) rfl c1 c2 (Nat.le_of_ble_eq_true rfl) dX4_inverse_19 (V_iret (ty := .int) dX4_inverse_20 rfl rfl ((h.2.2 c1).1 c2)))))) (fun c2 => V_iconst dX4_inverse_10 (V_goto (tgt := 20) dX4_inverse_11 rfl (V_iret (ty := .int) dX4_inverse_20 rfl rfl ((h.2.2 c1).2 c2))))))))
theorem dX4_isSquare_0 : decode cX4_isSquare 0 = .ok (.iload_n 1, 1) := by decide +kernel
theorem dX4_isSquare_1 : decode cX4_isSquare 1 = .ok (.ifCond .lt 22, 3) := by decide +kernel
theorem dX4_isSquare_4 : decode cX4_isSquare 4 = .ok (.iload_n 1, 1) := by decide +kernel
theorem dX4_isSquare_5 : decode cX4_isSquare 5 = .ok (.bipush 13, 2) := by decide +kernel
theorem dX4_isSquare_7 : decode cX4_isSquare 7 = .ok (.if_icmp .ge 16, 3) := by decide +kernel
theorem dX4_isSquare_10 : decode cX4_isSquare 10 = .ok (.aload_n 0, 1) := by decide +kernel
theorem dX4_isSquare_11 : decode cX4_isSquare 11 = .ok (.getfield 22, 3) := by decide +kernel
theorem dX4_isSquare_14 : decode cX4_isSquare 14 = .ok (.iload_n 1, 1) := by decide +kernel
theorem dX4_isSquare_15 : decode cX4_isSquare 15 = .ok (.baload, 1) := by decide +kernel
theorem dX4_isSquare_16 : decode cX4_isSquare 16 = .ok (.ifCond .eq 7, 3) := by decide +kernel
theorem dX4_isSquare_19 : decode cX4_isSquare 19 = .ok (.iconst 1, 1) := by decide +kernel
theorem dX4_isSquare_20 : decode cX4_isSquare 20 = .ok (.goto 4, 3) := by decide +kernel
theorem dX4_isSquare_23 : decode cX4_isSquare 23 = .ok (.iconst 0, 1) := by decide +kernel
theorem dX4_isSquare_24 : decode cX4_isSquare 24 = .ok (.ireturn, 1) := by decide +kernel
set_option maxRecDepth 20000 in
theorem b_X4_isSquare_0 {k n : Nat} {x : Wx} {Z : Zt} {Q : Option Value → Wx → Zt → Prop} {a0 : Nat} {v1 : Int} (o_a0 : Is4 x a0)
    (h : Rg v1 ∧ (((v1 < 0) → (Q (some (i_ 0)) x Z)) ∧ ((0 ≤ v1) → (((13 ≤ v1) → (Q (some (i_ 0)) x Z)) ∧ ((v1 < 13) → (Rg (Z (a0 + 2) v1.toNat) ∧ (((Z (a0 + 2) v1.toNat = 0) → (Q (some (i_ 0)) x Z)) ∧ ((Z (a0 + 2) v1.toNat ≠ 0) → (Q (some (i_ 1)) x Z))))))))) :
    V mX4_isSquare k n 0 [some (r_ a0), some (i_ v1)] [] x Z Q :=
  V_iload_n dX4_isSquare_0 rfl (V_if_lt (tgt := 23) dX4_isSquare_1 rfl h.1 (fun c1 => V_iconst dX4_isSquare_23 (V_iret (ty := .boolean) dX4_isSquare_24 rfl rfl (h.2.1 c1))) (fun c1 => V_iload_n dX4_isSquare_4 rfl (V_bipush dX4_isSquare_5 rfl (V_icmp_ge (tgt := 23) dX4_isSquare_7 rfl h.1 (rg_c rfl) (fun c2 => V_iconst dX4_isSquare_23 (V_iret (ty := .boolean) dX4_isSquare_24 rfl rfl ((h.2.2 c1).1 c2))) (fun c2 => V_aload_n dX4_isSquare_10 rfl (G_4_3 o_a0.1 o_a0.2.2.2.1 lf_4_22 dX4_isSquare_11 (V_iload_n dX4_isSquare_14 rfl (V_zald (t := 102) o_a0.2.2.2.2 (by decide) rfl c1 c2 (Nat.le_of_ble_eq_true rfl) dX4_isSquare_15 (V_if_eq (tgt := 23) dX4_isSquare_16 rfl ((h.2.2 c1).2 c2).1 (fun c3 => V_iconst dX4_isSquare_23 (V_iret (ty := .boolean) dX4_isSquare_24 rfl rfl (((h.2.2 c1).2 c2).2.1 c3))) (fun c3 => V_iconst dX4_isSquare_19 (V_goto (tgt := 24) dX4_isSquare_20 rfl (V_iret (ty := .boolean) dX4_isSquare_24 rfl rfl (((h.2.2 c1).2 c2).2.2 c3)))))))))))))
def invL (p a : Int) : Nat → Int
  | 0 => 0
  | m + 1 => if (a * m) % p = 1 then (m : Int) else invL p a m
def sqL (p s : Int) : Nat → Int
  | 0 => 0
  | m + 1 => if ((m : Int) * m) % p = s then 1 else sqL p s m
def nsU (p : Int) (a : Nat) : Nat → Int
  | 0 => 0
  | m + 1 => if sqL p a p.toNat = 0 then (a : Int) else nsU p (a + 1) m
/-- the inverse below p, and whether a number is a square: 1 or 0; the least that is none -/
def inv (p a : Int) : Int := if a < p then invL p a p.toNat else 0
def sq (p a : Int) : Int := sqL p a p.toNat
def nsq (p : Int) : Int := nsU p 1 (p.toNat - 1)
def IsP (p : Int) : Prop := p = 3 ∨ p = 5 ∨ p = 7 ∨ p = 11 ∨ p = 13
def FA (Z : Zt) (a : Nat) (p : Int) : Prop := Z a 0 = p ∧ Z a 1 = nsq p ∧ (∀ i : Nat, i < 13 → Z (a + 1) i = inv p i) ∧ (∀ i : Nat, i < 13 → Z (a + 2) i = sq p i)
theorem IsP.rg {p : Int} (h : IsP p) : 3 ≤ p ∧ p ≤ 13 := by
  rcases h with h | h | h | h | h <;> omega
theorem sqL_01 (p s : Int) : ∀ m, sqL p s m = 0 ∨ sqL p s m = 1
  | 0 => Or.inl rfl
  | m + 1 => by
    unfold sqL
    split
    · exact Or.inr rfl
    · exact sqL_01 p s m
theorem sp_X4_inverse {k n : Nat} {x : Wx} {Z : Zt} {Q : Option Value → Wx → Zt → Prop} {a : Nat} {v : Int} (o : Is4 x a) (h1 : 0 ≤ v) (h2 : v < 13) (h : Q (some (i_ (Z (a + 1) v.toNat))) x Z) : V mX4_inverse k n 0 [some (r_ a), some (i_ v)] [] x Z Q := by
  exact b_X4_inverse_0 o ⟨⟨by omega, by omega⟩, fun c => by omega, fun c => ⟨fun c2 => h, fun c2 => by omega⟩⟩
theorem sp_X4_isSquare {k n : Nat} {x : Wx} {Z : Zt} {Q : Option Value → Wx → Zt → Prop} {a : Nat} {v : Int} (o : Is4 x a) (h1 : 0 ≤ v) (h2 : v < 13) (h3 : Z (a + 2) v.toNat = 0 ∨ Z (a + 2) v.toNat = 1) (h : Q (some (i_ (Z (a + 2) v.toNat))) x Z) : V mX4_isSquare k n 0 [some (r_ a), some (i_ v)] [] x Z Q := by
  refine b_X4_isSquare_0 o ⟨⟨by omega, by omega⟩, fun c => by omega, fun c => ⟨fun c2 => by omega, fun c2 => ⟨⟨by omega, by omega⟩, fun c3 => ?_, fun c3 => ?_⟩⟩⟩
  · rw [c3] at h; exact h
  · rw [h3.resolve_left c3] at h; exact h
theorem dX4_choose_0 : decode cX4_choose 0 = .ok (.iload_n 1, 1) := by decide +kernel
theorem dX4_choose_1 : decode cX4_choose 1 = .ok (.iconst 3, 1) := by decide +kernel
theorem dX4_choose_2 : decode cX4_choose 2 = .ok (.if_icmp .lt 9, 3) := by decide +kernel
theorem dX4_choose_5 : decode cX4_choose 5 = .ok (.iload_n 1, 1) := by decide +kernel
theorem dX4_choose_6 : decode cX4_choose 6 = .ok (.bipush 13, 2) := by decide +kernel
theorem dX4_choose_8 : decode cX4_choose 8 = .ok (.if_icmp .le 5, 3) := by decide +kernel
theorem dX4_choose_11 : decode cX4_choose 11 = .ok (.iconst 0, 1) := by decide +kernel
theorem dX4_choose_12 : decode cX4_choose 12 = .ok (.ireturn, 1) := by decide +kernel
theorem dX4_choose_13 : decode cX4_choose 13 = .ok (.aload_n 0, 1) := by decide +kernel
theorem dX4_choose_14 : decode cX4_choose 14 = .ok (.iload_n 1, 1) := by decide +kernel
theorem dX4_choose_15 : decode cX4_choose 15 = .ok (.putfield 9, 3) := by decide +kernel
theorem dX4_choose_18 : decode cX4_choose 18 = .ok (.iconst 0, 1) := by decide +kernel
theorem dX4_choose_19 : decode cX4_choose 19 = .ok (.istore_n 2, 1) := by decide +kernel
theorem dX4_choose_20 : decode cX4_choose 20 = .ok (.iload_n 2, 1) := by decide +kernel
theorem dX4_choose_21 : decode cX4_choose 21 = .ok (.bipush 13, 2) := by decide +kernel
theorem dX4_choose_23 : decode cX4_choose 23 = .ok (.if_icmp .ge 23, 3) := by decide +kernel
theorem dX4_choose_26 : decode cX4_choose 26 = .ok (.aload_n 0, 1) := by decide +kernel
theorem dX4_choose_27 : decode cX4_choose 27 = .ok (.getfield 18, 3) := by decide +kernel
theorem dX4_choose_30 : decode cX4_choose 30 = .ok (.iload_n 2, 1) := by decide +kernel
theorem dX4_choose_31 : decode cX4_choose 31 = .ok (.iconst 0, 1) := by decide +kernel
theorem dX4_choose_32 : decode cX4_choose 32 = .ok (.iastore, 1) := by decide +kernel
theorem dX4_choose_33 : decode cX4_choose 33 = .ok (.aload_n 0, 1) := by decide +kernel
theorem dX4_choose_34 : decode cX4_choose 34 = .ok (.getfield 22, 3) := by decide +kernel
theorem dX4_choose_37 : decode cX4_choose 37 = .ok (.iload_n 2, 1) := by decide +kernel
theorem dX4_choose_38 : decode cX4_choose 38 = .ok (.iconst 0, 1) := by decide +kernel
theorem dX4_choose_39 : decode cX4_choose 39 = .ok (.bastore, 1) := by decide +kernel
theorem dX4_choose_40 : decode cX4_choose 40 = .ok (.iinc 2 1, 3) := by decide +kernel
theorem dX4_choose_43 : decode cX4_choose 43 = .ok (.goto (-23), 3) := by decide +kernel
theorem dX4_choose_46 : decode cX4_choose 46 = .ok (.iconst 0, 1) := by decide +kernel
theorem dX4_choose_47 : decode cX4_choose 47 = .ok (.istore_n 2, 1) := by decide +kernel
theorem dX4_choose_48 : decode cX4_choose 48 = .ok (.iload_n 2, 1) := by decide +kernel
theorem dX4_choose_49 : decode cX4_choose 49 = .ok (.aload_n 0, 1) := by decide +kernel
theorem dX4_choose_50 : decode cX4_choose 50 = .ok (.getfield 9, 3) := by decide +kernel
theorem dX4_choose_53 : decode cX4_choose 53 = .ok (.if_icmp .ge 56, 3) := by decide +kernel
theorem dX4_choose_56 : decode cX4_choose 56 = .ok (.aload_n 0, 1) := by decide +kernel
theorem dX4_choose_57 : decode cX4_choose 57 = .ok (.getfield 22, 3) := by decide +kernel
theorem dX4_choose_60 : decode cX4_choose 60 = .ok (.aload_n 0, 1) := by decide +kernel
theorem dX4_choose_61 : decode cX4_choose 61 = .ok (.iload_n 2, 1) := by decide +kernel
theorem dX4_choose_62 : decode cX4_choose 62 = .ok (.iload_n 2, 1) := by decide +kernel
theorem dX4_choose_63 : decode cX4_choose 63 = .ok (.imul, 1) := by decide +kernel
theorem dX4_choose_64 : decode cX4_choose 64 = .ok (.invokevirtual 26, 3) := by decide +kernel
theorem dX4_choose_67 : decode cX4_choose 67 = .ok (.iconst 1, 1) := by decide +kernel
theorem dX4_choose_68 : decode cX4_choose 68 = .ok (.bastore, 1) := by decide +kernel
theorem dX4_choose_69 : decode cX4_choose 69 = .ok (.iconst 0, 1) := by decide +kernel
theorem dX4_choose_70 : decode cX4_choose 70 = .ok (.istore_n 3, 1) := by decide +kernel
theorem dX4_choose_71 : decode cX4_choose 71 = .ok (.iload_n 3, 1) := by decide +kernel
theorem dX4_choose_72 : decode cX4_choose 72 = .ok (.aload_n 0, 1) := by decide +kernel
theorem dX4_choose_73 : decode cX4_choose 73 = .ok (.getfield 9, 3) := by decide +kernel
theorem dX4_choose_76 : decode cX4_choose 76 = .ok (.if_icmp .ge 27, 3) := by decide +kernel
theorem dX4_choose_79 : decode cX4_choose 79 = .ok (.aload_n 0, 1) := by decide +kernel
theorem dX4_choose_80 : decode cX4_choose 80 = .ok (.iload_n 2, 1) := by decide +kernel
theorem dX4_choose_81 : decode cX4_choose 81 = .ok (.iload_n 3, 1) := by decide +kernel
theorem dX4_choose_82 : decode cX4_choose 82 = .ok (.imul, 1) := by decide +kernel
theorem dX4_choose_83 : decode cX4_choose 83 = .ok (.invokevirtual 26, 3) := by decide +kernel
theorem dX4_choose_86 : decode cX4_choose 86 = .ok (.iconst 1, 1) := by decide +kernel
theorem dX4_choose_87 : decode cX4_choose 87 = .ok (.if_icmp .ne 10, 3) := by decide +kernel
theorem dX4_choose_90 : decode cX4_choose 90 = .ok (.aload_n 0, 1) := by decide +kernel
theorem dX4_choose_91 : decode cX4_choose 91 = .ok (.getfield 18, 3) := by decide +kernel
theorem dX4_choose_94 : decode cX4_choose 94 = .ok (.iload_n 2, 1) := by decide +kernel
theorem dX4_choose_95 : decode cX4_choose 95 = .ok (.iload_n 3, 1) := by decide +kernel
theorem dX4_choose_96 : decode cX4_choose 96 = .ok (.iastore, 1) := by decide +kernel
theorem dX4_choose_97 : decode cX4_choose 97 = .ok (.iinc 3 1, 3) := by decide +kernel
theorem dX4_choose_100 : decode cX4_choose 100 = .ok (.goto (-29), 3) := by decide +kernel
theorem dX4_choose_103 : decode cX4_choose 103 = .ok (.iinc 2 1, 3) := by decide +kernel
theorem dX4_choose_106 : decode cX4_choose 106 = .ok (.goto (-58), 3) := by decide +kernel
theorem dX4_choose_109 : decode cX4_choose 109 = .ok (.aload_n 0, 1) := by decide +kernel
theorem dX4_choose_110 : decode cX4_choose 110 = .ok (.iconst 0, 1) := by decide +kernel
theorem dX4_choose_111 : decode cX4_choose 111 = .ok (.putfield 15, 3) := by decide +kernel
theorem dX4_choose_114 : decode cX4_choose 114 = .ok (.aload_n 0, 1) := by decide +kernel
theorem dX4_choose_115 : decode cX4_choose 115 = .ok (.getfield 9, 3) := by decide +kernel
theorem dX4_choose_118 : decode cX4_choose 118 = .ok (.iconst 1, 1) := by decide +kernel
theorem dX4_choose_119 : decode cX4_choose 119 = .ok (.isub, 1) := by decide +kernel
theorem dX4_choose_120 : decode cX4_choose 120 = .ok (.istore_n 2, 1) := by decide +kernel
theorem dX4_choose_121 : decode cX4_choose 121 = .ok (.iload_n 2, 1) := by decide +kernel
theorem dX4_choose_122 : decode cX4_choose 122 = .ok (.ifCond .le 23, 3) := by decide +kernel
theorem dX4_choose_125 : decode cX4_choose 125 = .ok (.aload_n 0, 1) := by decide +kernel
theorem dX4_choose_126 : decode cX4_choose 126 = .ok (.getfield 22, 3) := by decide +kernel
theorem dX4_choose_129 : decode cX4_choose 129 = .ok (.iload_n 2, 1) := by decide +kernel
theorem dX4_choose_130 : decode cX4_choose 130 = .ok (.baload, 1) := by decide +kernel
theorem dX4_choose_131 : decode cX4_choose 131 = .ok (.ifCond .ne 8, 3) := by decide +kernel
theorem dX4_choose_134 : decode cX4_choose 134 = .ok (.aload_n 0, 1) := by decide +kernel
theorem dX4_choose_135 : decode cX4_choose 135 = .ok (.iload_n 2, 1) := by decide +kernel
theorem dX4_choose_136 : decode cX4_choose 136 = .ok (.putfield 15, 3) := by decide +kernel
theorem dX4_choose_139 : decode cX4_choose 139 = .ok (.iinc 2 (-1), 3) := by decide +kernel
theorem dX4_choose_142 : decode cX4_choose 142 = .ok (.goto (-21), 3) := by decide +kernel
theorem dX4_choose_145 : decode cX4_choose 145 = .ok (.iconst 1, 1) := by decide +kernel
theorem dX4_choose_146 : decode cX4_choose 146 = .ok (.ireturn, 1) := by decide +kernel
set_option maxRecDepth 20000 in
theorem b_X4_choose_0 {k n : Nat} {x : Wx} {Z : Zt} {Q : Option Value → Wx → Zt → Prop} {a0 : Nat} {v1 : Int} (o_a0 : Is4 x a0)
    (h : Rg v1 ∧ (((v1 < 3) → (Q (some (i_ 0)) x Z)) ∧ ((3 ≤ v1) → (((v1 ≤ 13) → (∀ Z1 : Zt, Z1 = up Z a0 0 v1 → (V mX4_choose k n 20 [some (r_ a0), none, some (i_ 0), none] [] x Z1 Q))) ∧ ((13 < v1) → (Q (some (i_ 0)) x Z)))))) :
    V mX4_choose k n 0 [some (r_ a0), some (i_ v1), none, none] [] x Z Q :=
  V_iload_n dX4_choose_0 rfl (V_iconst dX4_choose_1 (V_icmp_lt (tgt := 11) dX4_choose_2 rfl h.1 (rg_c rfl) (fun c1 => V_iconst dX4_choose_11 (V_iret (ty := .boolean) dX4_choose_12 rfl rfl (h.2.1 c1))) (fun c1 => V_iload_n dX4_choose_5 rfl (V_bipush dX4_choose_6 rfl (V_icmp_le (tgt := 13) dX4_choose_8 rfl h.1 (rg_c rfl) (fun c2 => V_aload_n dX4_choose_13 rfl (V_iload_n dX4_choose_14 rfl (P_4_0 o_a0.1 lf_4_9 dX4_choose_15 (V_nmZ (fun Z1 eZ1 => V_iconst dX4_choose_18 (V_istore_n (lv' := [some (r_ a0), some (i_ v1), some (i_ 0), none]) dX4_choose_19 (Nat.le_of_ble_eq_true rfl) rfl (V_msk [true, false, true, false] rfl (((h.2.2 c1).1 c2) Z1 eZ1)))))))) (fun c2 => V_iconst dX4_choose_11 (V_iret (ty := .boolean) dX4_choose_12 rfl rfl ((h.2.2 c1).2 c2))))))))
set_option maxRecDepth 20000 in
theorem b_X4_choose_20 {k n : Nat} {x : Wx} {Z : Zt} {Q : Option Value → Wx → Zt → Prop} {a0 : Nat} {v2 : Int} (o_a0 : Is4 x a0)
    (h : Rg v2 ∧ (((13 ≤ v2) → (V mX4_choose k n 48 [some (r_ a0), none, some (i_ 0), none] [] x Z Q)) ∧ ((v2 < 13) → (0 ≤ v2 ∧ (∀ Z1 : Zt, Z1 = up Z (a0 + 1) v2.toNat 0 → (∀ Z2 : Zt, Z2 = up Z1 (a0 + 2) v2.toNat 0 → (V mX4_choose k n 20 [some (r_ a0), none, some (i_ (v2 + 1)), none] [] x Z2 Q))))))) :
    V mX4_choose k n 20 [some (r_ a0), none, some (i_ v2), none] [] x Z Q :=
  V_iload_n dX4_choose_20 rfl (V_bipush dX4_choose_21 rfl (V_icmp_ge (tgt := 46) dX4_choose_23 rfl h.1 (rg_c rfl) (fun c1 => V_iconst dX4_choose_46 (V_istore_n (lv' := [some (r_ a0), none, some (i_ 0), none]) dX4_choose_47 (Nat.le_of_ble_eq_true rfl) rfl (V_msk [true, false, true, false] rfl (h.2.1 c1)))) (fun c1 => V_aload_n dX4_choose_26 rfl (G_4_2 o_a0.1 o_a0.2.1 lf_4_18 dX4_choose_27 (V_iload_n dX4_choose_30 rfl (V_iconst dX4_choose_31 (V_iast (t := 100) o_a0.2.2.1 (by decide) (by decide) rfl (h.2.2 c1).1 c1 (Nat.le_of_ble_eq_true rfl) dX4_choose_32 (V_nmZ (fun Z1 eZ1 => V_aload_n dX4_choose_33 rfl (G_4_3 o_a0.1 o_a0.2.2.2.1 lf_4_22 dX4_choose_34 (V_iload_n dX4_choose_37 rfl (V_iconst dX4_choose_38 (V_zast (t := 102) o_a0.2.2.2.2 (by decide) (by decide) rfl (h.2.2 c1).1 c1 (Nat.le_of_ble_eq_true rfl) rfl dX4_choose_39 (V_nmZ (fun Z2 eZ2 => V_iinc (lv' := [some (r_ a0), none, some (i_ (v2 + 1)), none]) dX4_choose_40 rfl (Nat.le_of_ble_eq_true rfl) rfl (V_goto (tgt := 20) dX4_choose_43 rfl (V_msk [true, false, true, false] rfl (((h.2.2 c1).2 Z1 eZ1) Z2 eZ2))))))))))))))))))
set_option maxRecDepth 20000 in
theorem b_X4_choose_48 {k n : Nat} {x : Wx} {Z : Zt} {Q : Option Value → Wx → Zt → Prop} {a0 : Nat} {v2 : Int} (o_a0 : Is4 x a0)
    (h : Rg v2 ∧ Rg (Z a0 0) ∧ (((Z a0 0 ≤ v2) → (∀ Z1 : Zt, Z1 = up Z a0 1 0 → (V mX4_choose k n 121 [some (r_ a0), none, some (i_ ((Z1 a0 0) - 1)), none] [] x Z1 Q))) ∧ ((v2 < Z a0 0) → (Rg (v2 * v2) ∧ 2 ≤ Z a0 0 ∧ Z a0 0 ≤ 13 ∧ (0 ≤ (v2 * v2) % Z a0 0 ∧ (v2 * v2) % Z a0 0 < 13 ∧ (∀ Z2 : Zt, Z2 = up Z (a0 + 2) ((v2 * v2) % Z a0 0).toNat 1 → (V mX4_choose k n 71 [some (r_ a0), none, some (i_ v2), some (i_ 0)] [] x Z2 Q))))))) :
    V mX4_choose k n 48 [some (r_ a0), none, some (i_ v2), none] [] x Z Q :=
  V_iload_n dX4_choose_48 rfl (V_aload_n dX4_choose_49 rfl (G_4_0 o_a0.1 lf_4_9 dX4_choose_50 (V_icmp_ge (tgt := 109) dX4_choose_53 rfl h.1 h.2.1 (fun c1 => V_aload_n dX4_choose_109 rfl (V_iconst dX4_choose_110 (P_4_1 o_a0.1 lf_4_15 dX4_choose_111 (V_nmZ (fun Z1 eZ1 => V_aload_n dX4_choose_114 rfl (G_4_0 o_a0.1 lf_4_9 dX4_choose_115 (V_iconst dX4_choose_118 (V_isub dX4_choose_119 (V_istore_n (lv' := [some (r_ a0), none, some (i_ ((Z1 a0 0) - 1)), none]) dX4_choose_120 (Nat.le_of_ble_eq_true rfl) rfl (V_msk [true, false, true, false] rfl ((h.2.2.1 c1) Z1 eZ1))))))))))) (fun c1 => V_aload_n dX4_choose_56 rfl (G_4_3 o_a0.1 o_a0.2.2.2.1 lf_4_22 dX4_choose_57 (V_aload_n dX4_choose_60 rfl (V_iload_n dX4_choose_61 rfl (V_iload_n dX4_choose_62 rfl (V_imul dX4_choose_63 (V_callV (k' := 0) (n' := 0) (t := 4) (q := (RX4, TX4, 4)) [i_ (v2 * v2)] [r_ (a0 + 2)] okX4_rem o_a0.1 rfl rfl lm_4_26 liX4_rem lqX4_rem (Nat.le_of_ble_eq_true rfl) (Nat.le_of_ble_eq_true rfl) (Nat.le_of_ble_eq_true rfl) (cat_of rfl) (Nat.le_of_ble_eq_true rfl) (Nat.zero_le _) (Nat.zero_le _) rfl dX4_choose_64 (sp_X4_rem o_a0 (h.2.2.2 c1).1 (h.2.2.2 c1).2.1 (h.2.2.2 c1).2.2.1 (V_iconst dX4_choose_67 (V_zast (t := 102) o_a0.2.2.2.2 (by decide) (by decide) rfl (h.2.2.2 c1).2.2.2.1 (h.2.2.2 c1).2.2.2.2.1 (Nat.le_of_ble_eq_true rfl) rfl dX4_choose_68 (V_nmZ (fun Z2 eZ2 => V_iconst dX4_choose_69 (V_istore_n (lv' := [some (r_ a0), none, some (i_ v2), some (i_ 0)]) dX4_choose_70 (Nat.le_of_ble_eq_true rfl) rfl (V_msk [true, false, true, true] rfl ((h.2.2.2 c1).2.2.2.2.2 Z2 eZ2))))))))))))))))))
set_option maxRecDepth 20000 in
theorem b_X4_choose_71 {k n : Nat} {x : Wx} {Z : Zt} {Q : Option Value → Wx → Zt → Prop} {a0 : Nat} {v2 : Int} {v3 : Int} (o_a0 : Is4 x a0)
    (h : Rg v3 ∧ Rg (Z a0 0) ∧ (((Z a0 0 ≤ v3) → (V mX4_choose k n 48 [some (r_ a0), none, some (i_ (v2 + 1)), none] [] x Z Q)) ∧ ((v3 < Z a0 0) → (Rg (v2 * v3) ∧ 2 ≤ Z a0 0 ∧ Z a0 0 ≤ 13 ∧ (Rg ((v2 * v3) % Z a0 0) ∧ ((((v2 * v3) % Z a0 0 ≠ 1) → (V mX4_choose k n 71 [some (r_ a0), none, some (i_ v2), some (i_ (v3 + 1))] [] x Z Q)) ∧ (((v2 * v3) % Z a0 0 = 1) → (0 ≤ v2 ∧ v2 < 13 ∧ (∀ Z1 : Zt, Z1 = up Z (a0 + 1) v2.toNat v3 → (V mX4_choose k n 71 [some (r_ a0), none, some (i_ v2), some (i_ (v3 + 1))] [] x Z1 Q)))))))))) :
    V mX4_choose k n 71 [some (r_ a0), none, some (i_ v2), some (i_ v3)] [] x Z Q :=
  V_iload_n dX4_choose_71 rfl (V_aload_n dX4_choose_72 rfl (G_4_0 o_a0.1 lf_4_9 dX4_choose_73 (V_icmp_ge (tgt := 103) dX4_choose_76 rfl h.1 h.2.1 (fun c1 => V_iinc (lv' := [some (r_ a0), none, some (i_ (v2 + 1)), some (i_ v3)]) dX4_choose_103 rfl (Nat.le_of_ble_eq_true rfl) rfl (V_goto (tgt := 48) dX4_choose_106 rfl (V_msk [true, false, true, false] rfl (h.2.2.1 c1)))) (fun c1 => V_aload_n dX4_choose_79 rfl (V_iload_n dX4_choose_80 rfl (V_iload_n dX4_choose_81 rfl (V_imul dX4_choose_82 (V_callV (k' := 0) (n' := 0) (t := 4) (q := (RX4, TX4, 4)) [i_ (v2 * v3)] [] okX4_rem o_a0.1 rfl rfl lm_4_26 liX4_rem lqX4_rem (Nat.le_of_ble_eq_true rfl) (Nat.le_of_ble_eq_true rfl) (Nat.le_of_ble_eq_true rfl) (cat_of rfl) (Nat.le_of_ble_eq_true rfl) (Nat.zero_le _) (Nat.zero_le _) rfl dX4_choose_83 (sp_X4_rem o_a0 (h.2.2.2 c1).1 (h.2.2.2 c1).2.1 (h.2.2.2 c1).2.2.1 (V_iconst dX4_choose_86 (V_icmp_ne (tgt := 97) dX4_choose_87 rfl (h.2.2.2 c1).2.2.2.1 (rg_c rfl) (fun c2 => V_iinc (lv' := [some (r_ a0), none, some (i_ v2), some (i_ (v3 + 1))]) dX4_choose_97 rfl (Nat.le_of_ble_eq_true rfl) rfl (V_goto (tgt := 71) dX4_choose_100 rfl (V_msk [true, false, true, true] rfl ((h.2.2.2 c1).2.2.2.2.1 c2)))) (fun c2 => V_aload_n dX4_choose_90 rfl (G_4_2 o_a0.1 o_a0.2.1 lf_4_18 dX4_choose_91 (V_iload_n dX4_choose_94 rfl (V_iload_n dX4_choose_95 rfl (V_iast (t := 100) o_a0.2.2.1 (by decide) (by decide) rfl ((h.2.2.2 c1).2.2.2.2.2 c2).1 ((h.2.2.2 c1).2.2.2.2.2 c2).2.1 (Nat.le_of_ble_eq_true rfl) dX4_choose_96 (V_nmZ (fun Z1 eZ1 => V_iinc (lv' := [some (r_ a0), none, some (i_ v2), some (i_ (v3 + 1))]) dX4_choose_97 rfl (Nat.le_of_ble_eq_true rfl) rfl (V_goto (tgt := 71) dX4_choose_100 rfl (V_msk [true, false, true, true] rfl (((h.2.2.2 c1).2.2.2.2.2 c2).2.2 Z1 eZ1)))))))))))))))))))))
set_option maxRecDepth 20000 in
theorem b_X4_choose_121 {k n : Nat} {x : Wx} {Z : Zt} {Q : Option Value → Wx → Zt → Prop} {a0 : Nat} {v2 : Int} (o_a0 : Is4 x a0)
    (h : Rg v2 ∧ (((v2 ≤ 0) → (Q (some (i_ 1)) x Z)) ∧ ((0 < v2) → (0 ≤ v2 ∧ v2 < 13 ∧ (Rg (Z (a0 + 2) v2.toNat) ∧ (((Z (a0 + 2) v2.toNat ≠ 0) → (V mX4_choose k n 121 [some (r_ a0), none, some (i_ (v2 + (-1))), none] [] x Z Q)) ∧ ((Z (a0 + 2) v2.toNat = 0) → (∀ Z1 : Zt, Z1 = up Z a0 1 v2 → (V mX4_choose k n 121 [some (r_ a0), none, some (i_ (v2 + (-1))), none] [] x Z1 Q))))))))) :
    V mX4_choose k n 121 [some (r_ a0), none, some (i_ v2), none] [] x Z Q :=
  V_iload_n dX4_choose_121 rfl (V_if_le (tgt := 145) dX4_choose_122 rfl h.1 (fun c1 => V_iconst dX4_choose_145 (V_iret (ty := .boolean) dX4_choose_146 rfl rfl (h.2.1 c1))) (fun c1 => V_aload_n dX4_choose_125 rfl (G_4_3 o_a0.1 o_a0.2.2.2.1 lf_4_22 dX4_choose_126 (V_iload_n dX4_choose_129 rfl (V_zald (t := 102) o_a0.2.2.2.2 (by decide) rfl (h.2.2 c1).1 (h.2.2 c1).2.1 (Nat.le_of_ble_eq_true rfl) dX4_choose_130 (V_if_ne (tgt := 139) dX4_choose_131 rfl (h.2.2 c1).2.2.1 (fun c2 => V_iinc (lv' := [some (r_ a0), none, some (i_ (v2 + (-1))), none]) dX4_choose_139 rfl (Nat.le_of_ble_eq_true rfl) rfl (V_goto (tgt := 121) dX4_choose_142 rfl (V_msk [true, false, true, false] rfl ((h.2.2 c1).2.2.2.1 c2)))) (fun c2 => V_aload_n dX4_choose_134 rfl (V_iload_n dX4_choose_135 rfl (P_4_1 o_a0.1 lf_4_15 dX4_choose_136 (V_nmZ (fun Z1 eZ1 => V_iinc (lv' := [some (r_ a0), none, some (i_ (v2 + (-1))), none]) dX4_choose_139 rfl (Nat.le_of_ble_eq_true rfl) rfl (V_goto (tgt := 121) dX4_choose_142 rfl (V_msk [true, false, true, false] rfl (((h.2.2 c1).2.2.2.2 c2) Z1 eZ1))))))))))))))
theorem lp_choose_121 {k n : Nat} {x : Wx} {Q : Option Value → Wx → Zt → Prop} {a : Nat} {p : Int} (o : Is4 x a) (hp : 3 ≤ p ∧ p ≤ 13) (Z0 : Zt) (hs : ∀ i : Nat, i < 13 → Z0 (a + 2) i = sq p i) (hq : ∀ Z, Z a 1 = nsq p → (∀ i, i ≠ 1 → Z a i = Z0 a i) → Oth Z0 Z (fun b => b = a) → Q (some (i_ 1)) x Z) :
    ∀ (m : Nat) (v : Int) (Z : Zt), v = (m : Int) → v < p → Z a 1 = nsU p (m + 1) (p.toNat - 1 - m) → (∀ i, i ≠ 1 → Z a i = Z0 a i) → Oth Z0 Z (fun b => b = a) → V mX4_choose k n 121 [some (r_ a), none, some (i_ v), none] [] x Z Q := by
  intro m
  induction m with
  | zero =>
    intro v Z hv hv2 hn hk ho
    refine b_X4_choose_121 o ⟨⟨by omega, by omega⟩, fun c => hq Z hn hk ho, fun c => by omega⟩
  | succ m ih =>
    intro v Z hv hv2 hn hk ho
    have hsz : Z (a + 2) v.toNat = sqL p ((m + 1 : Nat) : Int) p.toNat := by
      rw [ho (a + 2) (by omega), hs _ (by omega), show v.toNat = m + 1 by omega]; rfl
    have h01 := sqL_01 p ((m + 1 : Nat) : Int) p.toNat
    have hst : nsU p (m + 1) (p.toNat - 1 - m) = if sqL p ((m + 1 : Nat) : Int) p.toNat = 0 then ((m + 1 : Nat) : Int) else nsU p (m + 1 + 1) (p.toNat - 1 - (m + 1)) := by
      rw [show p.toNat - 1 - m = (p.toNat - 1 - (m + 1)) + 1 by omega]; rfl
    refine b_X4_choose_121 o ⟨⟨by omega, by omega⟩, fun c => by omega, fun c => ⟨by omega, by omega, ⟨by omega, by omega⟩, fun c2 => ?_, fun c2 Z1 e1 => ?_⟩⟩
    · refine ih (v + (-1)) Z (by omega) (by omega) ?_ hk ho
      rw [hst, if_neg (by rw [← hsz]; exact c2)]; exact hn
    · refine ih (v + (-1)) Z1 (by omega) (by omega) ?_ ?_ ?_
      · rw [e1, up_self, hst, if_pos (by rw [← hsz]; exact c2)]; omega
      · intro i hi; rw [e1, up_ne _ _ _ _ _ _ (Or.inr hi)]; exact hk i hi
      · rw [e1]; exact ho.up rfl
theorem lp_choose_71 {k n : Nat} {x : Wx} {Q : Option Value → Wx → Zt → Prop} {a : Nat} {p v2 : Int} (o : Is4 x a) (hp : 3 ≤ p ∧ p ≤ 13) (h2 : 0 ≤ v2 ∧ v2 < p) (Z0 : Zt) (h0 : Z0 a 0 = p) (hq : ∀ Z, Z (a + 1) v2.toNat = invL p v2 p.toNat → (∀ i, i ≠ v2.toNat → Z (a + 1) i = Z0 (a + 1) i) → Oth Z0 Z (fun b => b = a + 1) → V mX4_choose k n 48 [some (r_ a), none, some (i_ (v2 + 1)), none] [] x Z Q) :
    ∀ (m : Nat) (v : Int) (Z : Zt), 0 ≤ v → v + m = p → Z (a + 1) v2.toNat = invL p v2 v.toNat → (∀ i, i ≠ v2.toNat → Z (a + 1) i = Z0 (a + 1) i) → Oth Z0 Z (fun b => b = a + 1) → V mX4_choose k n 71 [some (r_ a), none, some (i_ v2), some (i_ v)] [] x Z Q := by
  intro m
  induction m with
  | zero =>
    intro v Z hv hm hn hk ho
    have hz : Z a 0 = p := by rw [ho a (by omega)]; exact h0
    refine b_X4_choose_71 o ⟨⟨by omega, by omega⟩, ⟨by omega, by omega⟩, fun c => hq Z (by rw [hn, show v = p by omega]) hk ho, fun c => by omega⟩
  | succ m ih =>
    intro v Z hv hm hn hk ho
    have hz : Z a 0 = p := by rw [ho a (by omega)]; exact h0
    have hst : invL p v2 (v + 1).toNat = if (v2 * v) % p = 1 then v else invL p v2 v.toNat := by
      rw [show (v + 1).toNat = v.toNat + 1 by omega]
      show (if (v2 * ((v.toNat : Nat) : Int)) % p = 1 then ((v.toNat : Nat) : Int) else _) = _
      rw [show ((v.toNat : Nat) : Int) = v by omega]
    have hb : v2 * v ≤ 13 * 13 := Int.mul_le_mul (by omega) (by omega) (by omega) (by omega)
    have hb0 : 0 ≤ v2 * v := Int.mul_nonneg (by omega) (by omega)
    have hm0 := Int.emod_nonneg (v2 * v) (show p ≠ 0 by omega)
    have hm1 := Int.emod_lt_of_pos (v2 * v) (show 0 < p by omega)
    refine b_X4_choose_71 o ⟨⟨by omega, by omega⟩, ⟨by omega, by omega⟩, fun c => by omega, fun c => ⟨⟨by omega, by omega⟩, by omega, by omega, ?_⟩⟩
    rw [hz]
    refine ⟨⟨by omega, by omega⟩, fun c2 => ?_, fun c2 => ⟨by omega, by omega, fun Z1 e1 => ?_⟩⟩
    · refine ih (v + 1) Z (by omega) (by omega) ?_ hk ho
      rw [hst, if_neg c2]; exact hn
    · refine ih (v + 1) Z1 (by omega) (by omega) ?_ ?_ ?_
      · rw [e1, up_self, hst, if_pos c2]
      · intro i hi; rw [e1, up_ne _ _ _ _ _ _ (Or.inr hi)]; exact hk i hi
      · rw [e1]; exact ho.up rfl
theorem invL_i {p : Int} (j : Nat) (hj : (j : Int) < p) : inv p j = invL p j p.toNat := by unfold inv; rw [if_pos hj]
theorem lp_choose_48 {k n : Nat} {x : Wx} {Q : Option Value → Wx → Zt → Prop} {a : Nat} {p : Int} (o : Is4 x a) (hp : 3 ≤ p ∧ p ≤ 13) (Z0 : Zt) (hq : ∀ Z, FA Z a p → Oth Z0 Z (fun b => b = a ∨ b = a + 1 ∨ b = a + 2) → Q (some (i_ 1)) x Z) :
    ∀ (m : Nat) (v : Int) (Z : Zt), 0 ≤ v → v + m = p → Z a 0 = p → (∀ i : Nat, i < 13 → Z (a + 1) i = if (i : Int) < v then inv p i else 0) → (∀ i : Nat, i < 13 → Z (a + 2) i = sqL p i v.toNat) → Oth Z0 Z (fun b => b = a ∨ b = a + 1 ∨ b = a + 2) → V mX4_choose k n 48 [some (r_ a), none, some (i_ v), none] [] x Z Q := by
  intro m
  induction m with
  | zero =>
    intro v Z hv hm h0 hi hs ho
    have hvp : v = p := by omega
    subst hvp
    refine b_X4_choose_48 o ⟨⟨by omega, by omega⟩, ⟨by omega, by omega⟩, fun c Z1 e1 => ?_, fun c => by omega⟩
    have e0 : Z1 a 0 = v := by rw [e1, up_ne _ _ _ _ _ _ (Or.inr (by decide))]; exact h0
    have e2 : ∀ b, b ≠ a → Z1 b = Z b := fun b hb => by rw [e1]; exact up_row _ _ _ _ _ hb
    refine lp_choose_121 o hp Z1 (fun i hi => by rw [e2 _ (by omega)]; exact hs i hi) (fun Z' hn hk ho2 => ?_) (v.toNat - 1) (Z1 a 0 - 1) Z1 (by omega) (by omega) ?_ (fun _ _ => rfl) Oth.rf
    · refine hq Z' ⟨by rw [hk 0 (by decide)]; exact e0, hn, fun i h13 => ?_, fun i h13 => ?_⟩ (fun b hb => ?_)
      · rw [ho2 (a + 1) (by omega), e2 _ (by omega), hi i h13]
        split
        · rfl
        · unfold inv; rw [if_neg (by omega)]
      · rw [ho2 (a + 2) (by omega), e2 _ (by omega), hs i h13]; rfl
      · rw [ho2 b (fun e => hb (Or.inl e)), e2 b (fun e => hb (Or.inl e)), ho b hb]
    · rw [e1, up_self, show v.toNat - 1 - (v.toNat - 1) = 0 by omega]; rfl
  | succ m ih =>
    intro v Z hv hm h0 hi hs ho
    have hb : v * v ≤ 13 * 13 := Int.mul_le_mul (by omega) (by omega) (by omega) (by omega)
    have hb0 : 0 ≤ v * v := Int.mul_nonneg (by omega) (by omega)
    have hm0 := Int.emod_nonneg (v * v) (show p ≠ 0 by omega)
    have hm1 := Int.emod_lt_of_pos (v * v) (show 0 < p by omega)
    refine b_X4_choose_48 o ⟨⟨by omega, by omega⟩, ⟨by omega, by omega⟩, fun c => by omega, fun c => ⟨⟨by omega, by omega⟩, by omega, by omega, ?_⟩⟩
    rw [h0]
    refine ⟨by omega, by omega, fun Z2 e2 => ?_⟩
    have r1 : ∀ b, b ≠ a + 2 → Z2 b = Z b := fun b hb => by rw [e2]; exact up_row _ _ _ _ _ hb
    refine lp_choose_71 o hp ⟨hv, by omega⟩ Z2 (by rw [r1 _ (by omega)]; exact h0) (fun Z' hn hk ho2 => ?_) p.toNat 0 Z2 (by omega) (by omega) ?_ (fun _ _ => rfl) Oth.rf
    · refine ih (v + 1) Z' (by omega) (by omega) (by rw [ho2 a (by omega), r1 _ (by omega)]; exact h0) (fun i h13 => ?_) (fun i h13 => ?_) (fun b hb => ?_)
      · by_cases e : i = v.toNat
        · subst e
          rw [hn, if_pos (by omega), invL_i _ (by omega), show ((v.toNat : Nat) : Int) = v by omega]
        · rw [hk i e, r1 _ (by omega), hi i h13]
          by_cases c1 : (i : Int) < v
          · rw [if_pos c1, if_pos (by omega)]
          · rw [if_neg c1, if_neg (by omega)]
      · rw [ho2 (a + 2) (by omega), e2, up_at, hs i h13, show (v + 1).toNat = v.toNat + 1 by omega]
        show _ = if (((v.toNat : Nat) : Int) * ((v.toNat : Nat) : Int)) % p = (i : Int) then 1 else sqL p i v.toNat
        rw [show ((v.toNat : Nat) : Int) = v by omega]
        by_cases c1 : i = (v * v % p).toNat
        · rw [if_pos c1, if_pos (by omega)]
        · rw [if_neg c1, if_neg (by omega)]
      · rw [ho2 b (fun e => hb (Or.inr (Or.inl e))), r1 b (fun e => hb (Or.inr (Or.inr e))), ho b hb]
    · rw [r1 _ (by omega), hi _ (by omega), if_neg (by omega)]; rfl
theorem lp_choose_20 {k n : Nat} {x : Wx} {Q : Option Value → Wx → Zt → Prop} {a : Nat} (o : Is4 x a) (Z0 : Zt) (hq : ∀ Z, (∀ i : Nat, i < 13 → Z (a + 1) i = 0 ∧ Z (a + 2) i = 0) → Oth Z0 Z (fun b => b = a + 1 ∨ b = a + 2) → V mX4_choose k n 48 [some (r_ a), none, some (i_ 0), none] [] x Z Q) :
    ∀ (m : Nat) (v : Int) (Z : Zt), 0 ≤ v → v + m = 13 → (∀ i : Nat, (i : Int) < v → Z (a + 1) i = 0 ∧ Z (a + 2) i = 0) → Oth Z0 Z (fun b => b = a + 1 ∨ b = a + 2) → V mX4_choose k n 20 [some (r_ a), none, some (i_ v), none] [] x Z Q := by
  intro m
  induction m with
  | zero =>
    intro v Z hv hm hi ho
    exact b_X4_choose_20 o ⟨⟨by omega, by omega⟩, fun c => hq Z (fun i h => hi i (by omega)) ho, fun c => by omega⟩
  | succ m ih =>
    intro v Z hv hm hi ho
    refine b_X4_choose_20 o ⟨⟨by omega, by omega⟩, fun c => by omega, fun c => ⟨hv, fun Z1 e1 Z2 e2 => ih (v + 1) Z2 (by omega) (by omega) (fun i h => ?_) ?_⟩⟩
    · rw [e2, e1, up_row _ (a + 2) _ _ (a + 1) (by omega), up_at, up_at, up_row _ (a + 1) _ _ (a + 2) (by omega)]
      by_cases c1 : i = v.toNat
      · rw [if_pos c1, if_pos c1]; exact ⟨rfl, rfl⟩
      · rw [if_neg c1, if_neg c1]; exact hi i (by omega)
    · rw [e2, e1]
      exact (ho.up (Or.inl rfl)).up (Or.inr rfl)
theorem sp_X4_choose {k n : Nat} {x : Wx} {Z : Zt} {Q : Option Value → Wx → Zt → Prop} {a : Nat} {p : Int} (o : Is4 x a) (hp : 3 ≤ p ∧ p ≤ 13) (hq : ∀ Z' : Zt, (FA Z' a p ∧ Oth Z Z' (fun b => b = a ∨ b = a + 1 ∨ b = a + 2)) → Q (some (i_ 1)) x Z') : V mX4_choose k n 0 [some (r_ a), some (i_ p), none, none] [] x Z Q := by
  refine b_X4_choose_0 o ⟨⟨by omega, by omega⟩, fun c => by omega, fun c => ⟨fun c2 Z1 e1 => ?_, fun c2 => by omega⟩⟩
  refine lp_choose_20 o Z1 (fun Z2 hz ho => ?_) 13 0 Z1 (by omega) (by omega) (fun i h => by omega) Oth.rf
  refine lp_choose_48 o hp Z (fun Z3 hf ho3 => hq Z3 ⟨hf, ho3⟩) p.toNat 0 Z2 (by omega) (by omega) ?_ (fun i h => ?_) (fun i h => ?_) (fun b hb => ?_)
  · rw [ho a (by omega), e1, up_self]
  · rw [(hz i h).1, if_neg (by omega)]
  · rw [(hz i h).2]; rfl
  · rw [ho b (fun e => hb (Or.inr e)), e1, up_row _ _ _ _ _ (fun e => hb (Or.inl e))]
