/-! ===== Field: the numbers below a prime ===== -/
def Oth (Z Z' : Zt) (A : Nat → Prop) : Prop := ∀ b, ¬ A b → Z' b = Z b
theorem Oth.rf {Z : Zt} {A : Nat → Prop} : Oth Z Z A := fun _ _ => rfl
theorem Oth.tr {Z Z1 Z2 : Zt} {A : Nat → Prop} (h : Oth Z Z1 A) (h2 : Oth Z1 Z2 A) : Oth Z Z2 A := fun b hb => (h2 b hb).trans (h b hb)
theorem Oth.wk {Z Z1 : Zt} {A B : Nat → Prop} (h : Oth Z Z1 A) (hw : ∀ b, A b → B b) : Oth Z Z1 B := fun b hb => h b (fun q => hb (hw b q))
theorem Oth.up {Z Z1 : Zt} {A : Nat → Prop} {a j : Nat} {v : Int} (h : Oth Z Z1 A) (ha : A a) : Oth Z (up Z1 a j v) A := fun b hb => by
  rw [← h b hb]
  funext i
  exact up_ne Z1 a j v b i (Or.inl (fun e => hb (e ▸ ha)))
theorem up_row (Z : Zt) (a j : Nat) (v : Int) (b : Nat) (h : b ≠ a) : up Z a j v b = Z b := funext fun i => up_ne Z a j v b i (Or.inl h)
theorem up_at (Z : Zt) (a j : Nat) (v : Int) (i : Nat) : up Z a j v a i = if i = j then v else Z a i := by
  by_cases h : i = j
  · subst h; simp [up]
  · simp [up, h]
theorem tmod_pos {v p : Int} (hp : 0 < p) (h : 0 ≤ Int.tmod v p) : Int.tmod v p = v % p := by
  have h1 := Int.tmod_eq_emod (a := v) (b := p)
  have h2 := Int.emod_nonneg v (show p ≠ 0 by omega)
  have h3 := Int.emod_lt_of_pos v hp
  split at h1 <;> omega
theorem tmod_neg {v p : Int} (hp : 0 < p) (h : Int.tmod v p < 0) : Int.tmod v p + p = v % p := by
  have h1 := Int.tmod_eq_emod (a := v) (b := p)
  have h2 := Int.emod_nonneg v (show p ≠ 0 by omega)
  have h3 := Int.emod_lt_of_pos v hp
  split at h1 <;> omega
theorem tmod_rg {v p : Int} (hp : 0 < p) (h13 : p ≤ 100) : Rg (Int.tmod v p) := by
  have h1 := Int.tmod_eq_emod (a := v) (b := p)
  have h2 := Int.emod_nonneg v (show p ≠ 0 by omega)
  have h3 := Int.emod_lt_of_pos v hp
  split at h1 <;> exact ⟨by omega, by omega⟩
theorem dX4_rem_0 : decode cX4_rem 0 = .ok (.aload_n 0, 1) := by decide +kernel
theorem dX4_rem_1 : decode cX4_rem 1 = .ok (.getfield 9, 3) := by decide +kernel
theorem dX4_rem_4 : decode cX4_rem 4 = .ok (.iconst 2, 1) := by decide +kernel
theorem dX4_rem_5 : decode cX4_rem 5 = .ok (.if_icmp .ge 5, 3) := by decide +kernel
theorem dX4_rem_8 : decode cX4_rem 8 = .ok (.iconst 0, 1) := by decide +kernel
theorem dX4_rem_9 : decode cX4_rem 9 = .ok (.ireturn, 1) := by decide +kernel
theorem dX4_rem_10 : decode cX4_rem 10 = .ok (.iload_n 1, 1) := by decide +kernel
theorem dX4_rem_11 : decode cX4_rem 11 = .ok (.aload_n 0, 1) := by decide +kernel
theorem dX4_rem_12 : decode cX4_rem 12 = .ok (.getfield 9, 3) := by decide +kernel
theorem dX4_rem_15 : decode cX4_rem 15 = .ok (.irem, 1) := by decide +kernel
theorem dX4_rem_16 : decode cX4_rem 16 = .ok (.istore_n 2, 1) := by decide +kernel
theorem dX4_rem_17 : decode cX4_rem 17 = .ok (.iload_n 2, 1) := by decide +kernel
theorem dX4_rem_18 : decode cX4_rem 18 = .ok (.ifCond .ge 12, 3) := by decide +kernel
theorem dX4_rem_21 : decode cX4_rem 21 = .ok (.iload_n 2, 1) := by decide +kernel
theorem dX4_rem_22 : decode cX4_rem 22 = .ok (.aload_n 0, 1) := by decide +kernel
theorem dX4_rem_23 : decode cX4_rem 23 = .ok (.getfield 9, 3) := by decide +kernel
theorem dX4_rem_26 : decode cX4_rem 26 = .ok (.iadd, 1) := by decide +kernel
theorem dX4_rem_27 : decode cX4_rem 27 = .ok (.goto 4, 3) := by decide +kernel
theorem dX4_rem_30 : decode cX4_rem 30 = .ok (.iload_n 2, 1) := by decide +kernel
theorem dX4_rem_31 : decode cX4_rem 31 = .ok (.ireturn, 1) := by decide +kernel
set_option maxRecDepth 20000 in
theorem b_X4_rem_0 {k n : Nat} {x : Wx} {Z : Zt} {Q : Option Value → Wx → Zt → Prop} {a0 : Nat} {v1 : Int} (s_a0 : x.1 a0 = some (4, 0))
    (h : Rg (Z a0 0) ∧ (((2 ≤ Z a0 0) → (Rg v1 ∧ 0 < Z a0 0 ∧ (Rg (Int.tmod v1 (Z a0 0)) ∧ (((0 ≤ Int.tmod v1 (Z a0 0)) → (Q (some (i_ (Int.tmod v1 (Z a0 0)))) x Z)) ∧ ((Int.tmod v1 (Z a0 0) < 0) → (Q (some (i_ ((Int.tmod v1 (Z a0 0)) + (Z a0 0)))) x Z)))))) ∧ ((Z a0 0 < 2) → (Q (some (i_ 0)) x Z)))) :
    V mX4_rem k n 0 [some (r_ a0), some (i_ v1), none] [] x Z Q :=
  V_aload_n dX4_rem_0 rfl (G_4_0 s_a0 lf_4_9 dX4_rem_1 (V_iconst dX4_rem_4 (V_icmp_ge (tgt := 10) dX4_rem_5 rfl h.1 (rg_c rfl) (fun c1 => V_iload_n dX4_rem_10 rfl (V_aload_n dX4_rem_11 rfl (G_4_0 s_a0 lf_4_9 dX4_rem_12 (V_irem dX4_rem_15 (h.2.1 c1).1 h.1 (h.2.1 c1).2.1 (V_istore_n (lv' := [some (r_ a0), some (i_ v1), some (i_ (Int.tmod v1 (Z a0 0)))]) dX4_rem_16 (Nat.le_of_ble_eq_true rfl) rfl (V_iload_n dX4_rem_17 rfl (V_if_ge (tgt := 30) dX4_rem_18 rfl (h.2.1 c1).2.2.1 (fun c2 => V_iload_n dX4_rem_30 rfl (V_iret (ty := .int) dX4_rem_31 rfl rfl ((h.2.1 c1).2.2.2.1 c2))) (fun c2 => V_iload_n dX4_rem_21 rfl (V_aload_n dX4_rem_22 rfl (G_4_0 s_a0 lf_4_9 dX4_rem_23 (V_iadd dX4_rem_26 (V_goto (tgt := 31) dX4_rem_27 rfl (V_iret (ty := .int) dX4_rem_31 rfl rfl ((h.2.1 c1).2.2.2.2 c2)))))))))))))) (fun c1 => V_iconst dX4_rem_8 (V_iret (ty := .int) dX4_rem_9 rfl rfl (h.2.2 c1))))))
theorem sp_X4_rem {k n : Nat} {x : Wx} {Z : Zt} {Q : Option Value → Wx → Zt → Prop} {a : Nat} {v : Int} (s_a : x.1 a = some (4, 0)) (h1 : Rg v) (h2 : 2 ≤ Z a 0) (h3 : Z a 0 ≤ 13) (h : Q (some (i_ (v % Z a 0))) x Z) : V mX4_rem k n 0 [some (r_ a), some (i_ v), none] [] x Z Q := by
  refine b_X4_rem_0 s_a ⟨⟨by omega, by omega⟩, fun _ => ⟨h1, by omega, tmod_rg (by omega) (by omega), fun c => ?_, fun c => ?_⟩, fun c => by omega⟩
  · rw [tmod_pos (by omega) c]; exact h
  · rw [tmod_neg (by omega) c]; exact h
theorem dX4_inverse_0 : decode cX4_inverse 0 = .ok (.iload_n 1, 1) := by decide +kernel
theorem dX4_inverse_1 : decode cX4_inverse 1 = .ok (.ifCond .lt 9, 3) := by decide +kernel
theorem dX4_inverse_4 : decode cX4_inverse 4 = .ok (.iload_n 1, 1) := by decide +kernel
theorem dX4_inverse_5 : decode cX4_inverse 5 = .ok (.bipush 13, 2) := by decide +kernel
theorem dX4_inverse_7 : decode cX4_inverse 7 = .ok (.if_icmp .lt 7, 3) := by decide +kernel
theorem dX4_inverse_10 : decode cX4_inverse 10 = .ok (.iconst 0, 1) := by decide +kernel
theorem dX4_inverse_11 : decode cX4_inverse 11 = .ok (.goto 9, 3) := by decide +kernel
theorem dX4_inverse_14 : decode cX4_inverse 14 = .ok (.aload_n 0, 1) := by decide +kernel
theorem dX4_inverse_15 : decode cX4_inverse 15 = .ok (.getfield 18, 3) := by decide +kernel
theorem dX4_inverse_18 : decode cX4_inverse 18 = .ok (.iload_n 1, 1) := by decide +kernel
theorem dX4_inverse_19 : decode cX4_inverse 19 = .ok (.iaload, 1) := by decide +kernel
theorem dX4_inverse_20 : decode cX4_inverse 20 = .ok (.ireturn, 1) := by decide +kernel
set_option maxRecDepth 20000 in
theorem b_X4_inverse_0 {k n : Nat} {x : Wx} {Z : Zt} {Q : Option Value → Wx → Zt → Prop} {a0 : Nat} {v1 : Int} {a0_inverses : Nat} (r_a0_inverses : x.2.1 a0 2 = some a0_inverses) (s_a0 : x.1 a0 = some (4, 0)) (s_a0_inverses : x.1 a0_inverses = some (100, 13))
    (h : Rg v1 ∧ (((v1 < 0) → (Q (some (i_ 0)) x Z)) ∧ ((0 ≤ v1) → (((v1 < 13) → (Q (some (i_ (Z a0_inverses v1.toNat))) x Z)) ∧ ((13 ≤ v1) → (Q (some (i_ 0)) x Z)))))) :
    V mX4_inverse k n 0 [some (r_ a0), some (i_ v1)] [] x Z Q :=
  V_iload_n dX4_inverse_0 rfl (V_if_lt (tgt := 10) dX4_inverse_1 rfl h.1 (fun c1 => V_iconst dX4_inverse_10 (V_goto (tgt := 20) dX4_inverse_11 rfl (V_iret (ty := .int) dX4_inverse_20 rfl rfl (h.2.1 c1)))) (fun c1 => V_iload_n dX4_inverse_4 rfl (V_bipush dX4_inverse_5 rfl (V_icmp_lt (tgt := 14) dX4_inverse_7 rfl h.1 (rg_c rfl) (fun c2 => V_aload_n dX4_inverse_14 rfl (G_4_2 s_a0 r_a0_inverses lf_4_18 dX4_inverse_15 (V_iload_n dX4_inverse_18 rfl (V_iald (t := 100) s_a0_inverses (by decide) rfl c1 c2 (Nat.le_of_ble_eq_true rfl) dX4_inverse_19 (V_iret (ty := .int) dX4_inverse_20 rfl rfl ((h.2.2 c1).1 c2)))))) (fun c2 => V_iconst dX4_inverse_10 (V_goto (tgt := 20) dX4_inverse_11 rfl (V_iret (ty := .int) dX4_inverse_20 rfl rfl ((h.2.2 c1).2 c2))))))))
theorem dX4_isSquare_0 : decode cX4_isSquare 0 = .ok (.iload_n 1, 1) := by decide +kernel
theorem dX4_isSquare_1 : decode cX4_isSquare 1 = .ok (.ifCond .lt 22, 3) := by decide +kernel
theorem dX4_isSquare_4 : decode cX4_isSquare 4 = .ok (.iload_n 1, 1) := by decide +kernel
theorem dX4_isSquare_5 : decode cX4_isSquare 5 = .ok (.bipush 13, 2) := by decide +kernel
theorem dX4_isSquare_7 : decode cX4_isSquare 7 = .ok (.if_icmp .ge 16, 3) := by decide +kernel
theorem dX4_isSquare_10 : decode cX4_isSquare 10 = .ok (.aload_n 0, 1) := by decide +kernel
theorem dX4_isSquare_11 : decode cX4_isSquare 11 = .ok (.getfield 22, 3) := by decide +kernel
theorem dX4_isSquare_14 : decode cX4_isSquare 14 = .ok (.iload_n 1, 1) := by decide +kernel
theorem dX4_isSquare_15 : decode cX4_isSquare 15 = .ok (.baload, 1) := by decide +kernel
theorem dX4_isSquare_16 : decode cX4_isSquare 16 = .ok (.ifCond .eq 7, 3) := by decide +kernel
theorem dX4_isSquare_19 : decode cX4_isSquare 19 = .ok (.iconst 1, 1) := by decide +kernel
theorem dX4_isSquare_20 : decode cX4_isSquare 20 = .ok (.goto 4, 3) := by decide +kernel
theorem dX4_isSquare_23 : decode cX4_isSquare 23 = .ok (.iconst 0, 1) := by decide +kernel
theorem dX4_isSquare_24 : decode cX4_isSquare 24 = .ok (.ireturn, 1) := by decide +kernel
set_option maxRecDepth 20000 in
theorem b_X4_isSquare_0 {k n : Nat} {x : Wx} {Z : Zt} {Q : Option Value → Wx → Zt → Prop} {a0 : Nat} {v1 : Int} {a0_squares : Nat} (r_a0_squares : x.2.1 a0 3 = some a0_squares) (s_a0 : x.1 a0 = some (4, 0)) (s_a0_squares : x.1 a0_squares = some (102, 13))
    (h : Rg v1 ∧ (((v1 < 0) → (Q (some (i_ 0)) x Z)) ∧ ((0 ≤ v1) → (((13 ≤ v1) → (Q (some (i_ 0)) x Z)) ∧ ((v1 < 13) → (Rg (Z a0_squares v1.toNat) ∧ (((Z a0_squares v1.toNat = 0) → (Q (some (i_ 0)) x Z)) ∧ ((Z a0_squares v1.toNat ≠ 0) → (Q (some (i_ 1)) x Z))))))))) :
    V mX4_isSquare k n 0 [some (r_ a0), some (i_ v1)] [] x Z Q :=
  V_iload_n dX4_isSquare_0 rfl (V_if_lt (tgt := 23) dX4_isSquare_1 rfl h.1 (fun c1 => V_iconst dX4_isSquare_23 (V_iret (ty := .boolean) dX4_isSquare_24 rfl rfl (h.2.1 c1))) (fun c1 => V_iload_n dX4_isSquare_4 rfl (V_bipush dX4_isSquare_5 rfl (V_icmp_ge (tgt := 23) dX4_isSquare_7 rfl h.1 (rg_c rfl) (fun c2 => V_iconst dX4_isSquare_23 (V_iret (ty := .boolean) dX4_isSquare_24 rfl rfl ((h.2.2 c1).1 c2))) (fun c2 => V_aload_n dX4_isSquare_10 rfl (G_4_3 s_a0 r_a0_squares lf_4_22 dX4_isSquare_11 (V_iload_n dX4_isSquare_14 rfl (V_zald (t := 102) s_a0_squares (by decide) rfl c1 c2 (Nat.le_of_ble_eq_true rfl) dX4_isSquare_15 (V_if_eq (tgt := 23) dX4_isSquare_16 rfl ((h.2.2 c1).2 c2).1 (fun c3 => V_iconst dX4_isSquare_23 (V_iret (ty := .boolean) dX4_isSquare_24 rfl rfl (((h.2.2 c1).2 c2).2.1 c3))) (fun c3 => V_iconst dX4_isSquare_19 (V_goto (tgt := 24) dX4_isSquare_20 rfl (V_iret (ty := .boolean) dX4_isSquare_24 rfl rfl (((h.2.2 c1).2 c2).2.2 c3)))))))))))))
def invL (p a : Int) : Nat → Int
  | 0 => 0
  | m + 1 => if (a * m) % p = 1 then (m : Int) else invL p a m
def sqL (p s : Int) : Nat → Int
  | 0 => 0
  | m + 1 => if ((m : Int) * m) % p = s then 1 else sqL p s m
def nsU (p : Int) (a : Nat) : Nat → Int
  | 0 => 0
  | m + 1 => if sqL p a p.toNat = 0 then (a : Int) else nsU p (a + 1) m
/-- the inverse below p, and whether a number is a square: 1 or 0; the least that is none -/
def inv (p a : Int) : Int := if 0 ≤ a ∧ a < p then invL p a p.toNat else 0
def sq (p a : Int) : Int := sqL p a p.toNat
def nsq (p : Int) : Int := nsU p 1 (p.toNat - 1)
def IsP (p : Int) : Prop := p = 3 ∨ p = 5 ∨ p = 7 ∨ p = 11 ∨ p = 13
def IsF (x : Wx) (a : Nat) : Prop := x.1 a = some (4, 0) ∧ x.2.1 a 2 = some (a + 1) ∧ x.2.1 a 3 = some (a + 2) ∧ x.1 (a + 1) = some (100, 13) ∧ x.1 (a + 2) = some (102, 13)
def FA (Z : Zt) (a : Nat) (p : Int) : Prop := Z a 0 = p ∧ Z a 1 = nsq p ∧ (∀ i : Nat, i < 13 → Z (a + 1) i = inv p i) ∧ (∀ i : Nat, i < 13 → Z (a + 2) i = sq p i)
theorem IsP.rg {p : Int} (h : IsP p) : 3 ≤ p ∧ p ≤ 13 := by
  rcases h with h | h | h | h | h <;> omega
theorem sqL_01 (p s : Int) : ∀ m, sqL p s m = 0 ∨ sqL p s m = 1
  | 0 => Or.inl rfl
  | m + 1 => by
    unfold sqL
    split
    · exact Or.inr rfl
    · exact sqL_01 p s m
theorem sp_X4_inverse {k n : Nat} {x : Wx} {Z : Zt} {Q : Option Value → Wx → Zt → Prop} {a : Nat} {v : Int} (s_a : x.1 a = some (4, 0)) (r_b : x.2.1 a 2 = some (a + 1)) (s_b : x.1 (a + 1) = some (100, 13)) (h1 : Rg v) (h : Q (some (i_ (if 0 ≤ v ∧ v < 13 then Z (a + 1) v.toNat else 0))) x Z) : V mX4_inverse k n 0 [some (r_ a), some (i_ v)] [] x Z Q := by
  refine b_X4_inverse_0 r_b s_a s_b ⟨h1, fun c => ?_, fun c => ⟨fun c2 => ?_, fun c2 => ?_⟩⟩
  · rw [if_neg (by omega)] at h; exact h
  · rw [if_pos (by omega)] at h; exact h
  · rw [if_neg (by omega)] at h; exact h
