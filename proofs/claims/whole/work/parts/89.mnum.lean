/-! ===== the reference: tokens, numbers, faults, beside the functions of the reader ===== -/
theorem dX12_ends_0 : decode cX12_ends 0 = .ok (.aload_n 0, 1) := by decide +kernel
theorem dX12_ends_1 : decode cX12_ends 1 = .ok (.getfield 122, 3) := by decide +kernel
theorem dX12_ends_4 : decode cX12_ends 4 = .ok (.ifCond .eq 4, 3) := by decide +kernel
theorem dX12_ends_7 : decode cX12_ends 7 = .ok (.return_, 1) := by decide +kernel
theorem dX12_ends_8 : decode cX12_ends 8 = .ok (.aload_n 0, 1) := by decide +kernel
theorem dX12_ends_9 : decode cX12_ends 9 = .ok (.iconst 1, 1) := by decide +kernel
theorem dX12_ends_10 : decode cX12_ends 10 = .ok (.putfield 122, 3) := by decide +kernel
theorem dX12_ends_13 : decode cX12_ends 13 = .ok (.aload_n 0, 1) := by decide +kernel
theorem dX12_ends_14 : decode cX12_ends 14 = .ok (.getfield 7, 3) := by decide +kernel
theorem dX12_ends_17 : decode cX12_ends 17 = .ok (.iconst 4, 1) := by decide +kernel
theorem dX12_ends_18 : decode cX12_ends 18 = .ok (.iconst 1, 1) := by decide +kernel
theorem dX12_ends_19 : decode cX12_ends 19 = .ok (.iastore, 1) := by decide +kernel
theorem dX12_ends_20 : decode cX12_ends 20 = .ok (.aload_n 0, 1) := by decide +kernel
theorem dX12_ends_21 : decode cX12_ends 21 = .ok (.getfield 7, 3) := by decide +kernel
theorem dX12_ends_24 : decode cX12_ends 24 = .ok (.iconst 5, 1) := by decide +kernel
theorem dX12_ends_25 : decode cX12_ends 25 = .ok (.aload_n 0, 1) := by decide +kernel
theorem dX12_ends_26 : decode cX12_ends 26 = .ok (.getfield 100, 3) := by decide +kernel
theorem dX12_ends_29 : decode cX12_ends 29 = .ok (.iastore, 1) := by decide +kernel
theorem dX12_ends_30 : decode cX12_ends 30 = .ok (.return_, 1) := by decide +kernel
set_option maxRecDepth 20000 in
theorem b_X12_ends_0 {k n : Nat} {x : Wx} {Z : Zt} {Q : Option Value → Wx → Zt → Prop} {a0 : Nat} (o_a0 : Is12 x a0)
    (h : Rg (Z a0 8) ∧ (((Z a0 8 = 0) → (∀ Z1 : Zt, Z1 = up Z a0 8 1 → (∀ Z2 : Zt, Z2 = up Z1 (a0 + 1) 4 1 → (∀ Z3 : Zt, Z3 = up Z2 (a0 + 1) 5 (Z2 a0 4) → (Q none x Z3))))) ∧ ((Z a0 8 ≠ 0) → (Q none x Z)))) :
    V mX12_ends k n 0 [some (r_ a0)] [] x Z Q :=
  V_aload_n dX12_ends_0 rfl (G_12_8 o_a0.1 lf_12_122 dX12_ends_1 (V_if_eq (tgt := 8) dX12_ends_4 rfl h.1 (fun c1 => V_aload_n dX12_ends_8 rfl (V_iconst dX12_ends_9 (P_12_8 o_a0.1 lf_12_122 (Or.inr rfl) dX12_ends_10 (V_nmZ (fun Z1 eZ1 => V_aload_n dX12_ends_13 rfl (G_12_0 o_a0.1 o_a0.qR0 lf_12_7 dX12_ends_14 (V_iconst dX12_ends_17 (V_iconst dX12_ends_18 (V_iast (t := 100) o_a0.qK0 (by decide) (by decide) rfl (by decide) (by decide) (Nat.le_of_ble_eq_true rfl) dX12_ends_19 (V_nmZ (fun Z2 eZ2 => V_aload_n dX12_ends_20 rfl (G_12_0 o_a0.1 o_a0.qR0 lf_12_7 dX12_ends_21 (V_iconst dX12_ends_24 (V_aload_n dX12_ends_25 rfl (G_12_4 o_a0.1 lf_12_100 dX12_ends_26 (V_iast (t := 100) o_a0.qK0 (by decide) (by decide) rfl (by decide) (by decide) (Nat.le_of_ble_eq_true rfl) dX12_ends_29 (V_nmZ (fun Z3 eZ3 => V_ret dX12_ends_30 rfl ((((h.2.1 c1) Z1 eZ1) Z2 eZ2) Z3 eZ3))))))))))))))))))) (fun c1 => V_ret dX12_ends_7 rfl (h.2.2 c1))))
theorem dX12_also_0 : decode cX12_also 0 = .ok (.aload_n 0, 1) := by decide +kernel
theorem dX12_also_1 : decode cX12_also 1 = .ok (.getfield 122, 3) := by decide +kernel
theorem dX12_also_4 : decode cX12_also 4 = .ok (.ifCond .ne 42, 3) := by decide +kernel
theorem dX12_also_7 : decode cX12_also 7 = .ok (.aload_n 0, 1) := by decide +kernel
theorem dX12_also_8 : decode cX12_also 8 = .ok (.getfield 7, 3) := by decide +kernel
theorem dX12_also_11 : decode cX12_also 11 = .ok (.iconst 4, 1) := by decide +kernel
theorem dX12_also_12 : decode cX12_also 12 = .ok (.iaload, 1) := by decide +kernel
theorem dX12_also_13 : decode cX12_also 13 = .ok (.ifCond .eq 34, 3) := by decide +kernel
theorem dX12_also_16 : decode cX12_also 16 = .ok (.aload_n 0, 1) := by decide +kernel
theorem dX12_also_17 : decode cX12_also 17 = .ok (.getfield 7, 3) := by decide +kernel
theorem dX12_also_20 : decode cX12_also 20 = .ok (.iconst 5, 1) := by decide +kernel
theorem dX12_also_21 : decode cX12_also 21 = .ok (.iaload, 1) := by decide +kernel
theorem dX12_also_22 : decode cX12_also 22 = .ok (.iload_n 2, 1) := by decide +kernel
theorem dX12_also_23 : decode cX12_also 23 = .ok (.if_icmp .lt 23, 3) := by decide +kernel
theorem dX12_also_26 : decode cX12_also 26 = .ok (.aload_n 0, 1) := by decide +kernel
theorem dX12_also_27 : decode cX12_also 27 = .ok (.getfield 7, 3) := by decide +kernel
theorem dX12_also_30 : decode cX12_also 30 = .ok (.iconst 5, 1) := by decide +kernel
theorem dX12_also_31 : decode cX12_also 31 = .ok (.iaload, 1) := by decide +kernel
theorem dX12_also_32 : decode cX12_also 32 = .ok (.iload_n 2, 1) := by decide +kernel
theorem dX12_also_33 : decode cX12_also 33 = .ok (.if_icmp .ne 14, 3) := by decide +kernel
theorem dX12_also_36 : decode cX12_also 36 = .ok (.aload_n 0, 1) := by decide +kernel
theorem dX12_also_37 : decode cX12_also 37 = .ok (.getfield 7, 3) := by decide +kernel
theorem dX12_also_40 : decode cX12_also 40 = .ok (.iconst 4, 1) := by decide +kernel
theorem dX12_also_41 : decode cX12_also 41 = .ok (.iaload, 1) := by decide +kernel
theorem dX12_also_42 : decode cX12_also 42 = .ok (.iload_n 1, 1) := by decide +kernel
theorem dX12_also_43 : decode cX12_also 43 = .ok (.if_icmp .gt 4, 3) := by decide +kernel
theorem dX12_also_46 : decode cX12_also 46 = .ok (.return_, 1) := by decide +kernel
theorem dX12_also_47 : decode cX12_also 47 = .ok (.aload_n 0, 1) := by decide +kernel
theorem dX12_also_48 : decode cX12_also 48 = .ok (.getfield 7, 3) := by decide +kernel
theorem dX12_also_51 : decode cX12_also 51 = .ok (.iconst 4, 1) := by decide +kernel
theorem dX12_also_52 : decode cX12_also 52 = .ok (.iload_n 1, 1) := by decide +kernel
theorem dX12_also_53 : decode cX12_also 53 = .ok (.iastore, 1) := by decide +kernel
theorem dX12_also_54 : decode cX12_also 54 = .ok (.aload_n 0, 1) := by decide +kernel
theorem dX12_also_55 : decode cX12_also 55 = .ok (.getfield 7, 3) := by decide +kernel
theorem dX12_also_58 : decode cX12_also 58 = .ok (.iconst 5, 1) := by decide +kernel
theorem dX12_also_59 : decode cX12_also 59 = .ok (.iload_n 2, 1) := by decide +kernel
theorem dX12_also_60 : decode cX12_also 60 = .ok (.iastore, 1) := by decide +kernel
theorem dX12_also_61 : decode cX12_also 61 = .ok (.return_, 1) := by decide +kernel
set_option maxRecDepth 20000 in
theorem b_X12_also_0 {k n : Nat} {x : Wx} {Z : Zt} {Q : Option Value → Wx → Zt → Prop} {a0 : Nat} {v1 : Int} {v2 : Int} (o_a0 : Is12 x a0)
    (h : Rg (Z a0 8) ∧ (((Z a0 8 ≠ 0) → (Q none x Z)) ∧ ((Z a0 8 = 0) → (Rg (Z (a0 + 1) 4) ∧ (((Z (a0 + 1) 4 = 0) → (V mX12_also k n 47 [some (r_ a0), some (i_ v1), some (i_ v2)] [] x Z Q)) ∧ ((Z (a0 + 1) 4 ≠ 0) → (Rg (Z (a0 + 1) 5) ∧ Rg v2 ∧ (((Z (a0 + 1) 5 < v2) → (Q none x Z)) ∧ ((v2 ≤ Z (a0 + 1) 5) → (((Z (a0 + 1) 5 ≠ v2) → (V mX12_also k n 47 [some (r_ a0), some (i_ v1), some (i_ v2)] [] x Z Q)) ∧ ((Z (a0 + 1) 5 = v2) → (Rg v1 ∧ (((v1 < Z (a0 + 1) 4) → (V mX12_also k n 47 [some (r_ a0), some (i_ v1), some (i_ v2)] [] x Z Q)) ∧ ((Z (a0 + 1) 4 ≤ v1) → (Q none x Z))))))))))))))) :
    V mX12_also k n 0 [some (r_ a0), some (i_ v1), some (i_ v2)] [] x Z Q :=
  V_aload_n dX12_also_0 rfl (G_12_8 o_a0.1 lf_12_122 dX12_also_1 (V_if_ne (tgt := 46) dX12_also_4 rfl h.1 (fun c1 => V_ret dX12_also_46 rfl (h.2.1 c1)) (fun c1 => V_aload_n dX12_also_7 rfl (G_12_0 o_a0.1 o_a0.qR0 lf_12_7 dX12_also_8 (V_iconst dX12_also_11 (V_iald (t := 100) o_a0.qK0 (by decide) rfl (by decide) (by decide) (Nat.le_of_ble_eq_true rfl) dX12_also_12 (V_if_eq (tgt := 47) dX12_also_13 rfl (h.2.2 c1).1 (fun c2 => V_msk [true, true, true] rfl ((h.2.2 c1).2.1 c2)) (fun c2 => V_aload_n dX12_also_16 rfl (G_12_0 o_a0.1 o_a0.qR0 lf_12_7 dX12_also_17 (V_iconst dX12_also_20 (V_iald (t := 100) o_a0.qK0 (by decide) rfl (by decide) (by decide) (Nat.le_of_ble_eq_true rfl) dX12_also_21 (V_iload_n dX12_also_22 rfl (V_icmp_lt (tgt := 46) dX12_also_23 rfl ((h.2.2 c1).2.2 c2).1 ((h.2.2 c1).2.2 c2).2.1 (fun c3 => V_ret dX12_also_46 rfl (((h.2.2 c1).2.2 c2).2.2.1 c3)) (fun c3 => V_aload_n dX12_also_26 rfl (G_12_0 o_a0.1 o_a0.qR0 lf_12_7 dX12_also_27 (V_iconst dX12_also_30 (V_iald (t := 100) o_a0.qK0 (by decide) rfl (by decide) (by decide) (Nat.le_of_ble_eq_true rfl) dX12_also_31 (V_iload_n dX12_also_32 rfl (V_icmp_ne (tgt := 47) dX12_also_33 rfl ((h.2.2 c1).2.2 c2).1 ((h.2.2 c1).2.2 c2).2.1 (fun c4 => V_msk [true, true, true] rfl ((((h.2.2 c1).2.2 c2).2.2.2 c3).1 c4)) (fun c4 => V_aload_n dX12_also_36 rfl (G_12_0 o_a0.1 o_a0.qR0 lf_12_7 dX12_also_37 (V_iconst dX12_also_40 (V_iald (t := 100) o_a0.qK0 (by decide) rfl (by decide) (by decide) (Nat.le_of_ble_eq_true rfl) dX12_also_41 (V_iload_n dX12_also_42 rfl (V_icmp_gt (tgt := 47) dX12_also_43 rfl (h.2.2 c1).1 ((((h.2.2 c1).2.2 c2).2.2.2 c3).2 c4).1 (fun c5 => V_msk [true, true, true] rfl (((((h.2.2 c1).2.2 c2).2.2.2 c3).2 c4).2.1 c5)) (fun c5 => V_ret dX12_also_46 rfl (((((h.2.2 c1).2.2 c2).2.2.2 c3).2 c4).2.2 c5)))))))))))))))))))))))))))
set_option maxRecDepth 20000 in
theorem b_X12_also_47 {k n : Nat} {x : Wx} {Z : Zt} {Q : Option Value → Wx → Zt → Prop} {a0 : Nat} {v1 : Int} {v2 : Int} (o_a0 : Is12 x a0)
    (h : ∀ Z1 : Zt, Z1 = up Z (a0 + 1) 4 v1 → (∀ Z2 : Zt, Z2 = up Z1 (a0 + 1) 5 v2 → (Q none x Z2))) :
    V mX12_also k n 47 [some (r_ a0), some (i_ v1), some (i_ v2)] [] x Z Q :=
  V_aload_n dX12_also_47 rfl (G_12_0 o_a0.1 o_a0.qR0 lf_12_7 dX12_also_48 (V_iconst dX12_also_51 (V_iload_n dX12_also_52 rfl (V_iast (t := 100) o_a0.qK0 (by decide) (by decide) rfl (by decide) (by decide) (Nat.le_of_ble_eq_true rfl) dX12_also_53 (V_nmZ (fun Z1 eZ1 => V_aload_n dX12_also_54 rfl (G_12_0 o_a0.1 o_a0.qR0 lf_12_7 dX12_also_55 (V_iconst dX12_also_58 (V_iload_n dX12_also_59 rfl (V_iast (t := 100) o_a0.qK0 (by decide) (by decide) rfl (by decide) (by decide) (Nat.le_of_ble_eq_true rfl) dX12_also_60 (V_nmZ (fun Z2 eZ2 => V_ret dX12_also_61 rfl ((h Z1 eZ1) Z2 eZ2)))))))))))))
def alsZ (Z : Zt) (b : Nat) (w p : Int) : Zt := if Z b 8 = 0 ∧ Z (b + 1) 4 = 0 then up (up Z (b + 1) 4 w) (b + 1) 5 p else Z
theorem sp_X12_also {k n : Nat} {x : Wx} {Z : Zt} {Q : Option Value → Wx → Zt → Prop} {b : Nat} {w p : Int} (o : Is12 x b) (hp : (Z b 8 = 1) ∨ (Z b 8 = 0 ∧ Rg (Z (b + 1) 4) ∧ Rg p ∧ (Z (b + 1) 4 ≠ 0 → Rg (Z (b + 1) 5) ∧ Z (b + 1) 5 < p))) (h : Q none x (alsZ Z b w p)) : V mX12_also k n 0 [some (r_ b), some (i_ w), some (i_ p)] [] x Z Q := by
  unfold alsZ at h
  refine b_X12_also_0 o ⟨by rcases hp with e | e <;> exact ⟨by omega, by omega⟩, fun c => ?_, fun c => ?_⟩
  · rw [if_neg (by omega)] at h; exact h
  · rcases hp with e | ⟨e, e1, e2, e3⟩
    · omega
    · refine ⟨e1, fun d => b_X12_also_47 o (fun Z1 h1 Z2 h2 => ?_), fun d => ?_⟩
      · rw [if_pos ⟨c, d⟩] at h
        rw [h2, h1]; exact h
      · obtain ⟨e4, e5⟩ := e3 d
        rw [if_neg (by omega)] at h
        exact ⟨e4, e2, fun _ => h, fun c2 => by omega⟩
theorem sp_X12_ends {k n : Nat} {x : Wx} {Z : Zt} {Q : Option Value → Wx → Zt → Prop} {b : Nat} (o : Is12 x b) (hp : Z b 8 = 0 ∨ Z b 8 = 1) (h : Q none x (if Z b 8 = 0 then up (up (up Z b 8 1) (b + 1) 4 1) (b + 1) 5 (Z b 4) else Z)) : V mX12_ends k n 0 [some (r_ b)] [] x Z Q := by
  refine b_X12_ends_0 o ⟨⟨by omega, by omega⟩, fun c Z1 h1 Z2 h2 Z3 h3 => ?_, fun c => ?_⟩
  · rw [if_pos c] at h
    have e4 : up Z b 8 1 b 4 = Z b 4 := by rw [up_at, if_neg (by decide)]
    rw [h3, h2, h1, up_row (b := b) _ _ _ _ (by omega), e4]; exact h
  · rw [if_neg c] at h; exact h
/-- the reader lives -/
def LV (s : Nat → Int) (m : Nat) (f : Nat → Int) (Z : Zt) (b : Nat) : Prop := MB Z b s m ∧ f 4 = (m : Int) ∧ RInv s f ∧ PL f ∧ (f 1 ≠ 1 ∧ Z b 8 = 0) ∧ (Z b 3 = f 5 ∧ Z b 4 = f 7) ∧ (Z (b + 1) 4 = f 1 ∧ Z (b + 1) 5 = f 2) ∧ (f 5 = (tokE s m (f 7).toNat : Int) ∧ f 6 = tokK s m (f 7).toNat) ∧ MTk s m (f 7).toNat (Z b 5) (Z b 6) (Z b 7)
/-- it has stopped -/
def Ded (s : Nat → Int) (m : Nat) (f : Nat → Int) (Z : Zt) (b : Nat) : Prop := MB Z b s m ∧ f 4 = (m : Int) ∧ RInv s f ∧ PL f ∧ (f 1 = 1 ∧ f 6 = 5 ∧ Z b 8 = 1) ∧ (Z (b + 1) 4 = 1 ∧ Z (b + 1) 5 = f 2) ∧ (∃ p : Nat, Z b 3 = (p : Int) ∧ p ≤ m) ∧ Rg (Z b 5)
def ML (s : Nat → Int) (m : Nat) (f : Nat → Int) (Z : Zt) (b : Nat) : Prop := (LV s m f Z b ∧ (f 1 ≠ 0 → f 2 < f 7)) ∨ Ded s m f Z b
/-- what reading leaves alone -/
def RF (b : Nat) (Z Z' : Zt) : Prop := (∀ c, c ≠ b → c ≠ b + 1 → Z' c = Z c) ∧ (∀ i : Nat, (i < 3 ∨ 8 < i) → Z' b i = Z b i) ∧ (∀ i : Nat, i ≠ 4 → i ≠ 5 → Z' (b + 1) i = Z (b + 1) i)
theorem RF.rf {b : Nat} {Z : Zt} : RF b Z Z := ⟨fun _ _ _ => rfl, fun _ _ => rfl, fun _ _ _ => rfl⟩
theorem RF.tr {b : Nat} {Z Z1 Z2 : Zt} (h : RF b Z Z1) (g : RF b Z1 Z2) : RF b Z Z2 := ⟨fun c h1 h2 => (g.1 c h1 h2).trans (h.1 c h1 h2), fun i hi => (g.2.1 i hi).trans (h.2.1 i hi), fun i h1 h2 => (g.2.2 i h1 h2).trans (h.2.2 i h1 h2)⟩
theorem MB.rf {Z Z' : Zt} {b m : Nat} {s : Nat → Int} (h : MB Z b s m) (g : RF b Z Z') : MB Z' b s m := ⟨⟨by rw [g.2.1 2 (by omega)]; exact h.1.1, h.1.2⟩, fun i hi => by rw [g.2.2 _ (by omega) (by omega)]; exact h.2 i hi⟩
theorem ADV.rf {Z Z' : Zt} {b m p : Nat} {s : Nat → Int} (h : ADV Z Z' b s m p) : RF b Z Z' := ⟨fun c hc _ => h.1 c hc, fun i hi => h.2.1 i (by omega), fun i _ _ => by rw [h.1 _ (by omega)]⟩
theorem tokE_gt {s : Nat → Int} {m q : Nat} (h : tokK s m q ≠ 0) : q < tokE s m q := by
  unfold tokK at h
  unfold tokE
  by_cases c : m ≤ q
  · rw [if_pos c] at h; exact absurd rfl h
  · rw [if_neg c]
    split
    · rename_i c1; exact wh_first ltr s (by omega) c1
    · split
      · rename_i c2; exact wh_first dgt s (by omega) c2
      · omega
theorem LV.gt {s : Nat → Int} {m : Nat} {f : Nat → Int} {Z : Zt} {b : Nat} (h : LV s m f Z b) (h6 : f 6 ≠ 0) : f 7 < f 5 := by
  obtain ⟨-, -, hi, -, -, -, -, ⟨e5, e6⟩, -⟩ := h
  have := tokE_gt (s := s) (m := m) (q := (f 7).toNat) (by rw [← e6]; exact h6)
  have := hi.2.1
  omega
theorem nx_f {s f : Nat → Int} (h : f 1 ≠ 1) : nxF s f 5 = (tokE s (f 4).toNat (tokQ s (f 4).toNat (f 5).toNat) : Int) ∧ nxF s f 6 = tokK s (f 4).toNat (tokQ s (f 4).toNat (f 5).toNat) ∧ nxF s f 7 = (tokQ s (f 4).toNat (f 5).toNat : Int) ∧ nxF s f 2 = f 2 := by
  unfold nxF
  rw [if_neg h]
  exact ⟨rfl, rfl, rfl, rfl⟩
theorem nx_7 {s f : Nat → Int} (hi : RInv s f) (h : f 1 ≠ 1) : f 5 ≤ nxF s f 7 := by
  rw [(nx_f h).2.2.1]
  have := (tok_ok s (n := (f 4).toNat) (p := (f 5).toNat) (by have := hi.2.1; have := hi.1; omega)).1
  have := hi.2.1
  omega
theorem LV.nx {s : Nat → Int} {m : Nat} {f : Nat → Int} {Z Z' : Zt} {b : Nat} (h : LV s m f Z b) (hlt : f 1 ≠ 0 → f 2 < f 5) (hA : ADV Z Z' b s m (f 5).toNat) : ML s m (nxF s f) Z' b ∧ RF b Z Z' := by
  obtain ⟨hB, h4, hi, hP, ⟨h1, h8⟩, ⟨h3, h7⟩, ⟨ha, hb⟩, ⟨e5, e6⟩, hk⟩ := h
  have hr := hA.rf
  obtain ⟨g1, g2, ⟨g3, g4⟩, g5⟩ := id hA
  obtain ⟨n5, n6, n7, n2⟩ := nx_f (s := s) h1
  have hm : (f 4).toNat = m := by omega
  rw [hm] at n5 n6 n7
  have n7' : (nxF s f 7).toNat = tokQ s m (f 5).toNat := by rw [n7]; omega
  refine ⟨Or.inl ⟨⟨hB.rf hr, by rw [nx_4]; exact h4, hi.nx, hP.nx, ⟨by rw [nx_f1]; exact h1, by rw [g2 8 (by omega)]; exact h8⟩, ⟨by rw [g3, n5], by rw [g4, n7]⟩, ⟨by rw [g1 _ (by omega), nx_f1]; exact ha, by rw [g1 _ (by omega), n2]; exact hb⟩, ⟨by rw [n7', n5], by rw [n7', n6]⟩, by rw [n7']; exact g5⟩, fun e => ?_⟩, hr⟩
  rw [nx_f1] at e
  have := nx_7 (s := s) hi h1
  have := hlt e
  rw [n2]; omega
theorem Ded.nx {s : Nat → Int} {m p : Nat} {f : Nat → Int} {Z Z' : Zt} {b : Nat} (h : Ded s m f Z b) (hp : p ≤ m) (hA : ADV Z Z' b s m p) : Ded s m f Z' b ∧ RF b Z Z' := by
  obtain ⟨hB, h4, hi, hP, ⟨h1, h6, h8⟩, ⟨ha, hb⟩, -, -⟩ := h
  have hr := hA.rf
  obtain ⟨g1, g2, ⟨g3, g4⟩, g5⟩ := id hA
  refine ⟨⟨hB.rf hr, h4, hi, hP, ⟨h1, h6, by rw [g2 8 (by omega)]; exact h8⟩, ⟨by rw [g1 _ (by omega)]; exact ha, by rw [g1 _ (by omega)]; exact hb⟩, ⟨_, g3, (tok_ok s hp).2.2.1⟩, ?_⟩, hr⟩
  unfold MTk WW at g5
  exact ⟨by omega, by omega⟩
theorem dd_nx {s f : Nat → Int} (h : f 1 = 1) : nxF s f = f := by unfold nxF; rw [if_pos h]
theorem dd_stop {f : Nat → Int} (h : f 1 = 1) (h6 : f 6 = 5) : stopF f = f := by unfold stopF; rw [if_pos h]; exact upf_id h6
theorem dd_num {s f : Nat → Int} {m : Int} (h : f 1 = 1) (h6 : f 6 = 5) : numF s m f = f := by unfold numF; rw [if_neg (by omega)]; exact dd_stop h h6
theorem dd_prm {s f : Nat → Int} (h : f 1 = 1) (h6 : f 6 = 5) : prmF s f = f := by unfold prmF; rw [if_neg (by omega)]; exact dd_stop h h6
theorem dd_cls {s f : Nat → Int} (h : f 1 = 1) (h6 : f 6 = 5) : clsF s f = f := by unfold clsF; rw [if_neg (by omega)]; exact dd_stop h h6
theorem dd_sgn {s f : Nat → Int} {m : Int} (h : f 1 = 1) (h6 : f 6 = 5) : sgnF s m f = f := by unfold sgnF; rw [if_neg (by omega)]; exact dd_num h h6
theorem ML.mb {s : Nat → Int} {m : Nat} {f : Nat → Int} {Z : Zt} {b : Nat} (h : ML s m f Z b) : MB Z b s m ∧ f 4 = (m : Int) ∧ RInv s f ∧ PL f := by
  rcases h with ⟨h, -⟩ | h
  · exact ⟨h.1, h.2.1, h.2.2.1, h.2.2.2.1⟩
  · exact ⟨h.1, h.2.1, h.2.2.1, h.2.2.2.1⟩
theorem ML.w8 {s : Nat → Int} {m : Nat} {f : Nat → Int} {Z : Zt} {b : Nat} (h : ML s m f Z b) : (Z b 8 = 0 ∧ f 1 ≠ 1) ∨ (Z b 8 = 1 ∧ f 1 = 1) := by
  rcases h with ⟨h, -⟩ | h
  · have := h.2.2.2.2.1; omega
  · have := h.2.2.2.2.1; omega
theorem MTk.rg {s : Nat → Int} {m q : Nat} {tok num wrd : Int} (h : MTk s m q tok num wrd) : 0 ≤ tok ∧ tok ≤ 5 := by unfold MTk WW at h; omega
theorem ML.w5 {s : Nat → Int} {m : Nat} {f : Nat → Int} {Z : Zt} {b : Nat} (h : ML s m f Z b) : Rg (Z b 5) := by
  rcases h with ⟨h, -⟩ | h
  · have := h.2.2.2.2.2.2.2.2.rg; exact ⟨by omega, by omega⟩
  · exact h.2.2.2.2.2.2.2
/-- after ends() -/
theorem LD_ends {s : Nat → Int} {m : Nat} {f : Nat → Int} {Z Z' : Zt} {b : Nat} (h : LV s m f Z b ∨ Ded s m f Z b) (e : Z' = if Z b 8 = 0 then up (up (up Z b 8 1) (b + 1) 4 1) (b + 1) 5 (Z b 4) else Z) : Ded s m (stopF f) Z' b ∧ RF b Z Z' := by
  rcases h with h | h
  · have h5 : Rg (Z b 5) := by have := h.2.2.2.2.2.2.2.2.rg; exact ⟨by omega, by omega⟩
    obtain ⟨hB, h4, hi, hP, ⟨h1, h8⟩, ⟨h3, h7⟩, ⟨ha, hb⟩, ⟨e5, e6⟩, hk⟩ := h
    rw [if_pos h8] at e
    have hb1 : ∀ i : Nat, Z' (b + 1) i = if i = 5 then Z b 4 else if i = 4 then 1 else Z (b + 1) i := fun i => by rw [e, up_at, up_at, up_row _ _ _ _ _ (by omega)]
    have hb0 : ∀ i : Nat, Z' b i = if i = 8 then 1 else Z b i := fun i => by rw [e, up_row _ _ _ _ _ (by omega), up_row _ _ _ _ _ (by omega), up_at]
    have hr : RF b Z Z' := ⟨fun c c1 c2 => by rw [e, up_row _ _ _ _ _ c2, up_row _ _ _ _ _ c2, up_row _ _ _ _ _ c1], fun i hi => by rw [hb0, if_neg (by omega)], fun i i1 i2 => by rw [hb1, if_neg i2, if_neg i1]⟩
    have e2 : stopF f 2 = f 7 := by unfold stopF; rw [if_neg h1]; rfl
    have e6' : stopF f 6 = 5 := rfl
    have hir := hi.2.1
    refine ⟨⟨hB.rf hr, by rw [stop_4]; exact h4, hi.stop, hP.stop hi, ⟨stop_f1 f, e6', by rw [hb0, if_pos rfl]⟩, ⟨by rw [hb1, if_neg (by decide), if_pos rfl], by rw [hb1, if_pos rfl, e2, h7]⟩, ⟨(f 5).toNat, by rw [hb0, if_neg (by decide), h3]; omega, by omega⟩, by rw [hb0, if_neg (by decide)]; exact h5⟩, hr⟩
  · have h1 := h.2.2.2.2.1
    rw [if_neg (by omega)] at e
    rw [dd_stop h1.1 h1.2.1, e]
    exact ⟨h, RF.rf⟩
/-- after also(w, at) in a living reader -/
theorem als_row {Z : Zt} {b : Nat} {w p : Int} (h8 : Z b 8 = 0) : (∀ c, c ≠ b + 1 → alsZ Z b w p c = Z c) ∧ (alsZ Z b w p (b + 1) 4 = if Z (b + 1) 4 = 0 then w else Z (b + 1) 4) ∧ (alsZ Z b w p (b + 1) 5 = if Z (b + 1) 4 = 0 then p else Z (b + 1) 5) ∧ (∀ i : Nat, i ≠ 4 → i ≠ 5 → alsZ Z b w p (b + 1) i = Z (b + 1) i) := by
  unfold alsZ
  by_cases c : Z (b + 1) 4 = 0
  · rw [if_pos ⟨h8, c⟩, if_pos c, if_pos c]
    refine ⟨fun d hd => by rw [up_row _ _ _ _ _ hd, up_row _ _ _ _ _ hd], ?_, ?_, fun i i1 i2 => ?_⟩
    · rw [up_at, if_neg (by decide), up_at, if_pos rfl]
    · rw [up_at, if_pos rfl]
    · rw [up_at, if_neg i2, up_at, if_neg i1]
  · rw [if_neg (fun e => c e.2), if_neg c, if_neg c]
    exact ⟨fun _ _ => rfl, rfl, rfl, fun _ _ _ => rfl⟩
theorem note_f (w : Int) (f : Nat → Int) : noteF w f 1 = (if f 1 = 0 then w else f 1) ∧ noteF w f 2 = (if f 1 = 0 then f 7 else f 2) ∧ ∀ i : Nat, i ≠ 1 → i ≠ 2 → noteF w f i = f i := by
  unfold noteF
  by_cases c : f 1 = 0
  · rw [if_pos c, if_pos c, if_pos c]
    exact ⟨rfl, rfl, fun i h1 h2 => by rw [upf_ne _ _ h2, upf_ne _ _ h1]⟩
  · rw [if_neg c, if_neg c, if_neg c]
    exact ⟨rfl, rfl, fun _ _ _ => rfl⟩
theorem LV.note {s : Nat → Int} {m : Nat} {f : Nat → Int} {Z : Zt} {b : Nat} {w : Int} (h : LV s m f Z b) (hw : w = 2 ∨ w = 3) : LV s m (noteF w f) (alsZ Z b w (f 7)) b ∧ RF b Z (alsZ Z b w (f 7)) := by
  obtain ⟨hB, h4, hi, hP, ⟨h1, h8⟩, ⟨h3, h7⟩, ⟨ha, hb⟩, ⟨e5, e6⟩, hk⟩ := h
  obtain ⟨r1, r2, r3, r4⟩ := als_row (w := w) (p := f 7) h8
  obtain ⟨n1, n2, n3⟩ := note_f w f
  have hr : RF b Z (alsZ Z b w (f 7)) := ⟨fun c _ c2 => r1 c c2, fun i _ => by rw [r1 b (by omega)], r4⟩
  rw [ha] at r2 r3
  rw [hb] at r3
  refine ⟨⟨hB.rf hr, by rw [n3 4 (by decide) (by decide)]; exact h4, hi.note (by omega), hP.note hi, ⟨?_, by rw [r1 b (by omega)]; exact h8⟩, ⟨?_, ?_⟩, ⟨by rw [r2, n1], by rw [r3, n2]⟩, ⟨?_, ?_⟩, ?_⟩, hr⟩
  · rw [n1]; split <;> omega
  · rw [r1 b (by omega), n3 5 (by decide) (by decide)]; exact h3
  · rw [r1 b (by omega), n3 7 (by decide) (by decide)]; exact h7
  · rw [n3 5 (by decide) (by decide), n3 7 (by decide) (by decide)]; exact e5
  · rw [n3 6 (by decide) (by decide), n3 7 (by decide) (by decide)]; exact e6
  · rw [r1 b (by omega), n3 7 (by decide) (by decide)]; exact hk
theorem dX12_numbered_0 : decode cX12_numbered 0 = .ok (.aload_n 0, 1) := by decide +kernel
theorem dX12_numbered_1 : decode cX12_numbered 1 = .ok (.getfield 122, 3) := by decide +kernel
theorem dX12_numbered_4 : decode cX12_numbered 4 = .ok (.ifCond .ne 11, 3) := by decide +kernel
theorem dX12_numbered_7 : decode cX12_numbered 7 = .ok (.aload_n 0, 1) := by decide +kernel
theorem dX12_numbered_8 : decode cX12_numbered 8 = .ok (.getfield 103, 3) := by decide +kernel
theorem dX12_numbered_11 : decode cX12_numbered 11 = .ok (.iconst 1, 1) := by decide +kernel
theorem dX12_numbered_12 : decode cX12_numbered 12 = .ok (.if_icmp .eq 9, 3) := by decide +kernel
theorem dX12_numbered_15 : decode cX12_numbered 15 = .ok (.aload_n 0, 1) := by decide +kernel
theorem dX12_numbered_16 : decode cX12_numbered 16 = .ok (.invokevirtual 126, 3) := by decide +kernel
theorem dX12_numbered_19 : decode cX12_numbered 19 = .ok (.iload_n 1, 1) := by decide +kernel
theorem dX12_numbered_20 : decode cX12_numbered 20 = .ok (.ireturn, 1) := by decide +kernel
theorem dX12_numbered_21 : decode cX12_numbered 21 = .ok (.aload_n 0, 1) := by decide +kernel
theorem dX12_numbered_22 : decode cX12_numbered 22 = .ok (.getfield 119, 3) := by decide +kernel
theorem dX12_numbered_25 : decode cX12_numbered 25 = .ok (.istore_n 3, 1) := by decide +kernel
theorem dX12_numbered_26 : decode cX12_numbered 26 = .ok (.iload_n 3, 1) := by decide +kernel
theorem dX12_numbered_27 : decode cX12_numbered 27 = .ok (.iload_n 1, 1) := by decide +kernel
theorem dX12_numbered_28 : decode cX12_numbered 28 = .ok (.iload_n 2, 1) := by decide +kernel
theorem dX12_numbered_29 : decode cX12_numbered 29 = .ok (.invokestatic 129, 3) := by decide +kernel
theorem dX12_numbered_32 : decode cX12_numbered 32 = .ok (.ifCond .ne 12, 3) := by decide +kernel
theorem dX12_numbered_35 : decode cX12_numbered 35 = .ok (.aload_n 0, 1) := by decide +kernel
theorem dX12_numbered_36 : decode cX12_numbered 36 = .ok (.iconst 2, 1) := by decide +kernel
theorem dX12_numbered_37 : decode cX12_numbered 37 = .ok (.aload_n 0, 1) := by decide +kernel
theorem dX12_numbered_38 : decode cX12_numbered 38 = .ok (.getfield 100, 3) := by decide +kernel
theorem dX12_numbered_41 : decode cX12_numbered 41 = .ok (.invokevirtual 133, 3) := by decide +kernel
theorem dX12_numbered_44 : decode cX12_numbered 44 = .ok (.aload_n 0, 1) := by decide +kernel
theorem dX12_numbered_45 : decode cX12_numbered 45 = .ok (.invokevirtual 137, 3) := by decide +kernel
theorem dX12_numbered_48 : decode cX12_numbered 48 = .ok (.iload_n 3, 1) := by decide +kernel
theorem dX12_numbered_49 : decode cX12_numbered 49 = .ok (.iload_n 1, 1) := by decide +kernel
theorem dX12_numbered_50 : decode cX12_numbered 50 = .ok (.iload_n 2, 1) := by decide +kernel
theorem dX12_numbered_51 : decode cX12_numbered 51 = .ok (.invokestatic 129, 3) := by decide +kernel
theorem dX12_numbered_54 : decode cX12_numbered 54 = .ok (.ifCond .eq 7, 3) := by decide +kernel
theorem dX12_numbered_57 : decode cX12_numbered 57 = .ok (.iload_n 3, 1) := by decide +kernel
theorem dX12_numbered_58 : decode cX12_numbered 58 = .ok (.goto 4, 3) := by decide +kernel
theorem dX12_numbered_61 : decode cX12_numbered 61 = .ok (.iload_n 1, 1) := by decide +kernel
theorem dX12_numbered_62 : decode cX12_numbered 62 = .ok (.ireturn, 1) := by decide +kernel
set_option maxRecDepth 20000 in
theorem b_X12_numbered_0 {k n : Nat} {x : Wx} {Z : Zt} {Q : Option Value → Wx → Zt → Prop} {a0 : Nat} {v1 : Int} {v2 : Int} (o_a0 : Is12 x a0)
    (h : Rg (Z a0 8) ∧ (((Z a0 8 ≠ 0) → (V mX12_numbered k n 15 [some (r_ a0), some (i_ v1), none, none] [] x Z Q)) ∧ ((Z a0 8 = 0) → (Rg (Z a0 5) ∧ (((Z a0 5 = 1) → ((Rg (Z a0 6) ∧ Rg v1 ∧ Rg v2) ∧ (∀ (r1 : Int), (((r1 = 1 ∧ v1 ≤ (Z a0 6) ∧ (Z a0 6) ≤ v2) ∨ (r1 = 0 ∧ ((Z a0 6) < v1 ∨ v2 < (Z a0 6))))) → (Rg r1 ∧ (((r1 ≠ 0) → (V mX12_numbered k n 44 [some (r_ a0), some (i_ v1), some (i_ v2), some (i_ (Z a0 6))] [] x Z Q)) ∧ ((r1 = 0) → (((Z a0 8 = 1) ∨ (Z a0 8 = 0 ∧ Rg (Z (a0 + 1) 4) ∧ Rg (Z a0 4) ∧ (Z (a0 + 1) 4 ≠ 0 → Rg (Z (a0 + 1) 5) ∧ Z (a0 + 1) 5 < (Z a0 4)))) ∧ (∀ Z1 : Zt, Z1 = alsZ Z a0 (2 : Int) (Z a0 4) → (V mX12_numbered k n 44 [some (r_ a0), some (i_ v1), some (i_ v2), some (i_ (Z a0 6))] [] x Z1 Q))))))))) ∧ ((Z a0 5 ≠ 1) → (V mX12_numbered k n 15 [some (r_ a0), some (i_ v1), none, none] [] x Z Q))))))) :
    V mX12_numbered k n 0 [some (r_ a0), some (i_ v1), some (i_ v2), none] [] x Z Q :=
  V_aload_n dX12_numbered_0 rfl (G_12_8 o_a0.1 lf_12_122 dX12_numbered_1 (V_if_ne (tgt := 15) dX12_numbered_4 rfl h.1 (fun c1 => V_msk [true, true, false, false] rfl (h.2.1 c1)) (fun c1 => V_aload_n dX12_numbered_7 rfl (G_12_5 o_a0.1 lf_12_103 dX12_numbered_8 (V_iconst dX12_numbered_11 (V_icmp_eq (tgt := 21) dX12_numbered_12 rfl (h.2.2 c1).1 (rg_c rfl) (fun c2 => V_aload_n dX12_numbered_21 rfl (G_12_6 o_a0.1 lf_12_119 dX12_numbered_22 (V_istore_n (lv' := [some (r_ a0), some (i_ v1), some (i_ v2), some (i_ (Z a0 6))]) dX12_numbered_25 (Nat.le_of_ble_eq_true rfl) rfl (V_iload_n dX12_numbered_26 rfl (V_iload_n dX12_numbered_27 rfl (V_iload_n dX12_numbered_28 rfl (V_callS (k' := 0) (n' := 0) [i_ (Z a0 6), i_ v1, i_ v2] [] okX12_isIn lm_12_129 lsX12_isIn (Nat.le_of_ble_eq_true rfl) (Nat.le_of_ble_eq_true rfl) (Nat.le_of_ble_eq_true rfl) (cat_of rfl) (Nat.le_of_ble_eq_true rfl) (Nat.zero_le _) (Nat.zero_le _) rfl dX12_numbered_29 (sp_X12_isIn  ((h.2.2 c1).2.1 c2).1 (fun r1 p1 => V_if_ne (tgt := 44) dX12_numbered_32 rfl (((h.2.2 c1).2.1 c2).2 r1 p1).1 (fun c3 => V_msk [true, true, true, true] rfl ((((h.2.2 c1).2.1 c2).2 r1 p1).2.1 c3)) (fun c3 => V_aload_n dX12_numbered_35 rfl (V_iconst dX12_numbered_36 (V_aload_n dX12_numbered_37 rfl (G_12_4 o_a0.1 lf_12_100 dX12_numbered_38 (V_callV (k' := 0) (n' := 0) (t := 12) (q := (RX12, TX12, 46)) [i_ 2, i_ (Z a0 4)] [] okX12_also o_a0.1 rfl rfl lm_12_133 liX12_also lqX12_also (Nat.le_of_ble_eq_true rfl) (Nat.le_of_ble_eq_true rfl) (Nat.le_of_ble_eq_true rfl) (cat_of rfl) (Nat.le_of_ble_eq_true rfl) (Nat.zero_le _) (Nat.zero_le _) rfl dX12_numbered_41 (sp_X12_also o_a0 ((((h.2.2 c1).2.1 c2).2 r1 p1).2.2 c3).1 (V_nmZ (fun Z1 eZ1 => V_msk [true, true, true, true] rfl (((((h.2.2 c1).2.1 c2).2 r1 p1).2.2 c3).2 Z1 eZ1)))))))))))))))))) (fun c2 => V_msk [true, true, false, false] rfl ((h.2.2 c1).2.2 c2))))))))
set_option maxRecDepth 20000 in
theorem b_X12_numbered_15 {k n : Nat} {x : Wx} {Z : Zt} {Q : Option Value → Wx → Zt → Prop} {a0 : Nat} {v1 : Int} (o_a0 : Is12 x a0)
    (h : (Z a0 8 = 0 ∨ Z a0 8 = 1) ∧ (∀ Z1 : Zt, Z1 = (if Z a0 8 = 0 then up (up (up Z a0 8 1) (a0 + 1) 4 1) (a0 + 1) 5 (Z a0 4) else Z) → (Q (some (i_ v1)) x Z1))) :
    V mX12_numbered k n 15 [some (r_ a0), some (i_ v1), none, none] [] x Z Q :=
  V_aload_n dX12_numbered_15 rfl (V_callV (k' := 0) (n' := 0) (t := 12) (q := (RX12, TX12, 46)) [] [] okX12_ends o_a0.1 rfl rfl lm_12_126 liX12_ends lqX12_ends (Nat.le_of_ble_eq_true rfl) (Nat.le_of_ble_eq_true rfl) (Nat.le_of_ble_eq_true rfl) (cat_of rfl) (Nat.le_of_ble_eq_true rfl) (Nat.zero_le _) (Nat.zero_le _) rfl dX12_numbered_16 (sp_X12_ends o_a0 h.1 (V_nmZ (fun Z1 eZ1 => V_iload_n dX12_numbered_19 rfl (V_iret (ty := .int) dX12_numbered_20 rfl rfl (h.2 Z1 eZ1))))))
set_option maxRecDepth 20000 in
theorem b_X12_numbered_44 {k n : Nat} {x : Wx} {Z : Zt} {Q : Option Value → Wx → Zt → Prop} {a0 : Nat} {v1 : Int} {v2 : Int} {v3 : Int} (o_a0 : Is12 x a0)
    (h : ∃ g1 : Nat → Int, (∃ g2 : Nat, (∃ g3 : Nat, (MB Z a0 g1 g2 ∧ (Z a0 3 = (g3 : Int) ∧ g3 ≤ g2) ∧ (∀ (Z'1 : Zt), (ADV Z Z'1 a0 g1 g2 g3) → ((Rg v3 ∧ Rg v1 ∧ Rg v2) ∧ (∀ (r1 : Int), (((r1 = 1 ∧ v1 ≤ v3 ∧ v3 ≤ v2) ∨ (r1 = 0 ∧ (v3 < v1 ∨ v2 < v3)))) → (Rg r1 ∧ (((r1 = 0) → (Q (some (i_ v1)) x Z'1)) ∧ ((r1 ≠ 0) → (Q (some (i_ v3)) x Z'1))))))))))) :
    V mX12_numbered k n 44 [some (r_ a0), some (i_ v1), some (i_ v2), some (i_ v3)] [] x Z Q :=
  V_aload_n dX12_numbered_44 rfl (Exists.elim h (fun g1 w1 => Exists.elim w1 (fun g2 w2 => Exists.elim w2 (fun g3 w3 => V_callV (k' := 0) (n' := 0) (t := 12) (q := (RX12, TX12, 46)) [] [] okX12_advance o_a0.1 rfl rfl lm_12_137 liX12_advance lqX12_advance (Nat.le_of_ble_eq_true rfl) (Nat.le_of_ble_eq_true rfl) (Nat.le_of_ble_eq_true rfl) (cat_of rfl) (Nat.le_of_ble_eq_true rfl) (Nat.zero_le _) (Nat.zero_le _) rfl dX12_numbered_45 (sp_X12_advance o_a0 w3.1 w3.2.1 (fun Z'1 p1 => V_iload_n dX12_numbered_48 rfl (V_iload_n dX12_numbered_49 rfl (V_iload_n dX12_numbered_50 rfl (V_callS (k' := 0) (n' := 0) [i_ v3, i_ v1, i_ v2] [] okX12_isIn lm_12_129 lsX12_isIn (Nat.le_of_ble_eq_true rfl) (Nat.le_of_ble_eq_true rfl) (Nat.le_of_ble_eq_true rfl) (cat_of rfl) (Nat.le_of_ble_eq_true rfl) (Nat.zero_le _) (Nat.zero_le _) rfl dX12_numbered_51 (sp_X12_isIn  (w3.2.2 Z'1 p1).1 (fun r1 p2 => V_if_eq (tgt := 61) dX12_numbered_54 rfl ((w3.2.2 Z'1 p1).2 r1 p2).1 (fun c1 => V_iload_n dX12_numbered_61 rfl (V_iret (ty := .int) dX12_numbered_62 rfl rfl (((w3.2.2 Z'1 p1).2 r1 p2).2.1 c1))) (fun c1 => V_iload_n dX12_numbered_57 rfl (V_goto (tgt := 62) dX12_numbered_58 rfl (V_iret (ty := .int) dX12_numbered_62 rfl rfl (((w3.2.2 Z'1 p1).2 r1 p2).2.2 c1)))))))))))))))
theorem dX12_takes_0 : decode cX12_takes 0 = .ok (.aload_n 0, 1) := by decide +kernel
theorem dX12_takes_1 : decode cX12_takes 1 = .ok (.getfield 122, 3) := by decide +kernel
theorem dX12_takes_4 : decode cX12_takes 4 = .ok (.ifCond .ne 23, 3) := by decide +kernel
theorem dX12_takes_7 : decode cX12_takes 7 = .ok (.aload_n 0, 1) := by decide +kernel
theorem dX12_takes_8 : decode cX12_takes 8 = .ok (.getfield 103, 3) := by decide +kernel
theorem dX12_takes_11 : decode cX12_takes 11 = .ok (.iconst 3, 1) := by decide +kernel
theorem dX12_takes_12 : decode cX12_takes 12 = .ok (.if_icmp .ne 15, 3) := by decide +kernel
theorem dX12_takes_15 : decode cX12_takes 15 = .ok (.aload_n 0, 1) := by decide +kernel
theorem dX12_takes_16 : decode cX12_takes 16 = .ok (.getfield 113, 3) := by decide +kernel
theorem dX12_takes_19 : decode cX12_takes 19 = .ok (.iload_n 1, 1) := by decide +kernel
theorem dX12_takes_20 : decode cX12_takes 20 = .ok (.iload_n 2, 1) := by decide +kernel
theorem dX12_takes_21 : decode cX12_takes 21 = .ok (.invokestatic 129, 3) := by decide +kernel
theorem dX12_takes_24 : decode cX12_takes 24 = .ok (.ifCond .ne 9, 3) := by decide +kernel
theorem dX12_takes_27 : decode cX12_takes 27 = .ok (.aload_n 0, 1) := by decide +kernel
theorem dX12_takes_28 : decode cX12_takes 28 = .ok (.invokevirtual 126, 3) := by decide +kernel
theorem dX12_takes_31 : decode cX12_takes 31 = .ok (.iconst 0, 1) := by decide +kernel
theorem dX12_takes_32 : decode cX12_takes 32 = .ok (.ireturn, 1) := by decide +kernel
theorem dX12_takes_33 : decode cX12_takes 33 = .ok (.aload_n 0, 1) := by decide +kernel
theorem dX12_takes_34 : decode cX12_takes 34 = .ok (.getfield 113, 3) := by decide +kernel
theorem dX12_takes_37 : decode cX12_takes 37 = .ok (.istore_n 3, 1) := by decide +kernel
theorem dX12_takes_38 : decode cX12_takes 38 = .ok (.aload_n 0, 1) := by decide +kernel
theorem dX12_takes_39 : decode cX12_takes 39 = .ok (.invokevirtual 137, 3) := by decide +kernel
theorem dX12_takes_42 : decode cX12_takes 42 = .ok (.iload_n 3, 1) := by decide +kernel
theorem dX12_takes_43 : decode cX12_takes 43 = .ok (.ireturn, 1) := by decide +kernel
set_option maxRecDepth 20000 in
theorem b_X12_takes_0 {k n : Nat} {x : Wx} {Z : Zt} {Q : Option Value → Wx → Zt → Prop} {a0 : Nat} {v1 : Int} {v2 : Int} (o_a0 : Is12 x a0)
    (h : Rg (Z a0 8) ∧ (((Z a0 8 ≠ 0) → (V mX12_takes k n 27 [some (r_ a0), none, none, none] [] x Z Q)) ∧ ((Z a0 8 = 0) → (Rg (Z a0 5) ∧ (((Z a0 5 ≠ 3) → (V mX12_takes k n 27 [some (r_ a0), none, none, none] [] x Z Q)) ∧ ((Z a0 5 = 3) → ((Rg (Z a0 7) ∧ Rg v1 ∧ Rg v2) ∧ (∀ (r1 : Int), (((r1 = 1 ∧ v1 ≤ (Z a0 7) ∧ (Z a0 7) ≤ v2) ∨ (r1 = 0 ∧ ((Z a0 7) < v1 ∨ v2 < (Z a0 7))))) → (Rg r1 ∧ (((r1 ≠ 0) → (∃ g1 : Nat → Int, (∃ g2 : Nat, (∃ g3 : Nat, (MB Z a0 g1 g2 ∧ (Z a0 3 = (g3 : Int) ∧ g3 ≤ g2) ∧ (∀ (Z'1 : Zt), (ADV Z Z'1 a0 g1 g2 g3) → (Q (some (i_ (Z a0 7))) x Z'1))))))) ∧ ((r1 = 0) → (V mX12_takes k n 27 [some (r_ a0), none, none, none] [] x Z Q)))))))))))) :
    V mX12_takes k n 0 [some (r_ a0), some (i_ v1), some (i_ v2), none] [] x Z Q :=
  V_aload_n dX12_takes_0 rfl (G_12_8 o_a0.1 lf_12_122 dX12_takes_1 (V_if_ne (tgt := 27) dX12_takes_4 rfl h.1 (fun c1 => V_msk [true, false, false, false] rfl (h.2.1 c1)) (fun c1 => V_aload_n dX12_takes_7 rfl (G_12_5 o_a0.1 lf_12_103 dX12_takes_8 (V_iconst dX12_takes_11 (V_icmp_ne (tgt := 27) dX12_takes_12 rfl (h.2.2 c1).1 (rg_c rfl) (fun c2 => V_msk [true, false, false, false] rfl ((h.2.2 c1).2.1 c2)) (fun c2 => V_aload_n dX12_takes_15 rfl (G_12_7 o_a0.1 lf_12_113 dX12_takes_16 (V_iload_n dX12_takes_19 rfl (V_iload_n dX12_takes_20 rfl (V_callS (k' := 0) (n' := 0) [i_ (Z a0 7), i_ v1, i_ v2] [] okX12_isIn lm_12_129 lsX12_isIn (Nat.le_of_ble_eq_true rfl) (Nat.le_of_ble_eq_true rfl) (Nat.le_of_ble_eq_true rfl) (cat_of rfl) (Nat.le_of_ble_eq_true rfl) (Nat.zero_le _) (Nat.zero_le _) rfl dX12_takes_21 (sp_X12_isIn  ((h.2.2 c1).2.2 c2).1 (fun r1 p1 => V_if_ne (tgt := 33) dX12_takes_24 rfl (((h.2.2 c1).2.2 c2).2 r1 p1).1 (fun c3 => V_aload_n dX12_takes_33 rfl (G_12_7 o_a0.1 lf_12_113 dX12_takes_34 (V_istore_n (lv' := [some (r_ a0), some (i_ v1), some (i_ v2), some (i_ (Z a0 7))]) dX12_takes_37 (Nat.le_of_ble_eq_true rfl) rfl (V_aload_n dX12_takes_38 rfl (Exists.elim ((((h.2.2 c1).2.2 c2).2 r1 p1).2.1 c3) (fun g1 w1 => Exists.elim w1 (fun g2 w2 => Exists.elim w2 (fun g3 w3 => V_callV (k' := 0) (n' := 0) (t := 12) (q := (RX12, TX12, 46)) [] [] okX12_advance o_a0.1 rfl rfl lm_12_137 liX12_advance lqX12_advance (Nat.le_of_ble_eq_true rfl) (Nat.le_of_ble_eq_true rfl) (Nat.le_of_ble_eq_true rfl) (cat_of rfl) (Nat.le_of_ble_eq_true rfl) (Nat.zero_le _) (Nat.zero_le _) rfl dX12_takes_39 (sp_X12_advance o_a0 w3.1 w3.2.1 (fun Z'1 p2 => V_iload_n dX12_takes_42 rfl (V_iret (ty := .int) dX12_takes_43 rfl rfl (w3.2.2 Z'1 p2)))))))))))) (fun c3 => V_msk [true, false, false, false] rfl ((((h.2.2 c1).2.2 c2).2 r1 p1).2.2 c3)))))))))))))))
set_option maxRecDepth 20000 in
theorem b_X12_takes_27 {k n : Nat} {x : Wx} {Z : Zt} {Q : Option Value → Wx → Zt → Prop} {a0 : Nat} (o_a0 : Is12 x a0)
    (h : (Z a0 8 = 0 ∨ Z a0 8 = 1) ∧ (∀ Z1 : Zt, Z1 = (if Z a0 8 = 0 then up (up (up Z a0 8 1) (a0 + 1) 4 1) (a0 + 1) 5 (Z a0 4) else Z) → (Q (some (i_ 0)) x Z1))) :
    V mX12_takes k n 27 [some (r_ a0), none, none, none] [] x Z Q :=
  V_aload_n dX12_takes_27 rfl (V_callV (k' := 0) (n' := 0) (t := 12) (q := (RX12, TX12, 46)) [] [] okX12_ends o_a0.1 rfl rfl lm_12_126 liX12_ends lqX12_ends (Nat.le_of_ble_eq_true rfl) (Nat.le_of_ble_eq_true rfl) (Nat.le_of_ble_eq_true rfl) (cat_of rfl) (Nat.le_of_ble_eq_true rfl) (Nat.zero_le _) (Nat.zero_le _) rfl dX12_takes_28 (sp_X12_ends o_a0 h.1 (V_nmZ (fun Z1 eZ1 => V_iconst dX12_takes_31 (V_iret (ty := .int) dX12_takes_32 rfl rfl (h.2 Z1 eZ1))))))
theorem dX12_endsLine_0 : decode cX12_endsLine 0 = .ok (.aload_n 0, 1) := by decide +kernel
theorem dX12_endsLine_1 : decode cX12_endsLine 1 = .ok (.getfield 122, 3) := by decide +kernel
theorem dX12_endsLine_4 : decode cX12_endsLine 4 = .ok (.ifCond .ne 18, 3) := by decide +kernel
theorem dX12_endsLine_7 : decode cX12_endsLine 7 = .ok (.aload_n 0, 1) := by decide +kernel
theorem dX12_endsLine_8 : decode cX12_endsLine 8 = .ok (.getfield 103, 3) := by decide +kernel
theorem dX12_endsLine_11 : decode cX12_endsLine 11 = .ok (.iconst 2, 1) := by decide +kernel
theorem dX12_endsLine_12 : decode cX12_endsLine 12 = .ok (.if_icmp .ne 10, 3) := by decide +kernel
theorem dX12_endsLine_15 : decode cX12_endsLine 15 = .ok (.aload_n 0, 1) := by decide +kernel
theorem dX12_endsLine_16 : decode cX12_endsLine 16 = .ok (.invokevirtual 137, 3) := by decide +kernel
theorem dX12_endsLine_19 : decode cX12_endsLine 19 = .ok (.goto 7, 3) := by decide +kernel
theorem dX12_endsLine_22 : decode cX12_endsLine 22 = .ok (.aload_n 0, 1) := by decide +kernel
theorem dX12_endsLine_23 : decode cX12_endsLine 23 = .ok (.invokevirtual 126, 3) := by decide +kernel
theorem dX12_endsLine_26 : decode cX12_endsLine 26 = .ok (.return_, 1) := by decide +kernel
set_option maxRecDepth 20000 in
theorem b_X12_endsLine_0 {k n : Nat} {x : Wx} {Z : Zt} {Q : Option Value → Wx → Zt → Prop} {a0 : Nat} (o_a0 : Is12 x a0)
    (h : Rg (Z a0 8) ∧ (((Z a0 8 ≠ 0) → (V mX12_endsLine k n 22 [some (r_ a0)] [] x Z Q)) ∧ ((Z a0 8 = 0) → (Rg (Z a0 5) ∧ (((Z a0 5 ≠ 2) → (V mX12_endsLine k n 22 [some (r_ a0)] [] x Z Q)) ∧ ((Z a0 5 = 2) → (∃ g1 : Nat → Int, (∃ g2 : Nat, (∃ g3 : Nat, (MB Z a0 g1 g2 ∧ (Z a0 3 = (g3 : Int) ∧ g3 ≤ g2) ∧ (∀ (Z'1 : Zt), (ADV Z Z'1 a0 g1 g2 g3) → (Q none x Z'1)))))))))))) :
    V mX12_endsLine k n 0 [some (r_ a0)] [] x Z Q :=
  V_aload_n dX12_endsLine_0 rfl (G_12_8 o_a0.1 lf_12_122 dX12_endsLine_1 (V_if_ne (tgt := 22) dX12_endsLine_4 rfl h.1 (fun c1 => V_msk [true] rfl (h.2.1 c1)) (fun c1 => V_aload_n dX12_endsLine_7 rfl (G_12_5 o_a0.1 lf_12_103 dX12_endsLine_8 (V_iconst dX12_endsLine_11 (V_icmp_ne (tgt := 22) dX12_endsLine_12 rfl (h.2.2 c1).1 (rg_c rfl) (fun c2 => V_msk [true] rfl ((h.2.2 c1).2.1 c2)) (fun c2 => V_aload_n dX12_endsLine_15 rfl (Exists.elim ((h.2.2 c1).2.2 c2) (fun g1 w1 => Exists.elim w1 (fun g2 w2 => Exists.elim w2 (fun g3 w3 => V_callV (k' := 0) (n' := 0) (t := 12) (q := (RX12, TX12, 46)) [] [] okX12_advance o_a0.1 rfl rfl lm_12_137 liX12_advance lqX12_advance (Nat.le_of_ble_eq_true rfl) (Nat.le_of_ble_eq_true rfl) (Nat.le_of_ble_eq_true rfl) (cat_of rfl) (Nat.le_of_ble_eq_true rfl) (Nat.zero_le _) (Nat.zero_le _) rfl dX12_endsLine_16 (sp_X12_advance o_a0 w3.1 w3.2.1 (fun Z'1 p1 => V_goto (tgt := 26) dX12_endsLine_19 rfl (V_ret dX12_endsLine_26 rfl (w3.2.2 Z'1 p1)))))))))))))))
set_option maxRecDepth 20000 in
theorem b_X12_endsLine_22 {k n : Nat} {x : Wx} {Z : Zt} {Q : Option Value → Wx → Zt → Prop} {a0 : Nat} (o_a0 : Is12 x a0)
    (h : (Z a0 8 = 0 ∨ Z a0 8 = 1) ∧ (∀ Z1 : Zt, Z1 = (if Z a0 8 = 0 then up (up (up Z a0 8 1) (a0 + 1) 4 1) (a0 + 1) 5 (Z a0 4) else Z) → (Q none x Z1))) :
    V mX12_endsLine k n 22 [some (r_ a0)] [] x Z Q :=
  V_aload_n dX12_endsLine_22 rfl (V_callV (k' := 0) (n' := 0) (t := 12) (q := (RX12, TX12, 46)) [] [] okX12_ends o_a0.1 rfl rfl lm_12_126 liX12_ends lqX12_ends (Nat.le_of_ble_eq_true rfl) (Nat.le_of_ble_eq_true rfl) (Nat.le_of_ble_eq_true rfl) (cat_of rfl) (Nat.le_of_ble_eq_true rfl) (Nat.zero_le _) (Nat.zero_le _) rfl dX12_endsLine_23 (sp_X12_ends o_a0 h.1 (V_nmZ (fun Z1 eZ1 => V_ret dX12_endsLine_26 rfl (h.2 Z1 eZ1)))))
theorem ML.ld {s : Nat → Int} {m : Nat} {f : Nat → Int} {Z : Zt} {b : Nat} (h : ML s m f Z b) : LV s m f Z b ∨ Ded s m f Z b := by
  rcases h with h | h
  · exact Or.inl h.1
  · exact Or.inr h
def MLw (s : Nat → Int) (m : Nat) (f : Nat → Int) (Z : Zt) (b : Nat) (c : Int) : Prop := (LV s m f Z b ∧ ((f 1 ≠ 0 → f 2 < f 7) ∨ (99 ≤ c ∧ (f 1 ≠ 0 → f 2 ≤ f 7)))) ∨ Ded s m f Z b
theorem ML.w {s : Nat → Int} {m : Nat} {f : Nat → Int} {Z : Zt} {b : Nat} (h : ML s m f Z b) (c : Int) : MLw s m f Z b c := by
  rcases h with h | h
  · exact Or.inl ⟨h.1, Or.inl h.2⟩
  · exact Or.inr h
def NR (s : Nat → Int) (c : Int) (f : Nat → Int) (r : Int) : Prop := (0 ≤ r ∧ r ≤ c) ∧ (numF s c f 1 = 0 → r = numV s f)
theorem LV.num {s : Nat → Int} {m : Nat} {f : Nat → Int} {Z : Zt} {b : Nat} (h : LV s m f Z b) : (Z b 5 = 1 ↔ f 6 = 2) ∧ (Z b 5 = 1 → Z b 6 = valF s f) := by
  obtain ⟨hB, h4, hi, hP, ⟨h1, h8⟩, ⟨h3, h7⟩, ⟨ha, hb⟩, ⟨e5, e6⟩, hk⟩ := h
  have hv : valF s f = vl10 s (tokE s m (f 7).toNat - (f 7).toNat) (f 7).toNat 0 := by
    unfold valF; rw [e5, Int.toNat_natCast]
  rw [hv, e6]
  unfold MTk WW at hk
  constructor
  · constructor
    · intro e; omega
    · intro e; omega
  · intro e; omega
theorem sp_X12_numbered {k n : Nat} {x : Wx} {Z : Zt} {Q : Option Value → Wx → Zt → Prop} {b : Nat} {z c : Int} (o : Is12 x b) {s : Nat → Int} {m : Nat} {f : Nat → Int} (hM : MLw s m f Z b c) (hz : z = 0) (hc : 0 ≤ c ∧ c ≤ 99) (h : ∀ (r : Int) (Z' : Zt), (NR s c f r ∧ ML s m (numF s c f) Z' b ∧ RF b Z Z') → Q (some (i_ r)) x Z') : V mX12_numbered k n 0 [some (r_ b), some (i_ z), some (i_ c), none] [] x Z Q := by
  subst hz
  have bad : f 6 ≠ 2 → (LV s m f Z b ∨ Ded s m f Z b) → (Z b 8 = 0 ∨ Z b 8 = 1) → V mX12_numbered k n 15 [some (r_ b), some (i_ 0), none, none] [] x Z Q := fun h6 hl h8 => by
    refine b_X12_numbered_15 o ⟨h8, fun Z1 e1 => ?_⟩
    have hN : numF s c f = stopF f := by unfold numF; rw [if_neg h6]
    obtain ⟨g1, g2⟩ := LD_ends hl e1
    refine h 0 Z1 ⟨⟨by omega, fun e => ?_⟩, Or.inr (by rw [hN]; exact g1), g2⟩
    rw [hN, stop_f1] at e; cases e
  rcases hM with ⟨hL, hO⟩ | hD
  · have h8 := hL.2.2.2.2.1.2
    have h5 := hL.2.2.2.2.2.2.2.2.rg
    obtain ⟨n1, n2⟩ := hL.num
    obtain ⟨hB, h4, hi, hP, ⟨h1, _⟩, ⟨h3, h7⟩, ⟨ha, hb⟩, _, _⟩ := id hL
    refine b_X12_numbered_0 o ⟨⟨by omega, by omega⟩, fun e => absurd h8 e, fun _ => ⟨⟨by omega, by omega⟩, fun e => ?_, fun e => bad (fun e2 => e (n1.mpr e2)) (Or.inl hL) (Or.inl h8)⟩⟩
    have h6 := n1.mp e
    have hv := val_rg hi h6
    have eV : numV s f = valF s f := by unfold numV; rw [if_pos h6]
    have h75 := hL.gt (by omega)
    have hir := hi.2.1
    have hi4 := hi.1
    rw [n2 e]
    refine ⟨⟨⟨by omega, by omega⟩, rg_z, ⟨by omega, by omega⟩⟩, fun r1 hr1 => ⟨⟨by omega, by omega⟩, fun d => ?_, fun d => ?_⟩⟩
    · refine b_X12_numbered_44 o ⟨s, m, (f 5).toNat, hB, ⟨by rw [h3]; omega, by omega⟩, fun Z1 hA => ?_⟩
      have hN : numF s c f = nxF s f := by unfold numF; rw [if_pos h6, if_pos (by omega)]
      obtain ⟨g1, g2⟩ := hL.nx (fun e0 => by rcases hO with hO | hO <;> have := hO <;> omega) hA
      refine ⟨⟨⟨by omega, by omega⟩, rg_z, ⟨by omega, by omega⟩⟩, fun r2 hr2 => ⟨⟨by omega, by omega⟩, fun d2 => by omega, fun d2 => h _ Z1 ⟨⟨by omega, fun _ => eV.symm⟩, by rw [hN]; exact g1, g2⟩⟩⟩
    · have hO' : f 1 ≠ 0 → f 2 < f 7 := by
        rcases hO with hO | hO
        · exact hO
        · omega
      have hP2 := hP.2
      have hP1 := hP.1
      have hf1 := hi.2.2.1
      refine ⟨Or.inr ⟨h8, by rw [ha]; exact ⟨by omega, by omega⟩, by rw [h7]; exact ⟨by omega, by omega⟩, fun e0 => ?_⟩, fun Z1 e1 => ?_⟩
      · rw [ha] at e0
        rw [hb, h7]; exact ⟨⟨by omega, by omega⟩, hO' e0⟩
      · rw [h7] at e1
        obtain ⟨l1, l2⟩ := hL.note (w := 2) (Or.inl rfl)
        rw [← e1] at l1 l2
        obtain ⟨k1, k2, k3⟩ := note_f 2 f
        have e5 := k3 5 (by decide) (by decide)
        refine b_X12_numbered_44 o ⟨s, m, (f 5).toNat, l1.1, ⟨by rw [l1.2.2.2.2.2.1.1, e5]; omega, by omega⟩, fun Z2 hA => ?_⟩
        have hN : numF s c f = nxF s (noteF 2 f) := by unfold numF; rw [if_pos h6, if_neg (by omega)]
        obtain ⟨g1, g2⟩ := l1.nx (fun e0 => by
          rw [k2, e5]
          split
          · omega
          · rename_i c9; have := hO' c9; omega) (by rw [e5]; exact hA)
        refine ⟨⟨⟨by omega, by omega⟩, rg_z, ⟨by omega, by omega⟩⟩, fun r2 hr2 => ⟨⟨by omega, by omega⟩, fun d2 => h _ Z2 ⟨⟨by omega, fun e0 => ?_⟩, by rw [hN]; exact g1, l2.tr g2⟩, fun d2 => by omega⟩⟩
        rw [hN, nx_f1] at e0
        exact absurd e0 (note_f1 (by decide) f)
  · have hd := hD.2.2.2.2.1
    refine b_X12_numbered_0 o ⟨⟨by omega, by omega⟩, fun e => bad (by omega) (Or.inr hD) (Or.inr hd.2.2), fun e => by omega⟩
def wcd (w : Int) : Nat := if w = 1 then 10 else if w = 2 then 11 else if w = 3 then 13 else if w = 4 then 12 else if w = 5 then 15 else 14
theorem LV.wd {s : Nat → Int} {m : Nat} {f : Nat → Int} {Z : Zt} {b : Nat} (h : LV s m f Z b) : (Z b 5 = 3 → 1 ≤ Z b 7 ∧ Z b 7 ≤ 6 ∧ f 6 = 1) ∧ ∀ w : Int, 1 ≤ w → w ≤ 6 → (isW s f (wcd w) = true ↔ (Z b 5 = 3 ∧ Z b 7 = w)) := by
  obtain ⟨hB, h4, hi, hP, ⟨h1, h8⟩, ⟨h3, h7⟩, ⟨ha, hb⟩, ⟨e5, e6⟩, hk⟩ := h
  have hi2 := hi.2.1
  have hw : ∀ j : Nat, isW s f j = true ↔ f 6 = 1 ∧ wsB s (f 7).toNat (tokE s m (f 7).toNat - (f 7).toNat) j = true := fun j => by
    rw [isW_iff, wsB_iff, e5]
    constructor
    · rintro ⟨a1, a2, a3⟩; exact ⟨a1, by omega, a3⟩
    · rintro ⟨a1, a2, a3⟩
      have : (f 7).toNat ≤ tokE s m (f 7).toNat := by omega
      exact ⟨a1, by omega, a3⟩
  constructor
  · intro e
    unfold MTk WW at hk
    rw [e6]
    omega
  · intro w w1 w2
    rw [hw, e6]
    unfold MTk WW at hk
    have hc : w = 1 ∨ w = 2 ∨ w = 3 ∨ w = 4 ∨ w = 5 ∨ w = 6 := by omega
    rcases hc with rfl | rfl | rfl | rfl | rfl | rfl
    · show (_ ∧ wsB s _ _ 10 = true) ↔ _
      rcases hk with k | k | k | k | k | ⟨k, k0, k1, a1, a2, a3, a4, a5, a6⟩
      · omega
      · omega
      · omega
      · omega
      · omega
      · rw [← a1]; omega
    · show (_ ∧ wsB s _ _ 11 = true) ↔ _
      rcases hk with k | k | k | k | k | ⟨k, k0, k1, a1, a2, a3, a4, a5, a6⟩
      · omega
      · omega
      · omega
      · omega
      · omega
      · rw [← a2]; omega
    · show (_ ∧ wsB s _ _ 13 = true) ↔ _
      rcases hk with k | k | k | k | k | ⟨k, k0, k1, a1, a2, a3, a4, a5, a6⟩
      · omega
      · omega
      · omega
      · omega
      · omega
      · rw [← a3]; omega
    · show (_ ∧ wsB s _ _ 12 = true) ↔ _
      rcases hk with k | k | k | k | k | ⟨k, k0, k1, a1, a2, a3, a4, a5, a6⟩
      · omega
      · omega
      · omega
      · omega
      · omega
      · rw [← a4]; omega
    · show (_ ∧ wsB s _ _ 15 = true) ↔ _
      rcases hk with k | k | k | k | k | ⟨k, k0, k1, a1, a2, a3, a4, a5, a6⟩
      · omega
      · omega
      · omega
      · omega
      · omega
      · rw [← a5]; omega
    · show (_ ∧ wsB s _ _ 14 = true) ↔ _
      rcases hk with k | k | k | k | k | ⟨k, k0, k1, a1, a2, a3, a4, a5, a6⟩
      · omega
      · omega
      · omega
      · omega
      · omega
      · rw [← a6]; omega
/-- takes: the word's number, or 0 -/
def TKS (s : Nat → Int) (m : Nat) (f : Nat → Int) (Z Z' : Zt) (b : Nat) (u v r : Int) : Prop := ((u ≤ r ∧ r ≤ v) ∧ (∀ w : Int, 1 ≤ w → w ≤ 6 → (isW s f (wcd w) = true ↔ w = r)) ∧ (LV s m f Z b ∧ (f 1 ≠ 0 → f 2 < f 7) ∧ f 6 = 1) ∧ ML s m (nxF s f) Z' b ∧ LV s m (nxF s f) Z' b ∧ RF b Z Z') ∨ (r = 0 ∧ (∀ w : Int, u ≤ w → w ≤ v → isW s f (wcd w) = false) ∧ Ded s m (stopF f) Z' b ∧ RF b Z Z')
theorem isW_dd {s f : Nat → Int} (h6 : f 6 = 5) (j : Nat) : isW s f j = false := by
  unfold isW
  rw [decide_eq_false (show ¬ f 6 = 1 by omega)]; rfl
theorem sp_X12_takes {k n : Nat} {x : Wx} {Z : Zt} {Q : Option Value → Wx → Zt → Prop} {b : Nat} {u v : Int} (o : Is12 x b) {s : Nat → Int} {m : Nat} {f : Nat → Int} (hM : ML s m f Z b) (hu : 1 ≤ u ∧ v ≤ 6 ∧ u ≤ v) (h : ∀ (r : Int) (Z' : Zt), TKS s m f Z Z' b u v r → Q (some (i_ r)) x Z') : V mX12_takes k n 0 [some (r_ b), some (i_ u), some (i_ v), none] [] x Z Q := by
  have bad : (∀ w : Int, u ≤ w → w ≤ v → isW s f (wcd w) = false) → (Z b 8 = 0 ∨ Z b 8 = 1) → V mX12_takes k n 27 [some (r_ b), none, none, none] [] x Z Q := fun h6 h8 => by
    refine b_X12_takes_27 o ⟨h8, fun Z1 e1 => ?_⟩
    obtain ⟨g1, g2⟩ := LD_ends hM.ld e1
    exact h 0 Z1 (Or.inr ⟨rfl, h6, g1, g2⟩)
  rcases hM with ⟨hL, hO⟩ | hD
  · have h8 := hL.2.2.2.2.1.2
    have h5 := hL.2.2.2.2.2.2.2.2.rg
    obtain ⟨w1, w2⟩ := hL.wd
    obtain ⟨hB, h4, hi, hP, ⟨h1, _⟩, ⟨h3, h7⟩, ⟨ha, hb⟩, _, _⟩ := id hL
    have hir := hi.2.1
    have hi4 := hi.1
    have no : ∀ w : Int, 1 ≤ w → w ≤ 6 → ¬ (Z b 5 = 3 ∧ Z b 7 = w) → isW s f (wcd w) = false := fun w h1 h2 h3 => by
      cases hh : isW s f (wcd w)
      · rfl
      · exact absurd ((w2 w h1 h2).mp hh) h3
    refine b_X12_takes_0 o ⟨⟨by omega, by omega⟩, fun e => absurd h8 e, fun _ => ⟨⟨by omega, by omega⟩, fun e => bad (fun w k1 k2 => no w (by omega) (by omega) (fun e2 => e e2.1)) (Or.inl h8), fun e => ?_⟩⟩
    obtain ⟨w3, w4, w5⟩ := w1 e
    refine ⟨⟨⟨by omega, by omega⟩, ⟨by omega, by omega⟩, ⟨by omega, by omega⟩⟩, fun r1 hr1 => ⟨⟨by omega, by omega⟩, fun d => ⟨s, m, (f 5).toNat, hB, ⟨by rw [h3]; omega, by omega⟩, fun Z1 hA => ?_⟩, fun d => bad (fun w k1 k2 => no w (by omega) (by omega) (fun e2 => by omega)) (Or.inl h8)⟩⟩
    have h75 := hL.gt (by omega)
    obtain ⟨g1, g2⟩ := hL.nx (fun e0 => by have := hO e0; omega) hA
    have g3 : LV s m (nxF s f) Z1 b := by
      rcases g1 with g1 | g1
      · exact g1.1
      · have := g1.2.2.2.2.1.1; rw [nx_f1] at this; exact absurd this h1
    refine h _ Z1 (Or.inl ⟨by omega, fun w k1 k2 => ?_, ⟨hL, hO, w5⟩, g1, g3, g2⟩)
    rw [w2 w k1 k2]; constructor
    · intro e2; exact e2.2.symm
    · intro e2; exact ⟨e, e2.symm⟩
  · have hd := hD.2.2.2.2.1
    refine b_X12_takes_0 o ⟨⟨by omega, by omega⟩, fun e => bad (fun w _ _ => isW_dd hd.2.1 _) (Or.inr hd.2.2), fun e => by omega⟩
theorem sp_X12_endsLine {k n : Nat} {x : Wx} {Z : Zt} {Q : Option Value → Wx → Zt → Prop} {b : Nat} (o : Is12 x b) {s : Nat → Int} {m : Nat} {f : Nat → Int} (hM : ML s m f Z b) (h : ∀ Z' : Zt, (ML s m (clsF s f) Z' b ∧ RF b Z Z') → Q none x Z') : V mX12_endsLine k n 0 [some (r_ b)] [] x Z Q := by
  have bad : f 6 ≠ 4 → (Z b 8 = 0 ∨ Z b 8 = 1) → V mX12_endsLine k n 22 [some (r_ b)] [] x Z Q := fun h6 h8 => by
    refine b_X12_endsLine_22 o ⟨h8, fun Z1 e1 => ?_⟩
    obtain ⟨g1, g2⟩ := LD_ends hM.ld e1
    have hN : clsF s f = stopF f := by unfold clsF; rw [if_neg h6]
    exact h Z1 ⟨Or.inr (by rw [hN]; exact g1), g2⟩
  rcases hM with ⟨hL, hO⟩ | hD
  · have h8 := hL.2.2.2.2.1.2
    have h5 := hL.2.2.2.2.2.2.2.2.rg
    obtain ⟨hB, h4, hi, hP, ⟨h1, _⟩, ⟨h3, h7⟩, ⟨ha, hb⟩, ⟨e5, e6⟩, hk⟩ := id hL
    have hir := hi.2.1
    have hi4 := hi.1
    have h6 : Z b 5 = 2 ↔ f 6 = 4 := by
      rw [e6]; unfold MTk WW at hk
      constructor
      · intro e; omega
      · intro e; omega
    refine b_X12_endsLine_0 o ⟨⟨by omega, by omega⟩, fun e => absurd h8 e, fun _ => ⟨⟨by omega, by omega⟩, fun e => bad (fun e2 => e (h6.mpr e2)) (Or.inl h8), fun e => ⟨s, m, (f 5).toNat, hB, ⟨by rw [h3]; omega, by omega⟩, fun Z1 hA => ?_⟩⟩⟩
    have k6 := h6.mp e
    have h75 := hL.gt (by omega)
    obtain ⟨g1, g2⟩ := hL.nx (fun e0 => by have := hO e0; omega) hA
    have hN : clsF s f = nxF s f := by unfold clsF; rw [if_pos k6]
    exact h Z1 ⟨by rw [hN]; exact g1, g2⟩
  · have hd := hD.2.2.2.2.1
    refine b_X12_endsLine_0 o ⟨⟨by omega, by omega⟩, fun e => bad (by omega) (Or.inr hd.2.2), fun e => by omega⟩
theorem dX12_signed_0 : decode cX12_signed 0 = .ok (.aload_n 0, 1) := by decide +kernel
theorem dX12_signed_1 : decode cX12_signed 1 = .ok (.getfield 103, 3) := by decide +kernel
theorem dX12_signed_4 : decode cX12_signed 4 = .ok (.iconst 5, 1) := by decide +kernel
theorem dX12_signed_5 : decode cX12_signed 5 = .ok (.if_icmp .ne 7, 3) := by decide +kernel
theorem dX12_signed_8 : decode cX12_signed 8 = .ok (.iconst 1, 1) := by decide +kernel
theorem dX12_signed_9 : decode cX12_signed 9 = .ok (.goto 4, 3) := by decide +kernel
theorem dX12_signed_12 : decode cX12_signed 12 = .ok (.iconst 0, 1) := by decide +kernel
theorem dX12_signed_13 : decode cX12_signed 13 = .ok (.istore_n 2, 1) := by decide +kernel
theorem dX12_signed_14 : decode cX12_signed 14 = .ok (.iload_n 2, 1) := by decide +kernel
theorem dX12_signed_15 : decode cX12_signed 15 = .ok (.ifCond .eq 7, 3) := by decide +kernel
theorem dX12_signed_18 : decode cX12_signed 18 = .ok (.aload_n 0, 1) := by decide +kernel
theorem dX12_signed_19 : decode cX12_signed 19 = .ok (.invokevirtual 137, 3) := by decide +kernel
theorem dX12_signed_22 : decode cX12_signed 22 = .ok (.aload_n 0, 1) := by decide +kernel
theorem dX12_signed_23 : decode cX12_signed 23 = .ok (.iconst 0, 1) := by decide +kernel
theorem dX12_signed_24 : decode cX12_signed 24 = .ok (.iload_n 1, 1) := by decide +kernel
theorem dX12_signed_25 : decode cX12_signed 25 = .ok (.invokevirtual 140, 3) := by decide +kernel
theorem dX12_signed_28 : decode cX12_signed 28 = .ok (.istore_n 3, 1) := by decide +kernel
theorem dX12_signed_29 : decode cX12_signed 29 = .ok (.iload_n 2, 1) := by decide +kernel
theorem dX12_signed_30 : decode cX12_signed 30 = .ok (.ifCond .eq 8, 3) := by decide +kernel
theorem dX12_signed_33 : decode cX12_signed 33 = .ok (.iload_n 3, 1) := by decide +kernel
theorem dX12_signed_34 : decode cX12_signed 34 = .ok (.ineg, 1) := by decide +kernel
theorem dX12_signed_35 : decode cX12_signed 35 = .ok (.goto 4, 3) := by decide +kernel
theorem dX12_signed_38 : decode cX12_signed 38 = .ok (.iload_n 3, 1) := by decide +kernel
theorem dX12_signed_39 : decode cX12_signed 39 = .ok (.ireturn, 1) := by decide +kernel
set_option maxRecDepth 20000 in
theorem b_X12_signed_0 {k n : Nat} {x : Wx} {Z : Zt} {Q : Option Value → Wx → Zt → Prop} {a0 : Nat} {v1 : Int} (o_a0 : Is12 x a0)
    (h : Rg (Z a0 5) ∧ (((Z a0 5 ≠ 5) → (V mX12_signed k n 13 [some (r_ a0), some (i_ v1), none, none] [i_ 0] x Z Q)) ∧ ((Z a0 5 = 5) → (V mX12_signed k n 13 [some (r_ a0), some (i_ v1), none, none] [i_ 1] x Z Q)))) :
    V mX12_signed k n 0 [some (r_ a0), some (i_ v1), none, none] [] x Z Q :=
  V_aload_n dX12_signed_0 rfl (G_12_5 o_a0.1 lf_12_103 dX12_signed_1 (V_iconst dX12_signed_4 (V_icmp_ne (tgt := 12) dX12_signed_5 rfl h.1 (rg_c rfl) (fun c1 => V_iconst dX12_signed_12 (V_msk [true, true, false, false] rfl (h.2.1 c1))) (fun c1 => V_iconst dX12_signed_8 (V_goto (tgt := 13) dX12_signed_9 rfl (V_msk [true, true, false, false] rfl (h.2.2 c1)))))))
set_option maxRecDepth 20000 in
theorem b_X12_signed_13 {k n : Nat} {x : Wx} {Z : Zt} {Q : Option Value → Wx → Zt → Prop} {a0 : Nat} {v1 : Int} {t0 : Int} (o_a0 : Is12 x a0)
    (h : Rg t0 ∧ (((t0 = 0) → (V mX12_signed k n 22 [some (r_ a0), some (i_ v1), some (i_ t0), none] [] x Z Q)) ∧ ((t0 ≠ 0) → (∃ g1 : Nat → Int, (∃ g2 : Nat, (∃ g3 : Nat, (MB Z a0 g1 g2 ∧ (Z a0 3 = (g3 : Int) ∧ g3 ≤ g2) ∧ (∀ (Z'1 : Zt), (ADV Z Z'1 a0 g1 g2 g3) → (V mX12_signed k n 22 [some (r_ a0), some (i_ v1), some (i_ t0), none] [] x Z'1 Q))))))))) :
    V mX12_signed k n 13 [some (r_ a0), some (i_ v1), none, none] [i_ t0] x Z Q :=
  V_istore_n (lv' := [some (r_ a0), some (i_ v1), some (i_ t0), none]) dX12_signed_13 (Nat.le_of_ble_eq_true rfl) rfl (V_iload_n dX12_signed_14 rfl (V_if_eq (tgt := 22) dX12_signed_15 rfl h.1 (fun c1 => V_msk [true, true, true, false] rfl (h.2.1 c1)) (fun c1 => V_aload_n dX12_signed_18 rfl (Exists.elim (h.2.2 c1) (fun g1 w1 => Exists.elim w1 (fun g2 w2 => Exists.elim w2 (fun g3 w3 => V_callV (k' := 0) (n' := 0) (t := 12) (q := (RX12, TX12, 46)) [] [] okX12_advance o_a0.1 rfl rfl lm_12_137 liX12_advance lqX12_advance (Nat.le_of_ble_eq_true rfl) (Nat.le_of_ble_eq_true rfl) (Nat.le_of_ble_eq_true rfl) (cat_of rfl) (Nat.le_of_ble_eq_true rfl) (Nat.zero_le _) (Nat.zero_le _) rfl dX12_signed_19 (sp_X12_advance o_a0 w3.1 w3.2.1 (fun Z'1 p1 => V_msk [true, true, true, false] rfl (w3.2.2 Z'1 p1))))))))))
set_option maxRecDepth 20000 in
theorem b_X12_signed_22 {k n : Nat} {x : Wx} {Z : Zt} {Q : Option Value → Wx → Zt → Prop} {a0 : Nat} {v1 : Int} {v2 : Int} (o_a0 : Is12 x a0)
    (h : ∃ g1 : Nat → Int, (∃ g2 : Nat, (∃ g3 : Nat → Int, (MLw g1 g2 g3 Z a0 v1 ∧ (0 : Int) = 0 ∧ (0 ≤ v1 ∧ v1 ≤ 99) ∧ (∀ (r1 : Int) (Z'1 : Zt), (NR g1 v1 g3 r1 ∧ ML g1 g2 (numF g1 v1 g3) Z'1 a0 ∧ RF a0 Z Z'1) → (Rg v2 ∧ (((v2 = 0) → (Q (some (i_ r1)) x Z'1)) ∧ ((v2 ≠ 0) → (Q (some (i_ (-r1))) x Z'1))))))))) :
    V mX12_signed k n 22 [some (r_ a0), some (i_ v1), some (i_ v2), none] [] x Z Q :=
  V_aload_n dX12_signed_22 rfl (V_iconst dX12_signed_23 (V_iload_n dX12_signed_24 rfl (Exists.elim h (fun g1 w1 => Exists.elim w1 (fun g2 w2 => Exists.elim w2 (fun g3 w3 => V_callV (k' := 0) (n' := 0) (t := 12) (q := (RX12, TX12, 46)) [i_ 0, i_ v1] [] okX12_numbered o_a0.1 rfl rfl lm_12_140 liX12_numbered lqX12_numbered (Nat.le_of_ble_eq_true rfl) (Nat.le_of_ble_eq_true rfl) (Nat.le_of_ble_eq_true rfl) (cat_of rfl) (Nat.le_of_ble_eq_true rfl) (Nat.zero_le _) (Nat.zero_le _) rfl dX12_signed_25 (sp_X12_numbered o_a0 w3.1 w3.2.1 w3.2.2.1 (fun r1 Z'1 p1 => V_istore_n (lv' := [some (r_ a0), some (i_ v1), some (i_ v2), some (i_ r1)]) dX12_signed_28 (Nat.le_of_ble_eq_true rfl) rfl (V_iload_n dX12_signed_29 rfl (V_if_eq (tgt := 38) dX12_signed_30 rfl (w3.2.2.2 r1 Z'1 p1).1 (fun c1 => V_iload_n dX12_signed_38 rfl (V_iret (ty := .int) dX12_signed_39 rfl rfl ((w3.2.2.2 r1 Z'1 p1).2.1 c1))) (fun c1 => V_iload_n dX12_signed_33 rfl (V_ineg dX12_signed_34 (V_goto (tgt := 39) dX12_signed_35 rfl (V_iret (ty := .int) dX12_signed_39 rfl rfl ((w3.2.2.2 r1 Z'1 p1).2.2 c1)))))))))))))))
def SR (s : Nat → Int) (c : Int) (f : Nat → Int) (r : Int) : Prop := (-c ≤ r ∧ r ≤ c) ∧ (sgnF s c f 1 = 0 → r = sgnV s f)
theorem sp_X12_signed {k n : Nat} {x : Wx} {Z : Zt} {Q : Option Value → Wx → Zt → Prop} {b : Nat} {c : Int} (o : Is12 x b) {s : Nat → Int} {m : Nat} {f : Nat → Int} (hM : ML s m f Z b) (hc : 0 ≤ c ∧ c ≤ 99) (h : ∀ (r : Int) (Z' : Zt), (SR s c f r ∧ ML s m (sgnF s c f) Z' b ∧ RF b Z Z') → Q (some (i_ r)) x Z') : V mX12_signed k n 0 [some (r_ b), some (i_ c), none, none] [] x Z Q := by
  have fin : ∀ (t : Int) (f1 : Nat → Int) (Z1 : Zt), (t = 0 ∧ f1 = f ∧ f 6 ≠ 3) ∨ (t = 1 ∧ f1 = nxF s f ∧ f 6 = 3) ∨ (f 1 = 1 ∧ f 6 = 5 ∧ f1 = f ∧ (t = 0 ∨ t = 1)) → ML s m f1 Z1 b → RF b Z Z1 → V mX12_signed k n 22 [some (r_ b), some (i_ c), some (i_ t), none] [] x Z1 Q := by
    intro t f1 Z1 ht hM1 hR1
    refine b_X12_signed_22 o ⟨s, m, f1, hM1.w c, rfl, hc, fun r Z2 hz => ?_⟩
    obtain ⟨⟨r1, r2⟩, r3, r4⟩ := hz
    have hN : sgnF s c f = numF s c f1 := by
      rcases ht with ⟨_, e, e6⟩ | ⟨_, e, e6⟩ | ⟨_, e6, e, _⟩
      · unfold sgnF; rw [if_neg e6, e]
      · unfold sgnF; rw [if_pos e6, e]
      · unfold sgnF; rw [if_neg (by omega), e]
    refine ⟨⟨by omega, by omega⟩, fun e => h _ Z2 ⟨⟨by omega, fun e0 => ?_⟩, by rw [hN]; exact r3, hR1.tr r4⟩, fun e => h _ Z2 ⟨⟨by omega, fun e0 => ?_⟩, by rw [hN]; exact r3, hR1.tr r4⟩⟩
    · rw [hN] at e0
      rcases ht with ⟨_, e1, e6⟩ | ⟨e1, _⟩ | ⟨e1, e6, e2, _⟩
      · unfold sgnV; rw [if_neg e6, r2 e0, e1]
      · omega
      · rw [e2, dd_num e1 e6] at e0; omega
    · rw [hN] at e0
      rcases ht with ⟨e1, _⟩ | ⟨_, e1, e6⟩ | ⟨e1, e6, e2, _⟩
      · omega
      · unfold sgnV; rw [if_pos e6, r2 e0, e1]
      · rw [e2, dd_num e1 e6] at e0; omega
  refine b_X12_signed_0 o ⟨hM.w5, fun e => b_X12_signed_13 o ⟨rg_z, fun _ => ?_, fun e2 => absurd rfl e2⟩, fun e => b_X12_signed_13 o ⟨⟨by decide, by decide⟩, fun e2 => absurd e2 (by decide), fun _ => ?_⟩⟩
  · rcases id hM with ⟨hL, hO⟩ | hD
    · refine fin 0 f Z (Or.inl ⟨rfl, rfl, fun e6 => e ?_⟩) hM RF.rf
      obtain ⟨hB, h4, hi, hP, ⟨h1, _⟩, ⟨h3, h7⟩, ⟨ha, hb⟩, ⟨e5, e6'⟩, hk⟩ := hL
      unfold MTk WW at hk
      rw [← e6'] at hk; omega
    · have hd := hD.2.2.2.2.1
      exact fin 0 f Z (Or.inr (Or.inr ⟨hd.1, hd.2.1, rfl, Or.inl rfl⟩)) hM RF.rf
  · rcases hM with ⟨hL, hO⟩ | hD
    · obtain ⟨hB, h4, hi, hP, ⟨h1, _⟩, ⟨h3, h7⟩, ⟨ha, hb⟩, ⟨e5, e6'⟩, hk⟩ := id hL
      have hir := hi.2.1
      have hi4 := hi.1
      have k6 : f 6 = 3 := by
        unfold MTk WW at hk
        rw [← e6'] at hk; omega
      have h75 := hL.gt (by omega)
      refine ⟨s, m, (f 5).toNat, hB, ⟨by rw [h3]; omega, by omega⟩, fun Z1 hA => ?_⟩
      obtain ⟨g1, g2⟩ := hL.nx (fun e0 => by have := hO e0; omega) hA
      exact fin 1 (nxF s f) Z1 (Or.inr (Or.inl ⟨rfl, rfl, k6⟩)) g1 g2
    · have hd := hD.2.2.2.2.1
      obtain ⟨p, hp1, hp2⟩ := hD.2.2.2.2.2.2.1
      refine ⟨s, m, p, hD.1, ⟨hp1, hp2⟩, fun Z1 hA => ?_⟩
      obtain ⟨g1, g2⟩ := hD.nx hp2 hA
      exact fin 1 f Z1 (Or.inr (Or.inr ⟨hd.1, hd.2.1, rfl, Or.inr rfl⟩)) (Or.inr g1) g2
