/-! ===== Curve: small questions, SHARE ===== -/
theorem mul13 {a b : Int} (h1 : 0 ≤ a ∧ a ≤ 13) (h2 : 0 ≤ b ∧ b ≤ 13) : 0 ≤ a * b ∧ a * b ≤ 169 := ⟨Int.mul_nonneg h1.1 h2.1, by have := Int.mul_le_mul h1.2 h2.2 h2.1 (by decide); omega⟩
def fxd (L : List (Int × Int)) (k : Int) : Bool := decide (k + 1 = L.length ∨ (L.getD k.toNat (0, 0)).2 = 0)
/-- how many of the first m are FIXED -/
def fxn (L : List (Int × Int)) : Nat → Int
  | 0 => 0
  | m + 1 => fxn L m + bI (fxd L m)
def pAt (L : List (Int × Int)) (x y : Int) : Nat → Nat → Int
  | 0, _ => -1
  | m + 1, k => if (L.getD k (0, 0)).1 = x ∧ (L.getD k (0, 0)).2 = y then (k : Int) else pAt L x y m (k + 1)
/-- the number of the POINT x, y; or -1 -/
def ptN (L : List (Int × Int)) (x y : Int) : Int := pAt L x y L.length 0
theorem pAt_rg (L : List (Int × Int)) (x y : Int) : ∀ (m k : Nat), -1 ≤ pAt L x y m k ∧ pAt L x y m k < (k + m : Nat) ∧ (pAt L x y m k = -1 ∨ (k : Int) ≤ pAt L x y m k)
  | 0, k => ⟨by show (-1 : Int) ≤ -1; decide, by show (-1 : Int) < _; omega, Or.inl rfl⟩
  | m + 1, k => by
    unfold pAt
    have := pAt_rg L x y m (k + 1)
    split
    · omega
    · omega
def crs (L : List (Int × Int)) (r : Nat → Int) : Nat → Nat → Bool
  | 0, _ => true
  | m + 1, i => if ptN L (r (2 + 3 * i)) (r (3 + 3 * i)) = -1 then false else crs L r m (i + 1)
/-- all POINTS of the SUM lie on the curve -/
def carr (L : List (Int × Int)) (r : Nat → Int) : Bool := crs L r (r 0).toNat 0
def shA (s : Nat → Int) (t : Int) : Nat → Int → Int
  | 0, v => v
  | m + 1, v => shA s t m (v * t + s m)
def PtR (L : List (Int × Int)) : Prop := L.length ≤ 27 ∧ 1 ≤ L.length ∧ ∀ k : Nat, -2 ≤ (L.getD k (0, 0)).1 ∧ (L.getD k (0, 0)).1 ≤ 13 ∧ -2 ≤ (L.getD k (0, 0)).2 ∧ (L.getD k (0, 0)).2 ≤ 13
theorem PtA.rg {Z : Zt} {a : Nat} {L : List (Int × Int)} (h : PtA Z a L) (hr : PtR L) {k : Nat} (hk : k < L.length) : Rg (Z (a + 6) k) ∧ Rg (Z (a + 7) k) := by
  have h1 := h.2 k hk
  have h2 := hr.2.2 k
  rw [h1.1, h1.2]
  exact ⟨⟨by omega, by omega⟩, ⟨by omega, by omega⟩⟩
theorem rowY_mem {p v x : Int} : ∀ (m : Nat) (y : Int) (e : Int × Int), e ∈ rowY p v x m y → e.1 = x ∧ y ≤ e.2 ∧ e.2 < y + m ∧ e.2 * e.2 % p = v
  | 0, y, e, h => by unfold rowY at h; cases h
  | m + 1, y, e, h => by
    unfold rowY at h
    by_cases c : y * y % p = v
    · rw [if_pos c] at h
      rcases List.mem_cons.mp h with h1 | h1
      · subst h1; exact ⟨rfl, by show y ≤ y; omega, by show y < y + (m + 1 : Nat); omega, c⟩
      · have := rowY_mem m (y + 1) e h1
        exact ⟨this.1, by omega, by omega, this.2.2.2⟩
    · rw [if_neg c] at h
      have := rowY_mem m (y + 1) e h
      exact ⟨this.1, by omega, by omega, this.2.2.2⟩
theorem colX_mem {p : Int} {F : Nat → Int} (hp : 0 ≤ p) : ∀ (m : Nat) (x : Int) (e : Int × Int), e ∈ colX p F m x → (x ≤ e.1 ∧ e.1 < x + m) ∧ (0 ≤ e.2 ∧ e.2 < p) ∧ e.2 * e.2 % p = ev p F e.1
  | 0, x, e, h => by unfold colX at h; cases h
  | m + 1, x, e, h => by
    unfold colX at h
    rcases List.mem_append.mp h with h1 | h1
    · have := rowY_mem p.toNat 0 e h1
      exact ⟨⟨by omega, by omega⟩, ⟨by omega, by omega⟩, by rw [this.1]; exact this.2.2.2⟩
    · have := colX_mem hp m (x + 1) e h1
      exact ⟨⟨by omega, by omega⟩, this.2.1, this.2.2⟩
theorem pts_mem {p : Int} {F : Nat → Int} (hp : 0 ≤ p) {e : Int × Int} (h : e ∈ pts p F) : (0 ≤ e.1 ∧ e.1 < p) ∧ (0 ≤ e.2 ∧ e.2 < p) ∧ e.2 * e.2 % p = ev p F e.1 := by
  have := colX_mem hp p.toNat 0 e h
  exact ⟨⟨by omega, by omega⟩, this.2⟩
theorem pall_rg {p : Int} (hp : IsP p) (F : Nat → Int) : PtR (pall p F) := by
  have hl := pall_len hp F
  have hpr := hp.rg
  refine ⟨hl.2, hl.1, fun k => ?_⟩
  rw [List.getD_eq_getElem?_getD]
  cases hk : (pall p F)[k]? with
  | none => show -2 ≤ (0 : Int) ∧ (0 : Int) ≤ 13 ∧ -2 ≤ (0 : Int) ∧ (0 : Int) ≤ 13; decide
  | some e =>
    show -2 ≤ e.1 ∧ e.1 ≤ 13 ∧ -2 ≤ e.2 ∧ e.2 ≤ 13
    have hm := List.mem_of_getElem? hk
    unfold pall at hm
    rcases List.mem_append.mp hm with h1 | h1
    · have := pts_mem (by omega) h1
      omega
    · rw [List.mem_singleton.mp h1]; decide
theorem dX2_hasPoint_0 : decode cX2_hasPoint 0 = .ok (.iload_n 1, 1) := by decide +kernel
theorem dX2_hasPoint_1 : decode cX2_hasPoint 1 = .ok (.ifCond .lt 15, 3) := by decide +kernel
theorem dX2_hasPoint_4 : decode cX2_hasPoint 4 = .ok (.iload_n 1, 1) := by decide +kernel
theorem dX2_hasPoint_5 : decode cX2_hasPoint 5 = .ok (.aload_n 0, 1) := by decide +kernel
theorem dX2_hasPoint_6 : decode cX2_hasPoint 6 = .ok (.getfield 89, 3) := by decide +kernel
theorem dX2_hasPoint_9 : decode cX2_hasPoint 9 = .ok (.if_icmp .ge 7, 3) := by decide +kernel
theorem dX2_hasPoint_12 : decode cX2_hasPoint 12 = .ok (.iconst 1, 1) := by decide +kernel
theorem dX2_hasPoint_13 : decode cX2_hasPoint 13 = .ok (.goto 4, 3) := by decide +kernel
theorem dX2_hasPoint_16 : decode cX2_hasPoint 16 = .ok (.iconst 0, 1) := by decide +kernel
theorem dX2_hasPoint_17 : decode cX2_hasPoint 17 = .ok (.ireturn, 1) := by decide +kernel
set_option maxRecDepth 20000 in
theorem b_X2_hasPoint_0 {k n : Nat} {x : Wx} {Z : Zt} {Q : Option Value → Wx → Zt → Prop} {a0 : Nat} {v1 : Int} (o_a0 : Is2 x a0)
    (h : Rg v1 ∧ (((v1 < 0) → (V mX2_hasPoint k n 16 [none, none] [] x Z Q)) ∧ ((0 ≤ v1) → (Rg (Z a0 3) ∧ (((Z a0 3 ≤ v1) → (V mX2_hasPoint k n 16 [none, none] [] x Z Q)) ∧ ((v1 < Z a0 3) → (Q (some (i_ 1)) x Z))))))) :
    V mX2_hasPoint k n 0 [some (r_ a0), some (i_ v1)] [] x Z Q :=
  V_iload_n dX2_hasPoint_0 rfl (V_if_lt (tgt := 16) dX2_hasPoint_1 rfl h.1 (fun c1 => V_msk [false, false] rfl (h.2.1 c1)) (fun c1 => V_iload_n dX2_hasPoint_4 rfl (V_aload_n dX2_hasPoint_5 rfl (G_2_3 o_a0.1 lf_2_89 dX2_hasPoint_6 (V_icmp_ge (tgt := 16) dX2_hasPoint_9 rfl h.1 (h.2.2 c1).1 (fun c2 => V_msk [false, false] rfl ((h.2.2 c1).2.1 c2)) (fun c2 => V_iconst dX2_hasPoint_12 (V_goto (tgt := 17) dX2_hasPoint_13 rfl (V_iret (ty := .boolean) dX2_hasPoint_17 rfl rfl ((h.2.2 c1).2.2 c2)))))))))
set_option maxRecDepth 20000 in
theorem b_X2_hasPoint_16 {k n : Nat} {x : Wx} {Z : Zt} {Q : Option Value → Wx → Zt → Prop}  
    (h : Q (some (i_ 0)) x Z) :
    V mX2_hasPoint k n 16 [none, none] [] x Z Q :=
  V_iconst dX2_hasPoint_16 (V_iret (ty := .boolean) dX2_hasPoint_17 rfl rfl h)
theorem dX2_isFar_0 : decode cX2_isFar 0 = .ok (.iload_n 1, 1) := by decide +kernel
theorem dX2_isFar_1 : decode cX2_isFar 1 = .ok (.aload_n 0, 1) := by decide +kernel
theorem dX2_isFar_2 : decode cX2_isFar 2 = .ok (.getfield 89, 3) := by decide +kernel
theorem dX2_isFar_5 : decode cX2_isFar 5 = .ok (.iconst 1, 1) := by decide +kernel
theorem dX2_isFar_6 : decode cX2_isFar 6 = .ok (.isub, 1) := by decide +kernel
theorem dX2_isFar_7 : decode cX2_isFar 7 = .ok (.if_icmp .ne 7, 3) := by decide +kernel
theorem dX2_isFar_10 : decode cX2_isFar 10 = .ok (.iconst 1, 1) := by decide +kernel
theorem dX2_isFar_11 : decode cX2_isFar 11 = .ok (.goto 4, 3) := by decide +kernel
theorem dX2_isFar_14 : decode cX2_isFar 14 = .ok (.iconst 0, 1) := by decide +kernel
theorem dX2_isFar_15 : decode cX2_isFar 15 = .ok (.ireturn, 1) := by decide +kernel
set_option maxRecDepth 20000 in
theorem b_X2_isFar_0 {k n : Nat} {x : Wx} {Z : Zt} {Q : Option Value → Wx → Zt → Prop} {a0 : Nat} {v1 : Int} (o_a0 : Is2 x a0)
    (h : Rg v1 ∧ Rg ((Z a0 3) - 1) ∧ (((v1 ≠ (Z a0 3) - 1) → (Q (some (i_ 0)) x Z)) ∧ ((v1 = (Z a0 3) - 1) → (Q (some (i_ 1)) x Z)))) :
    V mX2_isFar k n 0 [some (r_ a0), some (i_ v1)] [] x Z Q :=
  V_iload_n dX2_isFar_0 rfl (V_aload_n dX2_isFar_1 rfl (G_2_3 o_a0.1 lf_2_89 dX2_isFar_2 (V_iconst dX2_isFar_5 (V_isub dX2_isFar_6 (V_icmp_ne (tgt := 14) dX2_isFar_7 rfl h.1 h.2.1 (fun c1 => V_iconst dX2_isFar_14 (V_iret (ty := .boolean) dX2_isFar_15 rfl rfl (h.2.2.1 c1))) (fun c1 => V_iconst dX2_isFar_10 (V_goto (tgt := 15) dX2_isFar_11 rfl (V_iret (ty := .boolean) dX2_isFar_15 rfl rfl (h.2.2.2 c1)))))))))
theorem dX2_pointAt_0 : decode cX2_pointAt 0 = .ok (.iconst 0, 1) := by decide +kernel
theorem dX2_pointAt_1 : decode cX2_pointAt 1 = .ok (.istore_n 3, 1) := by decide +kernel
theorem dX2_pointAt_2 : decode cX2_pointAt 2 = .ok (.iload_n 3, 1) := by decide +kernel
theorem dX2_pointAt_3 : decode cX2_pointAt 3 = .ok (.aload_n 0, 1) := by decide +kernel
theorem dX2_pointAt_4 : decode cX2_pointAt 4 = .ok (.getfield 89, 3) := by decide +kernel
theorem dX2_pointAt_7 : decode cX2_pointAt 7 = .ok (.if_icmp .ge 31, 3) := by decide +kernel
theorem dX2_pointAt_10 : decode cX2_pointAt 10 = .ok (.aload_n 0, 1) := by decide +kernel
theorem dX2_pointAt_11 : decode cX2_pointAt 11 = .ok (.getfield 25, 3) := by decide +kernel
theorem dX2_pointAt_14 : decode cX2_pointAt 14 = .ok (.iload_n 3, 1) := by decide +kernel
theorem dX2_pointAt_15 : decode cX2_pointAt 15 = .ok (.iaload, 1) := by decide +kernel
theorem dX2_pointAt_16 : decode cX2_pointAt 16 = .ok (.iload_n 1, 1) := by decide +kernel
theorem dX2_pointAt_17 : decode cX2_pointAt 17 = .ok (.if_icmp .ne 15, 3) := by decide +kernel
theorem dX2_pointAt_20 : decode cX2_pointAt 20 = .ok (.aload_n 0, 1) := by decide +kernel
theorem dX2_pointAt_21 : decode cX2_pointAt 21 = .ok (.getfield 29, 3) := by decide +kernel
theorem dX2_pointAt_24 : decode cX2_pointAt 24 = .ok (.iload_n 3, 1) := by decide +kernel
theorem dX2_pointAt_25 : decode cX2_pointAt 25 = .ok (.iaload, 1) := by decide +kernel
theorem dX2_pointAt_26 : decode cX2_pointAt 26 = .ok (.iload_n 2, 1) := by decide +kernel
theorem dX2_pointAt_27 : decode cX2_pointAt 27 = .ok (.if_icmp .ne 5, 3) := by decide +kernel
theorem dX2_pointAt_30 : decode cX2_pointAt 30 = .ok (.iload_n 3, 1) := by decide +kernel
theorem dX2_pointAt_31 : decode cX2_pointAt 31 = .ok (.ireturn, 1) := by decide +kernel
theorem dX2_pointAt_32 : decode cX2_pointAt 32 = .ok (.iinc 3 1, 3) := by decide +kernel
theorem dX2_pointAt_35 : decode cX2_pointAt 35 = .ok (.goto (-33), 3) := by decide +kernel
theorem dX2_pointAt_38 : decode cX2_pointAt 38 = .ok (.iconst (-1), 1) := by decide +kernel
theorem dX2_pointAt_39 : decode cX2_pointAt 39 = .ok (.ireturn, 1) := by decide +kernel
set_option maxRecDepth 20000 in
theorem b_X2_pointAt_0 {k n : Nat} {x : Wx} {Z : Zt} {Q : Option Value → Wx → Zt → Prop} {a0 : Nat} {v1 : Int} {v2 : Int} 
    (h : V mX2_pointAt k n 2 [some (r_ a0), some (i_ v1), some (i_ v2), some (i_ 0)] [] x Z Q) :
    V mX2_pointAt k n 0 [some (r_ a0), some (i_ v1), some (i_ v2), none] [] x Z Q :=
  V_iconst dX2_pointAt_0 (V_istore_n (lv' := [some (r_ a0), some (i_ v1), some (i_ v2), some (i_ 0)]) dX2_pointAt_1 (Nat.le_of_ble_eq_true rfl) rfl (V_msk [true, true, true, true] rfl h))
set_option maxRecDepth 20000 in
theorem b_X2_pointAt_2 {k n : Nat} {x : Wx} {Z : Zt} {Q : Option Value → Wx → Zt → Prop} {a0 : Nat} {v1 : Int} {v2 : Int} {v3 : Int} (o_a0 : Is2 x a0)
    (h : Rg v3 ∧ Rg (Z a0 3) ∧ (((Z a0 3 ≤ v3) → (Q (some (i_ (-1))) x Z)) ∧ ((v3 < Z a0 3) → (0 ≤ v3 ∧ v3 < 27 ∧ (Rg (Z (a0 + 6) v3.toNat) ∧ Rg v1 ∧ (((Z (a0 + 6) v3.toNat ≠ v1) → (V mX2_pointAt k n 32 [some (r_ a0), some (i_ v1), some (i_ v2), some (i_ v3)] [] x Z Q)) ∧ ((Z (a0 + 6) v3.toNat = v1) → (Rg (Z (a0 + 7) v3.toNat) ∧ Rg v2 ∧ (((Z (a0 + 7) v3.toNat ≠ v2) → (V mX2_pointAt k n 32 [some (r_ a0), some (i_ v1), some (i_ v2), some (i_ v3)] [] x Z Q)) ∧ ((Z (a0 + 7) v3.toNat = v2) → (Q (some (i_ v3)) x Z))))))))))) :
    V mX2_pointAt k n 2 [some (r_ a0), some (i_ v1), some (i_ v2), some (i_ v3)] [] x Z Q :=
  V_iload_n dX2_pointAt_2 rfl (V_aload_n dX2_pointAt_3 rfl (G_2_3 o_a0.1 lf_2_89 dX2_pointAt_4 (V_icmp_ge (tgt := 38) dX2_pointAt_7 rfl h.1 h.2.1 (fun c1 => V_iconst dX2_pointAt_38 (V_iret (ty := .int) dX2_pointAt_39 rfl rfl (h.2.2.1 c1))) (fun c1 => V_aload_n dX2_pointAt_10 rfl (G_2_4 o_a0.1 o_a0.2.2.2.2.2.1 lf_2_25 dX2_pointAt_11 (V_iload_n dX2_pointAt_14 rfl (V_iald (t := 100) o_a0.2.2.2.2.2.2.1 (by decide) rfl (h.2.2.2 c1).1 (h.2.2.2 c1).2.1 (Nat.le_of_ble_eq_true rfl) dX2_pointAt_15 (V_iload_n dX2_pointAt_16 rfl (V_icmp_ne (tgt := 32) dX2_pointAt_17 rfl (h.2.2.2 c1).2.2.1 (h.2.2.2 c1).2.2.2.1 (fun c2 => V_msk [true, true, true, true] rfl ((h.2.2.2 c1).2.2.2.2.1 c2)) (fun c2 => V_aload_n dX2_pointAt_20 rfl (G_2_5 o_a0.1 o_a0.2.2.2.2.2.2.2.1 lf_2_29 dX2_pointAt_21 (V_iload_n dX2_pointAt_24 rfl (V_iald (t := 100) o_a0.2.2.2.2.2.2.2.2.1 (by decide) rfl (h.2.2.2 c1).1 (h.2.2.2 c1).2.1 (Nat.le_of_ble_eq_true rfl) dX2_pointAt_25 (V_iload_n dX2_pointAt_26 rfl (V_icmp_ne (tgt := 32) dX2_pointAt_27 rfl ((h.2.2.2 c1).2.2.2.2.2 c2).1 ((h.2.2.2 c1).2.2.2.2.2 c2).2.1 (fun c3 => V_msk [true, true, true, true] rfl (((h.2.2.2 c1).2.2.2.2.2 c2).2.2.1 c3)) (fun c3 => V_iload_n dX2_pointAt_30 rfl (V_iret (ty := .int) dX2_pointAt_31 rfl rfl (((h.2.2.2 c1).2.2.2.2.2 c2).2.2.2 c3))))))))))))))))))
set_option maxRecDepth 20000 in
theorem b_X2_pointAt_32 {k n : Nat} {x : Wx} {Z : Zt} {Q : Option Value → Wx → Zt → Prop} {a0 : Nat} {v1 : Int} {v2 : Int} {v3 : Int} 
    (h : V mX2_pointAt k n 2 [some (r_ a0), some (i_ v1), some (i_ v2), some (i_ (v3 + 1))] [] x Z Q) :
    V mX2_pointAt k n 32 [some (r_ a0), some (i_ v1), some (i_ v2), some (i_ v3)] [] x Z Q :=
  V_iinc (lv' := [some (r_ a0), some (i_ v1), some (i_ v2), some (i_ (v3 + 1))]) dX2_pointAt_32 rfl (Nat.le_of_ble_eq_true rfl) rfl (V_goto (tgt := 2) dX2_pointAt_35 rfl (V_msk [true, true, true, true] rfl h))
theorem dX2_shareAt_0 : decode cX2_shareAt 0 = .ok (.iconst 0, 1) := by decide +kernel
theorem dX2_shareAt_1 : decode cX2_shareAt 1 = .ok (.istore_n 2, 1) := by decide +kernel
theorem dX2_shareAt_2 : decode cX2_shareAt 2 = .ok (.iconst 2, 1) := by decide +kernel
theorem dX2_shareAt_3 : decode cX2_shareAt 3 = .ok (.aload_n 0, 1) := by decide +kernel
theorem dX2_shareAt_4 : decode cX2_shareAt 4 = .ok (.getfield 69, 3) := by decide +kernel
theorem dX2_shareAt_7 : decode cX2_shareAt 7 = .ok (.imul, 1) := by decide +kernel
theorem dX2_shareAt_8 : decode cX2_shareAt 8 = .ok (.istore_n 3, 1) := by decide +kernel
theorem dX2_shareAt_9 : decode cX2_shareAt 9 = .ok (.iload_n 3, 1) := by decide +kernel
theorem dX2_shareAt_10 : decode cX2_shareAt 10 = .ok (.ifCond .lt 20, 3) := by decide +kernel
theorem dX2_shareAt_13 : decode cX2_shareAt 13 = .ok (.iload_n 2, 1) := by decide +kernel
theorem dX2_shareAt_14 : decode cX2_shareAt 14 = .ok (.iload_n 1, 1) := by decide +kernel
theorem dX2_shareAt_15 : decode cX2_shareAt 15 = .ok (.imul, 1) := by decide +kernel
theorem dX2_shareAt_16 : decode cX2_shareAt 16 = .ok (.aload_n 0, 1) := by decide +kernel
theorem dX2_shareAt_17 : decode cX2_shareAt 17 = .ok (.getfield 32, 3) := by decide +kernel
theorem dX2_shareAt_20 : decode cX2_shareAt 20 = .ok (.iload_n 3, 1) := by decide +kernel
theorem dX2_shareAt_21 : decode cX2_shareAt 21 = .ok (.iaload, 1) := by decide +kernel
theorem dX2_shareAt_22 : decode cX2_shareAt 22 = .ok (.iadd, 1) := by decide +kernel
theorem dX2_shareAt_23 : decode cX2_shareAt 23 = .ok (.istore_n 2, 1) := by decide +kernel
theorem dX2_shareAt_24 : decode cX2_shareAt 24 = .ok (.iinc 3 (-1), 3) := by decide +kernel
theorem dX2_shareAt_27 : decode cX2_shareAt 27 = .ok (.goto (-18), 3) := by decide +kernel
theorem dX2_shareAt_30 : decode cX2_shareAt 30 = .ok (.iload_n 2, 1) := by decide +kernel
theorem dX2_shareAt_31 : decode cX2_shareAt 31 = .ok (.ireturn, 1) := by decide +kernel
set_option maxRecDepth 20000 in
theorem b_X2_shareAt_0 {k n : Nat} {x : Wx} {Z : Zt} {Q : Option Value → Wx → Zt → Prop} {a0 : Nat} {v1 : Int} (o_a0 : Is2 x a0)
    (h : V mX2_shareAt k n 9 [some (r_ a0), some (i_ v1), some (i_ 0), some (i_ (2 * (Z a0 2)))] [] x Z Q) :
    V mX2_shareAt k n 0 [some (r_ a0), some (i_ v1), none, none] [] x Z Q :=
  V_iconst dX2_shareAt_0 (V_istore_n (lv' := [some (r_ a0), some (i_ v1), some (i_ 0), none]) dX2_shareAt_1 (Nat.le_of_ble_eq_true rfl) rfl (V_iconst dX2_shareAt_2 (V_aload_n dX2_shareAt_3 rfl (G_2_2 o_a0.1 lf_2_69 dX2_shareAt_4 (V_imul dX2_shareAt_7 (V_istore_n (lv' := [some (r_ a0), some (i_ v1), some (i_ 0), some (i_ (2 * (Z a0 2)))]) dX2_shareAt_8 (Nat.le_of_ble_eq_true rfl) rfl (V_msk [true, true, true, true] rfl h)))))))
set_option maxRecDepth 20000 in
theorem b_X2_shareAt_9 {k n : Nat} {x : Wx} {Z : Zt} {Q : Option Value → Wx → Zt → Prop} {a0 : Nat} {v1 : Int} {v2 : Int} {v3 : Int} (o_a0 : Is2 x a0)
    (h : Rg v3 ∧ (((v3 < 0) → (Q (some (i_ v2)) x Z)) ∧ ((0 ≤ v3) → (v3 < 5 ∧ (V mX2_shareAt k n 9 [some (r_ a0), some (i_ v1), some (i_ ((v2 * v1) + (Z (a0 + 8) v3.toNat))), some (i_ (v3 + (-1)))] [] x Z Q))))) :
    V mX2_shareAt k n 9 [some (r_ a0), some (i_ v1), some (i_ v2), some (i_ v3)] [] x Z Q :=
  V_iload_n dX2_shareAt_9 rfl (V_if_lt (tgt := 30) dX2_shareAt_10 rfl h.1 (fun c1 => V_iload_n dX2_shareAt_30 rfl (V_iret (ty := .int) dX2_shareAt_31 rfl rfl (h.2.1 c1))) (fun c1 => V_iload_n dX2_shareAt_13 rfl (V_iload_n dX2_shareAt_14 rfl (V_imul dX2_shareAt_15 (V_aload_n dX2_shareAt_16 rfl (G_2_6 o_a0.1 o_a0.2.2.2.2.2.2.2.2.2.1 lf_2_32 dX2_shareAt_17 (V_iload_n dX2_shareAt_20 rfl (V_iald (t := 100) o_a0.2.2.2.2.2.2.2.2.2.2.1 (by decide) rfl c1 (h.2.2 c1).1 (Nat.le_of_ble_eq_true rfl) dX2_shareAt_21 (V_iadd dX2_shareAt_22 (V_istore_n (lv' := [some (r_ a0), some (i_ v1), some (i_ ((v2 * v1) + (Z (a0 + 8) v3.toNat))), some (i_ v3)]) dX2_shareAt_23 (Nat.le_of_ble_eq_true rfl) rfl (V_iinc (lv' := [some (r_ a0), some (i_ v1), some (i_ ((v2 * v1) + (Z (a0 + 8) v3.toNat))), some (i_ (v3 + (-1)))]) dX2_shareAt_24 rfl (Nat.le_of_ble_eq_true rfl) rfl (V_goto (tgt := 9) dX2_shareAt_27 rfl (V_msk [true, true, true, true] rfl (h.2.2 c1).2)))))))))))))
theorem sp_X2_hasPoint {k n : Nat} {x : Wx} {Z : Zt} {Q : Option Value → Wx → Zt → Prop} {a : Nat} {v : Int} (o : Is2 x a) (hv : Rg v) (hn : Rg (Z a 3)) (h : Q (some (i_ (bI (decide (0 ≤ v ∧ v < Z a 3))))) x Z) : V mX2_hasPoint k n 0 [some (r_ a), some (i_ v)] [] x Z Q := by
  unfold bI at h
  refine b_X2_hasPoint_0 o ⟨hv, fun c => b_X2_hasPoint_16 ?_, fun c => ⟨hn, fun c2 => b_X2_hasPoint_16 ?_, fun c2 => ?_⟩⟩
  · rw [if_neg (by rw [decide_eq_true_eq]; omega)] at h; exact h
  · rw [if_neg (by rw [decide_eq_true_eq]; omega)] at h; exact h
  · rw [if_pos (by rw [decide_eq_true_eq]; omega)] at h; exact h
theorem sp_X2_isFar {k n : Nat} {x : Wx} {Z : Zt} {Q : Option Value → Wx → Zt → Prop} {a : Nat} {v : Int} (o : Is2 x a) (hv : Rg v) (hn : Rg (Z a 3 - 1)) (h : Q (some (i_ (bI (decide (v = Z a 3 - 1))))) x Z) : V mX2_isFar k n 0 [some (r_ a), some (i_ v)] [] x Z Q := by
  unfold bI at h
  refine b_X2_isFar_0 o ⟨hv, hn, fun c => ?_, fun c => ?_⟩
  · rw [if_neg (by rw [decide_eq_true_eq]; omega)] at h; exact h
  · rw [if_pos (by rw [decide_eq_true_eq]; omega)] at h; exact h
theorem sp_X2_pointAt {k n : Nat} {x : Wx} {Z : Zt} {Q : Option Value → Wx → Zt → Prop} {a : Nat} {u v : Int} (o : Is2 x a) {L : List (Int × Int)} (hu : Rg u) (hv : Rg v) (hL : PtA Z a L) (hr : PtR L) (h : Q (some (i_ (ptN L u v))) x Z) : V mX2_pointAt k n 0 [some (r_ a), some (i_ u), some (i_ v), none] [] x Z Q := by
  have h3 := hL.1
  have hl := hr.1
  have lp : ∀ (m i : Nat) (w : Int), w = i → i + m = L.length → pAt L u v m i = ptN L u v → V mX2_pointAt k n 2 [some (r_ a), some (i_ u), some (i_ v), some (i_ w)] [] x Z Q := by
    intro m
    induction m with
    | zero =>
      intro i w hw hm he
      refine b_X2_pointAt_2 o ⟨⟨by omega, by omega⟩, ⟨by omega, by omega⟩, fun _ => ?_, fun c => by omega⟩
      rw [← he] at h; exact h
    | succ m ih =>
      intro i w hw hm he
      have hi : w.toNat = i := by omega
      have hg := hL.2 i (by omega)
      have hrg := hL.rg hr (k := i) (by omega)
      unfold pAt at he
      refine b_X2_pointAt_2 o ?_
      rw [hi, hg.1, hg.2]
      rw [hg.1, hg.2] at hrg
      refine ⟨⟨by omega, by omega⟩, ⟨by omega, by omega⟩, fun c => by omega, fun _ => ⟨by omega, by omega, hrg.1, hu, fun c => b_X2_pointAt_32 (ih (i + 1) _ (by omega) (by omega) ?_), fun c => ⟨hrg.2, hv, fun c2 => b_X2_pointAt_32 (ih (i + 1) _ (by omega) (by omega) ?_), fun c2 => ?_⟩⟩⟩
      · rw [if_neg (fun e => c e.1)] at he; exact he
      · rw [if_neg (fun e => c2 e.2)] at he; exact he
      · rw [if_pos ⟨c, c2⟩] at he
        rw [← he] at h
        rw [hw]; exact h
  exact b_X2_pointAt_0 (lp L.length 0 0 rfl (by omega) rfl)
theorem sp_X2_shareAt {k n : Nat} {x : Wx} {Z : Zt} {Q : Option Value → Wx → Zt → Prop} {a : Nat} {t : Int} (o : Is2 x a) (hg : 1 ≤ Z a 2 ∧ Z a 2 ≤ 2) (h : Q (some (i_ (shA (Z (a + 8)) t (2 * Z a 2 + 1).toNat 0))) x Z) : V mX2_shareAt k n 0 [some (r_ a), some (i_ t), none, none] [] x Z Q := by
  have lp : ∀ (m : Nat) (v w : Int), w + 1 = m → m ≤ 5 → Q (some (i_ (shA (Z (a + 8)) t m v))) x Z → V mX2_shareAt k n 9 [some (r_ a), some (i_ t), some (i_ v), some (i_ w)] [] x Z Q := by
    intro m
    induction m with
    | zero =>
      intro v w hw hm hQ
      exact b_X2_shareAt_9 o ⟨⟨by omega, by omega⟩, fun _ => hQ, fun c => by omega⟩
    | succ m ih =>
      intro v w hw hm hQ
      refine b_X2_shareAt_9 o ⟨⟨by omega, by omega⟩, fun c => by omega, fun _ => ⟨by omega, ih _ _ (by omega) (by omega) ?_⟩⟩
      rw [show w.toNat = m by omega]
      exact hQ
  exact b_X2_shareAt_0 o (lp (2 * Z a 2 + 1).toNat 0 (2 * Z a 2) (by omega) (by omega) h)
theorem dX2_isFixed_0 : decode cX2_isFixed 0 = .ok (.aload_n 0, 1) := by decide +kernel
theorem dX2_isFixed_1 : decode cX2_isFixed 1 = .ok (.iload_n 1, 1) := by decide +kernel
theorem dX2_isFixed_2 : decode cX2_isFixed 2 = .ok (.invokevirtual 92, 3) := by decide +kernel
theorem dX2_isFixed_5 : decode cX2_isFixed 5 = .ok (.ifCond .ne 12, 3) := by decide +kernel
theorem dX2_isFixed_8 : decode cX2_isFixed 8 = .ok (.aload_n 0, 1) := by decide +kernel
theorem dX2_isFixed_9 : decode cX2_isFixed 9 = .ok (.getfield 29, 3) := by decide +kernel
theorem dX2_isFixed_12 : decode cX2_isFixed 12 = .ok (.iload_n 1, 1) := by decide +kernel
theorem dX2_isFixed_13 : decode cX2_isFixed 13 = .ok (.iaload, 1) := by decide +kernel
theorem dX2_isFixed_14 : decode cX2_isFixed 14 = .ok (.ifCond .ne 7, 3) := by decide +kernel
theorem dX2_isFixed_17 : decode cX2_isFixed 17 = .ok (.iconst 1, 1) := by decide +kernel
theorem dX2_isFixed_18 : decode cX2_isFixed 18 = .ok (.goto 4, 3) := by decide +kernel
theorem dX2_isFixed_21 : decode cX2_isFixed 21 = .ok (.iconst 0, 1) := by decide +kernel
theorem dX2_isFixed_22 : decode cX2_isFixed 22 = .ok (.ireturn, 1) := by decide +kernel
set_option maxRecDepth 20000 in
theorem b_X2_isFixed_0 {k n : Nat} {x : Wx} {Z : Zt} {Q : Option Value → Wx → Zt → Prop} {a0 : Nat} {v1 : Int} (o_a0 : Is2 x a0)
    (h : Rg v1 ∧ Rg ((Z a0 3) - 1) ∧ (Rg (bI (decide (v1 = Z a0 3 - 1))) ∧ (((bI (decide (v1 = Z a0 3 - 1)) ≠ 0) → (V mX2_isFixed k n 17 [none, none] [] x Z Q)) ∧ ((bI (decide (v1 = Z a0 3 - 1)) = 0) → (0 ≤ v1 ∧ v1 < 27 ∧ (Rg (Z (a0 + 7) v1.toNat) ∧ (((Z (a0 + 7) v1.toNat ≠ 0) → (Q (some (i_ 0)) x Z)) ∧ ((Z (a0 + 7) v1.toNat = 0) → (V mX2_isFixed k n 17 [none, none] [] x Z Q))))))))) :
    V mX2_isFixed k n 0 [some (r_ a0), some (i_ v1)] [] x Z Q :=
  V_aload_n dX2_isFixed_0 rfl (V_iload_n dX2_isFixed_1 rfl (V_callV (k' := 0) (n' := 0) (t := 2) (q := (RX2, TX2, 17)) [i_ v1] [] okX2_isFar o_a0.1 rfl rfl lm_2_92 liX2_isFar lqX2_isFar (Nat.le_of_ble_eq_true rfl) (Nat.le_of_ble_eq_true rfl) (Nat.le_of_ble_eq_true rfl) (cat_of rfl) (Nat.le_of_ble_eq_true rfl) (Nat.zero_le _) (Nat.zero_le _) rfl dX2_isFixed_2 (sp_X2_isFar o_a0 h.1 h.2.1 (V_if_ne (tgt := 17) dX2_isFixed_5 rfl h.2.2.1 (fun c1 => V_msk [false, false] rfl (h.2.2.2.1 c1)) (fun c1 => V_aload_n dX2_isFixed_8 rfl (G_2_5 o_a0.1 o_a0.2.2.2.2.2.2.2.1 lf_2_29 dX2_isFixed_9 (V_iload_n dX2_isFixed_12 rfl (V_iald (t := 100) o_a0.2.2.2.2.2.2.2.2.1 (by decide) rfl (h.2.2.2.2 c1).1 (h.2.2.2.2 c1).2.1 (Nat.le_of_ble_eq_true rfl) dX2_isFixed_13 (V_if_ne (tgt := 21) dX2_isFixed_14 rfl (h.2.2.2.2 c1).2.2.1 (fun c2 => V_iconst dX2_isFixed_21 (V_iret (ty := .boolean) dX2_isFixed_22 rfl rfl ((h.2.2.2.2 c1).2.2.2.1 c2))) (fun c2 => V_msk [false, false] rfl ((h.2.2.2.2 c1).2.2.2.2 c2)))))))))))
set_option maxRecDepth 20000 in
theorem b_X2_isFixed_17 {k n : Nat} {x : Wx} {Z : Zt} {Q : Option Value → Wx → Zt → Prop}  
    (h : Q (some (i_ 1)) x Z) :
    V mX2_isFixed k n 17 [none, none] [] x Z Q :=
  V_iconst dX2_isFixed_17 (V_goto (tgt := 22) dX2_isFixed_18 rfl (V_iret (ty := .boolean) dX2_isFixed_22 rfl rfl h))
theorem dX2_carries_0 : decode cX2_carries 0 = .ok (.iconst 0, 1) := by decide +kernel
theorem dX2_carries_1 : decode cX2_carries 1 = .ok (.istore_n 2, 1) := by decide +kernel
theorem dX2_carries_2 : decode cX2_carries 2 = .ok (.iload_n 2, 1) := by decide +kernel
theorem dX2_carries_3 : decode cX2_carries 3 = .ok (.aload_n 1, 1) := by decide +kernel
theorem dX2_carries_4 : decode cX2_carries 4 = .ok (.iconst 0, 1) := by decide +kernel
theorem dX2_carries_5 : decode cX2_carries 5 = .ok (.iaload, 1) := by decide +kernel
theorem dX2_carries_6 : decode cX2_carries 6 = .ok (.if_icmp .ge 39, 3) := by decide +kernel
theorem dX2_carries_9 : decode cX2_carries 9 = .ok (.iload_n 2, 1) := by decide +kernel
theorem dX2_carries_10 : decode cX2_carries 10 = .ok (.bipush 8, 2) := by decide +kernel
theorem dX2_carries_12 : decode cX2_carries 12 = .ok (.if_icmp .ge 33, 3) := by decide +kernel
theorem dX2_carries_15 : decode cX2_carries 15 = .ok (.iconst 2, 1) := by decide +kernel
theorem dX2_carries_16 : decode cX2_carries 16 = .ok (.iconst 3, 1) := by decide +kernel
theorem dX2_carries_17 : decode cX2_carries 17 = .ok (.iload_n 2, 1) := by decide +kernel
theorem dX2_carries_18 : decode cX2_carries 18 = .ok (.imul, 1) := by decide +kernel
theorem dX2_carries_19 : decode cX2_carries 19 = .ok (.iadd, 1) := by decide +kernel
theorem dX2_carries_20 : decode cX2_carries 20 = .ok (.istore_n 3, 1) := by decide +kernel
theorem dX2_carries_21 : decode cX2_carries 21 = .ok (.aload_n 0, 1) := by decide +kernel
theorem dX2_carries_22 : decode cX2_carries 22 = .ok (.aload_n 1, 1) := by decide +kernel
theorem dX2_carries_23 : decode cX2_carries 23 = .ok (.iload_n 3, 1) := by decide +kernel
theorem dX2_carries_24 : decode cX2_carries 24 = .ok (.iaload, 1) := by decide +kernel
theorem dX2_carries_25 : decode cX2_carries 25 = .ok (.aload_n 1, 1) := by decide +kernel
theorem dX2_carries_26 : decode cX2_carries 26 = .ok (.iload_n 3, 1) := by decide +kernel
theorem dX2_carries_27 : decode cX2_carries 27 = .ok (.iconst 1, 1) := by decide +kernel
theorem dX2_carries_28 : decode cX2_carries 28 = .ok (.iadd, 1) := by decide +kernel
theorem dX2_carries_29 : decode cX2_carries 29 = .ok (.iaload, 1) := by decide +kernel
theorem dX2_carries_30 : decode cX2_carries 30 = .ok (.invokevirtual 98, 3) := by decide +kernel
theorem dX2_carries_33 : decode cX2_carries 33 = .ok (.iconst (-1), 1) := by decide +kernel
theorem dX2_carries_34 : decode cX2_carries 34 = .ok (.if_icmp .ne 5, 3) := by decide +kernel
theorem dX2_carries_37 : decode cX2_carries 37 = .ok (.iconst 0, 1) := by decide +kernel
theorem dX2_carries_38 : decode cX2_carries 38 = .ok (.ireturn, 1) := by decide +kernel
theorem dX2_carries_39 : decode cX2_carries 39 = .ok (.iinc 2 1, 3) := by decide +kernel
theorem dX2_carries_42 : decode cX2_carries 42 = .ok (.goto (-40), 3) := by decide +kernel
theorem dX2_carries_45 : decode cX2_carries 45 = .ok (.iconst 1, 1) := by decide +kernel
theorem dX2_carries_46 : decode cX2_carries 46 = .ok (.ireturn, 1) := by decide +kernel
set_option maxRecDepth 20000 in
theorem b_X2_carries_0 {k n : Nat} {x : Wx} {Z : Zt} {Q : Option Value → Wx → Zt → Prop} {a0 : Nat} {a1 : Nat} 
    (h : V mX2_carries k n 2 [some (r_ a0), some (r_ a1), some (i_ 0), none] [] x Z Q) :
    V mX2_carries k n 0 [some (r_ a0), some (r_ a1), none, none] [] x Z Q :=
  V_iconst dX2_carries_0 (V_istore_n (lv' := [some (r_ a0), some (r_ a1), some (i_ 0), none]) dX2_carries_1 (Nat.le_of_ble_eq_true rfl) rfl (V_msk [true, true, true, false] rfl h))
set_option maxRecDepth 20000 in
theorem b_X2_carries_2 {k n : Nat} {x : Wx} {Z : Zt} {Q : Option Value → Wx → Zt → Prop} {a0 : Nat} {a1 : Nat} {v2 : Int} (o_a0 : Is2 x a0) (s_a1 : x.1 a1 = some (100, 26))
    (h : Rg v2 ∧ Rg (Z a1 0) ∧ (((Z a1 0 ≤ v2) → (V mX2_carries k n 45 [none, none, none, none] [] x Z Q)) ∧ ((v2 < Z a1 0) → (((8 ≤ v2) → (V mX2_carries k n 45 [none, none, none, none] [] x Z Q)) ∧ ((v2 < 8) → (0 ≤ 2 + (3 * v2) ∧ 2 + (3 * v2) < 26 ∧ (0 ≤ (2 + (3 * v2)) + 1 ∧ (2 + (3 * v2)) + 1 < 26 ∧ (∃ g1 : List (Int × Int), (Rg (Z a1 (2 + (3 * v2)).toNat) ∧ Rg (Z a1 ((2 + (3 * v2)) + 1).toNat) ∧ PtA Z a0 g1 ∧ PtR g1 ∧ (Rg (ptN g1 (Z a1 (2 + (3 * v2)).toNat) (Z a1 ((2 + (3 * v2)) + 1).toNat)) ∧ (((ptN g1 (Z a1 (2 + (3 * v2)).toNat) (Z a1 ((2 + (3 * v2)) + 1).toNat) ≠ (-1)) → (V mX2_carries k n 2 [some (r_ a0), some (r_ a1), some (i_ (v2 + 1)), none] [] x Z Q)) ∧ ((ptN g1 (Z a1 (2 + (3 * v2)).toNat) (Z a1 ((2 + (3 * v2)) + 1).toNat) = (-1)) → (Q (some (i_ 0)) x Z))))))))))))) :
    V mX2_carries k n 2 [some (r_ a0), some (r_ a1), some (i_ v2), none] [] x Z Q :=
  V_iload_n dX2_carries_2 rfl (V_aload_n dX2_carries_3 rfl (V_iconst dX2_carries_4 (V_iald (t := 100) s_a1 (by decide) rfl (by decide) (by decide) (Nat.le_of_ble_eq_true rfl) dX2_carries_5 (V_icmp_ge (tgt := 45) dX2_carries_6 rfl h.1 h.2.1 (fun c1 => V_msk [false, false, false, false] rfl (h.2.2.1 c1)) (fun c1 => V_iload_n dX2_carries_9 rfl (V_bipush dX2_carries_10 rfl (V_icmp_ge (tgt := 45) dX2_carries_12 rfl h.1 (rg_c rfl) (fun c2 => V_msk [false, false, false, false] rfl ((h.2.2.2 c1).1 c2)) (fun c2 => V_iconst dX2_carries_15 (V_iconst dX2_carries_16 (V_iload_n dX2_carries_17 rfl (V_imul dX2_carries_18 (V_iadd dX2_carries_19 (V_istore_n (lv' := [some (r_ a0), some (r_ a1), some (i_ v2), some (i_ (2 + (3 * v2)))]) dX2_carries_20 (Nat.le_of_ble_eq_true rfl) rfl (V_aload_n dX2_carries_21 rfl (V_aload_n dX2_carries_22 rfl (V_iload_n dX2_carries_23 rfl (V_iald (t := 100) s_a1 (by decide) rfl ((h.2.2.2 c1).2 c2).1 ((h.2.2.2 c1).2 c2).2.1 (Nat.le_of_ble_eq_true rfl) dX2_carries_24 (V_aload_n dX2_carries_25 rfl (V_iload_n dX2_carries_26 rfl (V_iconst dX2_carries_27 (V_iadd dX2_carries_28 (V_iald (t := 100) s_a1 (by decide) rfl ((h.2.2.2 c1).2 c2).2.2.1 ((h.2.2.2 c1).2 c2).2.2.2.1 (Nat.le_of_ble_eq_true rfl) dX2_carries_29 (Exists.elim ((h.2.2.2 c1).2 c2).2.2.2.2 (fun g1 w1 => V_callV (k' := 0) (n' := 0) (t := 2) (q := (RX2, TX2, 17)) [i_ (Z a1 (2 + (3 * v2)).toNat), i_ (Z a1 ((2 + (3 * v2)) + 1).toNat)] [] okX2_pointAt o_a0.1 rfl rfl lm_2_98 liX2_pointAt lqX2_pointAt (Nat.le_of_ble_eq_true rfl) (Nat.le_of_ble_eq_true rfl) (Nat.le_of_ble_eq_true rfl) (cat_of rfl) (Nat.le_of_ble_eq_true rfl) (Nat.zero_le _) (Nat.zero_le _) rfl dX2_carries_30 (sp_X2_pointAt o_a0 w1.1 w1.2.1 w1.2.2.1 w1.2.2.2.1 (V_iconst dX2_carries_33 (V_icmp_ne (tgt := 39) dX2_carries_34 rfl w1.2.2.2.2.1 (rg_c rfl) (fun c3 => V_iinc (lv' := [some (r_ a0), some (r_ a1), some (i_ (v2 + 1)), some (i_ (2 + (3 * v2)))]) dX2_carries_39 rfl (Nat.le_of_ble_eq_true rfl) rfl (V_goto (tgt := 2) dX2_carries_42 rfl (V_msk [true, true, true, false] rfl (w1.2.2.2.2.2.1 c3)))) (fun c3 => V_iconst dX2_carries_37 (V_iret (ty := .boolean) dX2_carries_38 rfl rfl (w1.2.2.2.2.2.2 c3))))))))))))))))))))))))))))))
set_option maxRecDepth 20000 in
theorem b_X2_carries_45 {k n : Nat} {x : Wx} {Z : Zt} {Q : Option Value → Wx → Zt → Prop}  
    (h : Q (some (i_ 1)) x Z) :
    V mX2_carries k n 45 [none, none, none, none] [] x Z Q :=
  V_iconst dX2_carries_45 (V_iret (ty := .boolean) dX2_carries_46 rfl rfl h)
theorem dX2_findShare_0 : decode cX2_findShare 0 = .ok (.aload_n 0, 1) := by decide +kernel
theorem dX2_findShare_1 : decode cX2_findShare 1 = .ok (.getfield 12, 3) := by decide +kernel
theorem dX2_findShare_4 : decode cX2_findShare 4 = .ok (.getfield 102, 3) := by decide +kernel
theorem dX2_findShare_7 : decode cX2_findShare 7 = .ok (.istore_n 2, 1) := by decide +kernel
theorem dX2_findShare_8 : decode cX2_findShare 8 = .ok (.aload_n 0, 1) := by decide +kernel
theorem dX2_findShare_9 : decode cX2_findShare 9 = .ok (.getfield 89, 3) := by decide +kernel
theorem dX2_findShare_12 : decode cX2_findShare 12 = .ok (.iload_n 2, 1) := by decide +kernel
theorem dX2_findShare_13 : decode cX2_findShare 13 = .ok (.isub, 1) := by decide +kernel
theorem dX2_findShare_14 : decode cX2_findShare 14 = .ok (.iconst 1, 1) := by decide +kernel
theorem dX2_findShare_15 : decode cX2_findShare 15 = .ok (.isub, 1) := by decide +kernel
theorem dX2_findShare_16 : decode cX2_findShare 16 = .ok (.istore_n 3, 1) := by decide +kernel
theorem dX2_findShare_17 : decode cX2_findShare 17 = .ok (.aload_n 0, 1) := by decide +kernel
theorem dX2_findShare_18 : decode cX2_findShare 18 = .ok (.getfield 32, 3) := by decide +kernel
theorem dX2_findShare_21 : decode cX2_findShare 21 = .ok (.iconst 0, 1) := by decide +kernel
theorem dX2_findShare_22 : decode cX2_findShare 22 = .ok (.invokestatic 112, 3) := by decide +kernel
theorem dX2_findShare_25 : decode cX2_findShare 25 = .ok (.aload_n 0, 1) := by decide +kernel
theorem dX2_findShare_26 : decode cX2_findShare 26 = .ok (.getfield 32, 3) := by decide +kernel
theorem dX2_findShare_29 : decode cX2_findShare 29 = .ok (.iconst 0, 1) := by decide +kernel
theorem dX2_findShare_30 : decode cX2_findShare 30 = .ok (.iconst 1, 1) := by decide +kernel
theorem dX2_findShare_31 : decode cX2_findShare 31 = .ok (.iastore, 1) := by decide +kernel
theorem dX2_findShare_32 : decode cX2_findShare 32 = .ok (.aload_n 0, 1) := by decide +kernel
theorem dX2_findShare_33 : decode cX2_findShare 33 = .ok (.getfield 32, 3) := by decide +kernel
theorem dX2_findShare_36 : decode cX2_findShare 36 = .ok (.iconst 1, 1) := by decide +kernel
theorem dX2_findShare_37 : decode cX2_findShare 37 = .ok (.iload_n 3, 1) := by decide +kernel
theorem dX2_findShare_38 : decode cX2_findShare 38 = .ok (.iastore, 1) := by decide +kernel
theorem dX2_findShare_39 : decode cX2_findShare 39 = .ok (.aload_n 0, 1) := by decide +kernel
theorem dX2_findShare_40 : decode cX2_findShare 40 = .ok (.getfield 69, 3) := by decide +kernel
theorem dX2_findShare_43 : decode cX2_findShare 43 = .ok (.iconst 1, 1) := by decide +kernel
theorem dX2_findShare_44 : decode cX2_findShare 44 = .ok (.if_icmp .ne 13, 3) := by decide +kernel
theorem dX2_findShare_47 : decode cX2_findShare 47 = .ok (.aload_n 0, 1) := by decide +kernel
theorem dX2_findShare_48 : decode cX2_findShare 48 = .ok (.getfield 32, 3) := by decide +kernel
theorem dX2_findShare_51 : decode cX2_findShare 51 = .ok (.iconst 2, 1) := by decide +kernel
theorem dX2_findShare_52 : decode cX2_findShare 52 = .ok (.iload_n 2, 1) := by decide +kernel
theorem dX2_findShare_53 : decode cX2_findShare 53 = .ok (.iastore, 1) := by decide +kernel
theorem dX2_findShare_54 : decode cX2_findShare 54 = .ok (.goto 40, 3) := by decide +kernel
theorem dX2_findShare_57 : decode cX2_findShare 57 = .ok (.aload_n 0, 1) := by decide +kernel
theorem dX2_findShare_58 : decode cX2_findShare 58 = .ok (.getfield 32, 3) := by decide +kernel
theorem dX2_findShare_61 : decode cX2_findShare 61 = .ok (.iconst 2, 1) := by decide +kernel
theorem dX2_findShare_62 : decode cX2_findShare 62 = .ok (.iload_n 1, 1) := by decide +kernel
theorem dX2_findShare_63 : decode cX2_findShare 63 = .ok (.iload_n 2, 1) := by decide +kernel
theorem dX2_findShare_64 : decode cX2_findShare 64 = .ok (.iload_n 2, 1) := by decide +kernel
theorem dX2_findShare_65 : decode cX2_findShare 65 = .ok (.imul, 1) := by decide +kernel
theorem dX2_findShare_66 : decode cX2_findShare 66 = .ok (.isub, 1) := by decide +kernel
theorem dX2_findShare_67 : decode cX2_findShare 67 = .ok (.iconst 1, 1) := by decide +kernel
theorem dX2_findShare_68 : decode cX2_findShare 68 = .ok (.isub, 1) := by decide +kernel
theorem dX2_findShare_69 : decode cX2_findShare 69 = .ok (.iload_n 3, 1) := by decide +kernel
theorem dX2_findShare_70 : decode cX2_findShare 70 = .ok (.iload_n 3, 1) := by decide +kernel
theorem dX2_findShare_71 : decode cX2_findShare 71 = .ok (.imul, 1) := by decide +kernel
theorem dX2_findShare_72 : decode cX2_findShare 72 = .ok (.iadd, 1) := by decide +kernel
theorem dX2_findShare_73 : decode cX2_findShare 73 = .ok (.iconst 2, 1) := by decide +kernel
theorem dX2_findShare_74 : decode cX2_findShare 74 = .ok (.idiv, 1) := by decide +kernel
theorem dX2_findShare_75 : decode cX2_findShare 75 = .ok (.iastore, 1) := by decide +kernel
theorem dX2_findShare_76 : decode cX2_findShare 76 = .ok (.aload_n 0, 1) := by decide +kernel
theorem dX2_findShare_77 : decode cX2_findShare 77 = .ok (.getfield 32, 3) := by decide +kernel
theorem dX2_findShare_80 : decode cX2_findShare 80 = .ok (.iconst 3, 1) := by decide +kernel
theorem dX2_findShare_81 : decode cX2_findShare 81 = .ok (.iload_n 2, 1) := by decide +kernel
theorem dX2_findShare_82 : decode cX2_findShare 82 = .ok (.iload_n 3, 1) := by decide +kernel
theorem dX2_findShare_83 : decode cX2_findShare 83 = .ok (.imul, 1) := by decide +kernel
theorem dX2_findShare_84 : decode cX2_findShare 84 = .ok (.iastore, 1) := by decide +kernel
theorem dX2_findShare_85 : decode cX2_findShare 85 = .ok (.aload_n 0, 1) := by decide +kernel
theorem dX2_findShare_86 : decode cX2_findShare 86 = .ok (.getfield 32, 3) := by decide +kernel
theorem dX2_findShare_89 : decode cX2_findShare 89 = .ok (.iconst 4, 1) := by decide +kernel
theorem dX2_findShare_90 : decode cX2_findShare 90 = .ok (.iload_n 2, 1) := by decide +kernel
theorem dX2_findShare_91 : decode cX2_findShare 91 = .ok (.iload_n 2, 1) := by decide +kernel
theorem dX2_findShare_92 : decode cX2_findShare 92 = .ok (.imul, 1) := by decide +kernel
theorem dX2_findShare_93 : decode cX2_findShare 93 = .ok (.iastore, 1) := by decide +kernel
theorem dX2_findShare_94 : decode cX2_findShare 94 = .ok (.return_, 1) := by decide +kernel
set_option maxRecDepth 20000 in
theorem b_X2_findShare_0 {k n : Nat} {x : Wx} {Z : Zt} {Q : Option Value → Wx → Zt → Prop} {a0 : Nat} {v1 : Int} (o_a0 : Is2 x a0)
    (h : ∀ Z1 : Zt, Z1 = fillZ Z (a0 + 8) 5 (0 : Int) → (∀ Z2 : Zt, Z2 = up Z1 (a0 + 8) 0 1 → (∀ Z3 : Zt, Z3 = up Z2 (a0 + 8) 1 (((Z a0 3) - (Z (a0 + 1) 0)) - 1) → (Rg (Z3 a0 2) ∧ (((Z3 a0 2 ≠ 1) → (Rg (((v1 - ((Z (a0 + 1) 0) * (Z (a0 + 1) 0))) - 1) + ((((Z a0 3) - (Z (a0 + 1) 0)) - 1) * (((Z a0 3) - (Z (a0 + 1) 0)) - 1))) ∧ (∀ Z4 : Zt, Z4 = up Z3 (a0 + 8) 2 (Int.tdiv (((v1 - ((Z (a0 + 1) 0) * (Z (a0 + 1) 0))) - 1) + ((((Z a0 3) - (Z (a0 + 1) 0)) - 1) * (((Z a0 3) - (Z (a0 + 1) 0)) - 1))) 2) → (∀ Z5 : Zt, Z5 = up Z4 (a0 + 8) 3 ((Z (a0 + 1) 0) * (((Z a0 3) - (Z (a0 + 1) 0)) - 1)) → (∀ Z6 : Zt, Z6 = up Z5 (a0 + 8) 4 ((Z (a0 + 1) 0) * (Z (a0 + 1) 0)) → (Q none x Z6)))))) ∧ ((Z3 a0 2 = 1) → (∀ Z7 : Zt, Z7 = up Z3 (a0 + 8) 2 (Z (a0 + 1) 0) → (Q none x Z7)))))))) :
    V mX2_findShare k n 0 [some (r_ a0), some (i_ v1), none, none] [] x Z Q :=
  V_aload_n dX2_findShare_0 rfl (G_2_0 o_a0.1 o_a0.2.1 lf_2_12 dX2_findShare_1 (G_4_0 o_a0.2.2.1.1 lf_2_102 dX2_findShare_4 (V_istore_n (lv' := [some (r_ a0), some (i_ v1), some (i_ (Z (a0 + 1) 0)), none]) dX2_findShare_7 (Nat.le_of_ble_eq_true rfl) rfl (V_aload_n dX2_findShare_8 rfl (G_2_3 o_a0.1 lf_2_89 dX2_findShare_9 (V_iload_n dX2_findShare_12 rfl (V_isub dX2_findShare_13 (V_iconst dX2_findShare_14 (V_isub dX2_findShare_15 (V_istore_n (lv' := [some (r_ a0), some (i_ v1), some (i_ (Z (a0 + 1) 0)), some (i_ (((Z a0 3) - (Z (a0 + 1) 0)) - 1))]) dX2_findShare_16 (Nat.le_of_ble_eq_true rfl) rfl (V_aload_n dX2_findShare_17 rfl (G_2_6 o_a0.1 o_a0.2.2.2.2.2.2.2.2.2.1 lf_2_32 dX2_findShare_18 (V_iconst dX2_findShare_21 (V_callS (k' := 0) (n' := 0) [r_ (a0 + 8), i_ 0] [] okJ7_fill_53178 lm_2_112 lsJ7_fill_53178 (Nat.le_of_ble_eq_true rfl) (Nat.le_of_ble_eq_true rfl) (Nat.le_of_ble_eq_true rfl) (cat_of rfl) (Nat.le_of_ble_eq_true rfl) (Nat.zero_le _) (Nat.zero_le _) rfl dX2_findShare_22 (sp_J7_fill_53178 o_a0.2.2.2.2.2.2.2.2.2.2.1 (Nat.le_of_ble_eq_true rfl)  (V_nmZ (fun Z1 eZ1 => V_aload_n dX2_findShare_25 rfl (G_2_6 o_a0.1 o_a0.2.2.2.2.2.2.2.2.2.1 lf_2_32 dX2_findShare_26 (V_iconst dX2_findShare_29 (V_iconst dX2_findShare_30 (V_iast (t := 100) o_a0.2.2.2.2.2.2.2.2.2.2.1 (by decide) (by decide) rfl (by decide) (by decide) (Nat.le_of_ble_eq_true rfl) dX2_findShare_31 (V_nmZ (fun Z2 eZ2 => V_aload_n dX2_findShare_32 rfl (G_2_6 o_a0.1 o_a0.2.2.2.2.2.2.2.2.2.1 lf_2_32 dX2_findShare_33 (V_iconst dX2_findShare_36 (V_iload_n dX2_findShare_37 rfl (V_iast (t := 100) o_a0.2.2.2.2.2.2.2.2.2.2.1 (by decide) (by decide) rfl (by decide) (by decide) (Nat.le_of_ble_eq_true rfl) dX2_findShare_38 (V_nmZ (fun Z3 eZ3 => V_aload_n dX2_findShare_39 rfl (G_2_2 o_a0.1 lf_2_69 dX2_findShare_40 (V_iconst dX2_findShare_43 (V_icmp_ne (tgt := 57) dX2_findShare_44 rfl (((h Z1 eZ1) Z2 eZ2) Z3 eZ3).1 (rg_c rfl) (fun c1 => V_aload_n dX2_findShare_57 rfl (G_2_6 o_a0.1 o_a0.2.2.2.2.2.2.2.2.2.1 lf_2_32 dX2_findShare_58 (V_iconst dX2_findShare_61 (V_iload_n dX2_findShare_62 rfl (V_iload_n dX2_findShare_63 rfl (V_iload_n dX2_findShare_64 rfl (V_imul dX2_findShare_65 (V_isub dX2_findShare_66 (V_iconst dX2_findShare_67 (V_isub dX2_findShare_68 (V_iload_n dX2_findShare_69 rfl (V_iload_n dX2_findShare_70 rfl (V_imul dX2_findShare_71 (V_iadd dX2_findShare_72 (V_iconst dX2_findShare_73 (V_idiv dX2_findShare_74 ((((h Z1 eZ1) Z2 eZ2) Z3 eZ3).2.1 c1).1 (rg_c rfl) (by decide) (V_iast (t := 100) o_a0.2.2.2.2.2.2.2.2.2.2.1 (by decide) (by decide) rfl (by decide) (by decide) (Nat.le_of_ble_eq_true rfl) dX2_findShare_75 (V_nmZ (fun Z4 eZ4 => V_aload_n dX2_findShare_76 rfl (G_2_6 o_a0.1 o_a0.2.2.2.2.2.2.2.2.2.1 lf_2_32 dX2_findShare_77 (V_iconst dX2_findShare_80 (V_iload_n dX2_findShare_81 rfl (V_iload_n dX2_findShare_82 rfl (V_imul dX2_findShare_83 (V_iast (t := 100) o_a0.2.2.2.2.2.2.2.2.2.2.1 (by decide) (by decide) rfl (by decide) (by decide) (Nat.le_of_ble_eq_true rfl) dX2_findShare_84 (V_nmZ (fun Z5 eZ5 => V_aload_n dX2_findShare_85 rfl (G_2_6 o_a0.1 o_a0.2.2.2.2.2.2.2.2.2.1 lf_2_32 dX2_findShare_86 (V_iconst dX2_findShare_89 (V_iload_n dX2_findShare_90 rfl (V_iload_n dX2_findShare_91 rfl (V_imul dX2_findShare_92 (V_iast (t := 100) o_a0.2.2.2.2.2.2.2.2.2.2.1 (by decide) (by decide) rfl (by decide) (by decide) (Nat.le_of_ble_eq_true rfl) dX2_findShare_93 (V_nmZ (fun Z6 eZ6 => V_ret dX2_findShare_94 rfl (((((((h Z1 eZ1) Z2 eZ2) Z3 eZ3).2.1 c1).2 Z4 eZ4) Z5 eZ5) Z6 eZ6)))))))))))))))))))))))))))))))))))) (fun c1 => V_aload_n dX2_findShare_47 rfl (G_2_6 o_a0.1 o_a0.2.2.2.2.2.2.2.2.2.1 lf_2_32 dX2_findShare_48 (V_iconst dX2_findShare_51 (V_iload_n dX2_findShare_52 rfl (V_iast (t := 100) o_a0.2.2.2.2.2.2.2.2.2.2.1 (by decide) (by decide) rfl (by decide) (by decide) (Nat.le_of_ble_eq_true rfl) dX2_findShare_53 (V_nmZ (fun Z7 eZ7 => V_goto (tgt := 94) dX2_findShare_54 rfl (V_ret dX2_findShare_94 rfl (((((h Z1 eZ1) Z2 eZ2) Z3 eZ3).2.2 c1) Z7 eZ7)))))))))))))))))))))))))))))))))))))))))
theorem dX2_pointsOver_0 : decode cX2_pointsOver 0 = .ok (.aload_n 0, 1) := by decide +kernel
theorem dX2_pointsOver_1 : decode cX2_pointsOver 1 = .ok (.getfield 12, 3) := by decide +kernel
theorem dX2_pointsOver_4 : decode cX2_pointsOver 4 = .ok (.getfield 121, 3) := by decide +kernel
theorem dX2_pointsOver_7 : decode cX2_pointsOver 7 = .ok (.istore_n 3, 1) := by decide +kernel
theorem dX2_pointsOver_8 : decode cX2_pointsOver 8 = .ok (.iconst 0, 1) := by decide +kernel
theorem dX2_pointsOver_9 : decode cX2_pointsOver 9 = .ok (.istore 4, 2) := by decide +kernel
theorem dX2_pointsOver_11 : decode cX2_pointsOver 11 = .ok (.iconst 0, 1) := by decide +kernel
theorem dX2_pointsOver_12 : decode cX2_pointsOver 12 = .ok (.istore 5, 2) := by decide +kernel
theorem dX2_pointsOver_14 : decode cX2_pointsOver 14 = .ok (.aload_n 0, 1) := by decide +kernel
theorem dX2_pointsOver_15 : decode cX2_pointsOver 15 = .ok (.getfield 21, 3) := by decide +kernel
theorem dX2_pointsOver_18 : decode cX2_pointsOver 18 = .ok (.getfield 65, 3) := by decide +kernel
theorem dX2_pointsOver_21 : decode cX2_pointsOver 21 = .ok (.istore 6, 2) := by decide +kernel
theorem dX2_pointsOver_23 : decode cX2_pointsOver 23 = .ok (.iload 6, 2) := by decide +kernel
theorem dX2_pointsOver_25 : decode cX2_pointsOver 25 = .ok (.ifCond .lt 68, 3) := by decide +kernel
theorem dX2_pointsOver_28 : decode cX2_pointsOver 28 = .ok (.aload_n 0, 1) := by decide +kernel
theorem dX2_pointsOver_29 : decode cX2_pointsOver 29 = .ok (.getfield 12, 3) := by decide +kernel
theorem dX2_pointsOver_32 : decode cX2_pointsOver 32 = .ok (.iload 4, 2) := by decide +kernel
theorem dX2_pointsOver_34 : decode cX2_pointsOver 34 = .ok (.iload_n 1, 1) := by decide +kernel
theorem dX2_pointsOver_35 : decode cX2_pointsOver 35 = .ok (.imul, 1) := by decide +kernel
theorem dX2_pointsOver_36 : decode cX2_pointsOver 36 = .ok (.iload_n 3, 1) := by decide +kernel
theorem dX2_pointsOver_37 : decode cX2_pointsOver 37 = .ok (.aload_n 0, 1) := by decide +kernel
theorem dX2_pointsOver_38 : decode cX2_pointsOver 38 = .ok (.getfield 12, 3) := by decide +kernel
theorem dX2_pointsOver_41 : decode cX2_pointsOver 41 = .ok (.iload 5, 2) := by decide +kernel
theorem dX2_pointsOver_43 : decode cX2_pointsOver 43 = .ok (.iload_n 2, 1) := by decide +kernel
theorem dX2_pointsOver_44 : decode cX2_pointsOver 44 = .ok (.imul, 1) := by decide +kernel
theorem dX2_pointsOver_45 : decode cX2_pointsOver 45 = .ok (.invokevirtual 109, 3) := by decide +kernel
theorem dX2_pointsOver_48 : decode cX2_pointsOver 48 = .ok (.imul, 1) := by decide +kernel
theorem dX2_pointsOver_49 : decode cX2_pointsOver 49 = .ok (.iadd, 1) := by decide +kernel
theorem dX2_pointsOver_50 : decode cX2_pointsOver 50 = .ok (.aload_n 0, 1) := by decide +kernel
theorem dX2_pointsOver_51 : decode cX2_pointsOver 51 = .ok (.getfield 21, 3) := by decide +kernel
theorem dX2_pointsOver_54 : decode cX2_pointsOver 54 = .ok (.iload 6, 2) := by decide +kernel
theorem dX2_pointsOver_56 : decode cX2_pointsOver 56 = .ok (.invokevirtual 105, 3) := by decide +kernel
theorem dX2_pointsOver_59 : decode cX2_pointsOver 59 = .ok (.iadd, 1) := by decide +kernel
theorem dX2_pointsOver_60 : decode cX2_pointsOver 60 = .ok (.invokevirtual 109, 3) := by decide +kernel
theorem dX2_pointsOver_63 : decode cX2_pointsOver 63 = .ok (.istore 7, 2) := by decide +kernel
theorem dX2_pointsOver_65 : decode cX2_pointsOver 65 = .ok (.aload_n 0, 1) := by decide +kernel
theorem dX2_pointsOver_66 : decode cX2_pointsOver 66 = .ok (.getfield 12, 3) := by decide +kernel
theorem dX2_pointsOver_69 : decode cX2_pointsOver 69 = .ok (.iload 4, 2) := by decide +kernel
theorem dX2_pointsOver_71 : decode cX2_pointsOver 71 = .ok (.iload_n 2, 1) := by decide +kernel
theorem dX2_pointsOver_72 : decode cX2_pointsOver 72 = .ok (.imul, 1) := by decide +kernel
theorem dX2_pointsOver_73 : decode cX2_pointsOver 73 = .ok (.iload 5, 2) := by decide +kernel
theorem dX2_pointsOver_75 : decode cX2_pointsOver 75 = .ok (.iload_n 1, 1) := by decide +kernel
theorem dX2_pointsOver_76 : decode cX2_pointsOver 76 = .ok (.imul, 1) := by decide +kernel
theorem dX2_pointsOver_77 : decode cX2_pointsOver 77 = .ok (.iadd, 1) := by decide +kernel
theorem dX2_pointsOver_78 : decode cX2_pointsOver 78 = .ok (.invokevirtual 109, 3) := by decide +kernel
theorem dX2_pointsOver_81 : decode cX2_pointsOver 81 = .ok (.istore 5, 2) := by decide +kernel
theorem dX2_pointsOver_83 : decode cX2_pointsOver 83 = .ok (.iload 7, 2) := by decide +kernel
theorem dX2_pointsOver_85 : decode cX2_pointsOver 85 = .ok (.istore 4, 2) := by decide +kernel
theorem dX2_pointsOver_87 : decode cX2_pointsOver 87 = .ok (.iinc 6 (-1), 3) := by decide +kernel
theorem dX2_pointsOver_90 : decode cX2_pointsOver 90 = .ok (.goto (-67), 3) := by decide +kernel
theorem dX2_pointsOver_93 : decode cX2_pointsOver 93 = .ok (.iload 4, 2) := by decide +kernel
theorem dX2_pointsOver_95 : decode cX2_pointsOver 95 = .ok (.ifCond .ne 10, 3) := by decide +kernel
theorem dX2_pointsOver_98 : decode cX2_pointsOver 98 = .ok (.iload 5, 2) := by decide +kernel
theorem dX2_pointsOver_100 : decode cX2_pointsOver 100 = .ok (.ifCond .ne 5, 3) := by decide +kernel
theorem dX2_pointsOver_103 : decode cX2_pointsOver 103 = .ok (.iconst 1, 1) := by decide +kernel
theorem dX2_pointsOver_104 : decode cX2_pointsOver 104 = .ok (.ireturn, 1) := by decide +kernel
theorem dX2_pointsOver_105 : decode cX2_pointsOver 105 = .ok (.aload_n 0, 1) := by decide +kernel
theorem dX2_pointsOver_106 : decode cX2_pointsOver 106 = .ok (.getfield 12, 3) := by decide +kernel
theorem dX2_pointsOver_109 : decode cX2_pointsOver 109 = .ok (.aload_n 0, 1) := by decide +kernel
theorem dX2_pointsOver_110 : decode cX2_pointsOver 110 = .ok (.getfield 12, 3) := by decide +kernel
theorem dX2_pointsOver_113 : decode cX2_pointsOver 113 = .ok (.iload 4, 2) := by decide +kernel
theorem dX2_pointsOver_115 : decode cX2_pointsOver 115 = .ok (.iload 4, 2) := by decide +kernel
theorem dX2_pointsOver_117 : decode cX2_pointsOver 117 = .ok (.imul, 1) := by decide +kernel
theorem dX2_pointsOver_118 : decode cX2_pointsOver 118 = .ok (.iload_n 3, 1) := by decide +kernel
theorem dX2_pointsOver_119 : decode cX2_pointsOver 119 = .ok (.aload_n 0, 1) := by decide +kernel
theorem dX2_pointsOver_120 : decode cX2_pointsOver 120 = .ok (.getfield 12, 3) := by decide +kernel
theorem dX2_pointsOver_123 : decode cX2_pointsOver 123 = .ok (.iload 5, 2) := by decide +kernel
theorem dX2_pointsOver_125 : decode cX2_pointsOver 125 = .ok (.iload 5, 2) := by decide +kernel
theorem dX2_pointsOver_127 : decode cX2_pointsOver 127 = .ok (.imul, 1) := by decide +kernel
theorem dX2_pointsOver_128 : decode cX2_pointsOver 128 = .ok (.invokevirtual 109, 3) := by decide +kernel
theorem dX2_pointsOver_131 : decode cX2_pointsOver 131 = .ok (.imul, 1) := by decide +kernel
theorem dX2_pointsOver_132 : decode cX2_pointsOver 132 = .ok (.isub, 1) := by decide +kernel
theorem dX2_pointsOver_133 : decode cX2_pointsOver 133 = .ok (.invokevirtual 109, 3) := by decide +kernel
theorem dX2_pointsOver_136 : decode cX2_pointsOver 136 = .ok (.invokevirtual 124, 3) := by decide +kernel
theorem dX2_pointsOver_139 : decode cX2_pointsOver 139 = .ok (.ifCond .eq 7, 3) := by decide +kernel
theorem dX2_pointsOver_142 : decode cX2_pointsOver 142 = .ok (.iconst 2, 1) := by decide +kernel
theorem dX2_pointsOver_143 : decode cX2_pointsOver 143 = .ok (.goto 4, 3) := by decide +kernel
theorem dX2_pointsOver_146 : decode cX2_pointsOver 146 = .ok (.iconst 0, 1) := by decide +kernel
theorem dX2_pointsOver_147 : decode cX2_pointsOver 147 = .ok (.ireturn, 1) := by decide +kernel
set_option maxRecDepth 20000 in
theorem b_X2_pointsOver_0 {k n : Nat} {x : Wx} {Z : Zt} {Q : Option Value → Wx → Zt → Prop} {a0 : Nat} {v1 : Int} {v2 : Int} (o_a0 : Is2 x a0)
    (h : V mX2_pointsOver k n 23 [some (r_ a0), some (i_ v1), some (i_ v2), some (i_ (Z (a0 + 1) 1)), some (i_ 0), some (i_ 0), some (i_ (Z (a0 + 4) 0)), none] [] x Z Q) :
    V mX2_pointsOver k n 0 [some (r_ a0), some (i_ v1), some (i_ v2), none, none, none, none, none] [] x Z Q :=
  V_aload_n dX2_pointsOver_0 rfl (G_2_0 o_a0.1 o_a0.2.1 lf_2_12 dX2_pointsOver_1 (G_4_1 o_a0.2.2.1.1 lf_2_121 dX2_pointsOver_4 (V_istore_n (lv' := [some (r_ a0), some (i_ v1), some (i_ v2), some (i_ (Z (a0 + 1) 1)), none, none, none, none]) dX2_pointsOver_7 (Nat.le_of_ble_eq_true rfl) rfl (V_iconst dX2_pointsOver_8 (V_istore (lv' := [some (r_ a0), some (i_ v1), some (i_ v2), some (i_ (Z (a0 + 1) 1)), some (i_ 0), none, none, none]) dX2_pointsOver_9 (Nat.le_of_ble_eq_true rfl) rfl (V_iconst dX2_pointsOver_11 (V_istore (lv' := [some (r_ a0), some (i_ v1), some (i_ v2), some (i_ (Z (a0 + 1) 1)), some (i_ 0), some (i_ 0), none, none]) dX2_pointsOver_12 (Nat.le_of_ble_eq_true rfl) rfl (V_aload_n dX2_pointsOver_14 rfl (G_2_1 o_a0.1 o_a0.2.2.2.1 lf_2_21 dX2_pointsOver_15 (G_7_0 o_a0.2.2.2.2.1.1 lf_2_65 dX2_pointsOver_18 (V_istore (lv' := [some (r_ a0), some (i_ v1), some (i_ v2), some (i_ (Z (a0 + 1) 1)), some (i_ 0), some (i_ 0), some (i_ (Z (a0 + 4) 0)), none]) dX2_pointsOver_21 (Nat.le_of_ble_eq_true rfl) rfl (V_msk [true, true, true, true, true, true, true, false] rfl h))))))))))))
set_option maxRecDepth 20000 in
theorem b_X2_pointsOver_23 {k n : Nat} {x : Wx} {Z : Zt} {Q : Option Value → Wx → Zt → Prop} {a0 : Nat} {v1 : Int} {v2 : Int} {v3 : Int} {v4 : Int} {v5 : Int} {v6 : Int} (o_a0 : Is2 x a0)
    (h : Rg v6 ∧ (((v6 < 0) → (Rg v4 ∧ (((v4 ≠ 0) → (V mX2_pointsOver k n 105 [some (r_ a0), none, none, some (i_ v3), some (i_ v4), some (i_ v5), none, none] [] x Z Q)) ∧ ((v4 = 0) → (Rg v5 ∧ (((v5 ≠ 0) → (V mX2_pointsOver k n 105 [some (r_ a0), none, none, some (i_ v3), some (i_ v4), some (i_ v5), none, none] [] x Z Q)) ∧ ((v5 = 0) → (Q (some (i_ 1)) x Z)))))))) ∧ ((0 ≤ v6) → (Rg (v5 * v2) ∧ 2 ≤ Z (a0 + 1) 0 ∧ Z (a0 + 1) 0 ≤ 13 ∧ (v6 < 10 ∧ (Rg (((v4 * v1) + (v3 * ((v5 * v2) % Z (a0 + 1) 0))) + (Z ((a0 + 4) + 1) (Int.toNat v6))) ∧ (∀ i1 : Int, i1 = (((v4 * v1) + (v3 * ((v5 * v2) % Z (a0 + 1) 0))) + (Z ((a0 + 4) + 1) (Int.toNat v6))) % Z (a0 + 1) 0 → (Rg ((v4 * v2) + (v5 * v1)) ∧ (V mX2_pointsOver k n 23 [some (r_ a0), some (i_ v1), some (i_ v2), some (i_ v3), some (i_ i1), some (i_ (((v4 * v2) + (v5 * v1)) % Z (a0 + 1) 0)), some (i_ (v6 + (-1))), none] [] x Z Q))))))))) :
    V mX2_pointsOver k n 23 [some (r_ a0), some (i_ v1), some (i_ v2), some (i_ v3), some (i_ v4), some (i_ v5), some (i_ v6), none] [] x Z Q :=
  V_iload dX2_pointsOver_23 rfl (V_if_lt (tgt := 93) dX2_pointsOver_25 rfl h.1 (fun c1 => V_iload dX2_pointsOver_93 rfl (V_if_ne (tgt := 105) dX2_pointsOver_95 rfl (h.2.1 c1).1 (fun c2 => V_msk [true, false, false, true, true, true, false, false] rfl ((h.2.1 c1).2.1 c2)) (fun c2 => V_iload dX2_pointsOver_98 rfl (V_if_ne (tgt := 105) dX2_pointsOver_100 rfl ((h.2.1 c1).2.2 c2).1 (fun c3 => V_msk [true, false, false, true, true, true, false, false] rfl (((h.2.1 c1).2.2 c2).2.1 c3)) (fun c3 => V_iconst dX2_pointsOver_103 (V_iret (ty := .int) dX2_pointsOver_104 rfl rfl (((h.2.1 c1).2.2 c2).2.2 c3))))))) (fun c1 => V_aload_n dX2_pointsOver_28 rfl (G_2_0 o_a0.1 o_a0.2.1 lf_2_12 dX2_pointsOver_29 (V_iload dX2_pointsOver_32 rfl (V_iload_n dX2_pointsOver_34 rfl (V_imul dX2_pointsOver_35 (V_iload_n dX2_pointsOver_36 rfl (V_aload_n dX2_pointsOver_37 rfl (G_2_0 o_a0.1 o_a0.2.1 lf_2_12 dX2_pointsOver_38 (V_iload dX2_pointsOver_41 rfl (V_iload_n dX2_pointsOver_43 rfl (V_imul dX2_pointsOver_44 (V_callV (k' := 0) (n' := 0) (t := 4) (q := (RX4, TX4, 4)) [i_ (v5 * v2)] [i_ v3, i_ (v4 * v1), r_ (a0 + 1)] okX4_rem o_a0.2.2.1.1 rfl rfl lm_2_109 liX4_rem lqX4_rem (Nat.le_of_ble_eq_true rfl) (Nat.le_of_ble_eq_true rfl) (Nat.le_of_ble_eq_true rfl) (cat_of rfl) (Nat.le_of_ble_eq_true rfl) (Nat.zero_le _) (Nat.zero_le _) rfl dX2_pointsOver_45 (sp_X4_rem o_a0.2.2.1 (h.2.2 c1).1 (h.2.2 c1).2.1 (h.2.2 c1).2.2.1 (V_imul dX2_pointsOver_48 (V_iadd dX2_pointsOver_49 (V_aload_n dX2_pointsOver_50 rfl (G_2_1 o_a0.1 o_a0.2.2.2.1 lf_2_21 dX2_pointsOver_51 (V_iload dX2_pointsOver_54 rfl (V_callV (k' := 0) (n' := 0) (t := 7) (q := (RX7, TX7, 2)) [i_ v6] [i_ ((v4 * v1) + (v3 * ((v5 * v2) % Z (a0 + 1) 0))), r_ (a0 + 1)] okX7_at o_a0.2.2.2.2.1.1 rfl rfl lm_2_105 liX7_at lqX7_at (Nat.le_of_ble_eq_true rfl) (Nat.le_of_ble_eq_true rfl) (Nat.le_of_ble_eq_true rfl) (cat_of rfl) (Nat.le_of_ble_eq_true rfl) (Nat.zero_le _) (Nat.zero_le _) rfl dX2_pointsOver_56 (sp_X7_at o_a0.2.2.2.2.1 c1 (h.2.2 c1).2.2.2.1 (V_iadd dX2_pointsOver_59 (V_callV (k' := 0) (n' := 0) (t := 4) (q := (RX4, TX4, 4)) [i_ (((v4 * v1) + (v3 * ((v5 * v2) % Z (a0 + 1) 0))) + (Z ((a0 + 4) + 1) (Int.toNat v6)))] [] okX4_rem o_a0.2.2.1.1 rfl rfl lm_2_109 liX4_rem lqX4_rem (Nat.le_of_ble_eq_true rfl) (Nat.le_of_ble_eq_true rfl) (Nat.le_of_ble_eq_true rfl) (cat_of rfl) (Nat.le_of_ble_eq_true rfl) (Nat.zero_le _) (Nat.zero_le _) rfl dX2_pointsOver_60 (sp_X4_rem o_a0.2.2.1 (h.2.2 c1).2.2.2.2.1 (h.2.2 c1).2.1 (h.2.2 c1).2.2.1 (V_nmi (fun i1 ei1 => V_istore (lv' := [some (r_ a0), some (i_ v1), some (i_ v2), some (i_ v3), some (i_ v4), some (i_ v5), some (i_ v6), some (i_ i1)]) dX2_pointsOver_63 (Nat.le_of_ble_eq_true rfl) rfl (V_aload_n dX2_pointsOver_65 rfl (G_2_0 o_a0.1 o_a0.2.1 lf_2_12 dX2_pointsOver_66 (V_iload dX2_pointsOver_69 rfl (V_iload_n dX2_pointsOver_71 rfl (V_imul dX2_pointsOver_72 (V_iload dX2_pointsOver_73 rfl (V_iload_n dX2_pointsOver_75 rfl (V_imul dX2_pointsOver_76 (V_iadd dX2_pointsOver_77 (V_callV (k' := 0) (n' := 0) (t := 4) (q := (RX4, TX4, 4)) [i_ ((v4 * v2) + (v5 * v1))] [] okX4_rem o_a0.2.2.1.1 rfl rfl lm_2_109 liX4_rem lqX4_rem (Nat.le_of_ble_eq_true rfl) (Nat.le_of_ble_eq_true rfl) (Nat.le_of_ble_eq_true rfl) (cat_of rfl) (Nat.le_of_ble_eq_true rfl) (Nat.zero_le _) (Nat.zero_le _) rfl dX2_pointsOver_78 (sp_X4_rem o_a0.2.2.1 ((h.2.2 c1).2.2.2.2.2 i1 ei1).1 (h.2.2 c1).2.1 (h.2.2 c1).2.2.1 (V_istore (lv' := [some (r_ a0), some (i_ v1), some (i_ v2), some (i_ v3), some (i_ v4), some (i_ (((v4 * v2) + (v5 * v1)) % Z (a0 + 1) 0)), some (i_ v6), some (i_ i1)]) dX2_pointsOver_81 (Nat.le_of_ble_eq_true rfl) rfl (V_iload dX2_pointsOver_83 rfl (V_istore (lv' := [some (r_ a0), some (i_ v1), some (i_ v2), some (i_ v3), some (i_ i1), some (i_ (((v4 * v2) + (v5 * v1)) % Z (a0 + 1) 0)), some (i_ v6), some (i_ i1)]) dX2_pointsOver_85 (Nat.le_of_ble_eq_true rfl) rfl (V_iinc (lv' := [some (r_ a0), some (i_ v1), some (i_ v2), some (i_ v3), some (i_ i1), some (i_ (((v4 * v2) + (v5 * v1)) % Z (a0 + 1) 0)), some (i_ (v6 + (-1))), some (i_ i1)]) dX2_pointsOver_87 rfl (Nat.le_of_ble_eq_true rfl) rfl (V_goto (tgt := 23) dX2_pointsOver_90 rfl (V_msk [true, true, true, true, true, true, true, false] rfl ((h.2.2 c1).2.2.2.2.2 i1 ei1).2)))))))))))))))))))))))))))))))))))))))))))
set_option maxRecDepth 20000 in
theorem b_X2_pointsOver_105 {k n : Nat} {x : Wx} {Z : Zt} {Q : Option Value → Wx → Zt → Prop} {a0 : Nat} {v3 : Int} {v4 : Int} {v5 : Int} (o_a0 : Is2 x a0)
    (h : Rg (v5 * v5) ∧ 2 ≤ Z (a0 + 1) 0 ∧ Z (a0 + 1) 0 ≤ 13 ∧ (Rg ((v4 * v4) - (v3 * ((v5 * v5) % Z (a0 + 1) 0))) ∧ (0 ≤ (((v4 * v4) - (v3 * ((v5 * v5) % Z (a0 + 1) 0))) % Z (a0 + 1) 0) ∧ (((v4 * v4) - (v3 * ((v5 * v5) % Z (a0 + 1) 0))) % Z (a0 + 1) 0) < 13 ∧ (Z ((a0 + 1) + 2) (Int.toNat (((v4 * v4) - (v3 * ((v5 * v5) % Z (a0 + 1) 0))) % Z (a0 + 1) 0)) = 0 ∨ Z ((a0 + 1) + 2) (Int.toNat (((v4 * v4) - (v3 * ((v5 * v5) % Z (a0 + 1) 0))) % Z (a0 + 1) 0)) = 1) ∧ (Rg (Z ((a0 + 1) + 2) (Int.toNat (((v4 * v4) - (v3 * ((v5 * v5) % Z (a0 + 1) 0))) % Z (a0 + 1) 0))) ∧ (((Z ((a0 + 1) + 2) (Int.toNat (((v4 * v4) - (v3 * ((v5 * v5) % Z (a0 + 1) 0))) % Z (a0 + 1) 0)) = 0) → (Q (some (i_ 0)) x Z)) ∧ ((Z ((a0 + 1) + 2) (Int.toNat (((v4 * v4) - (v3 * ((v5 * v5) % Z (a0 + 1) 0))) % Z (a0 + 1) 0)) ≠ 0) → (Q (some (i_ 2)) x Z))))))) :
    V mX2_pointsOver k n 105 [some (r_ a0), none, none, some (i_ v3), some (i_ v4), some (i_ v5), none, none] [] x Z Q :=
  V_aload_n dX2_pointsOver_105 rfl (G_2_0 o_a0.1 o_a0.2.1 lf_2_12 dX2_pointsOver_106 (V_aload_n dX2_pointsOver_109 rfl (G_2_0 o_a0.1 o_a0.2.1 lf_2_12 dX2_pointsOver_110 (V_iload dX2_pointsOver_113 rfl (V_iload dX2_pointsOver_115 rfl (V_imul dX2_pointsOver_117 (V_iload_n dX2_pointsOver_118 rfl (V_aload_n dX2_pointsOver_119 rfl (G_2_0 o_a0.1 o_a0.2.1 lf_2_12 dX2_pointsOver_120 (V_iload dX2_pointsOver_123 rfl (V_iload dX2_pointsOver_125 rfl (V_imul dX2_pointsOver_127 (V_callV (k' := 0) (n' := 0) (t := 4) (q := (RX4, TX4, 4)) [i_ (v5 * v5)] [i_ v3, i_ (v4 * v4), r_ (a0 + 1), r_ (a0 + 1)] okX4_rem o_a0.2.2.1.1 rfl rfl lm_2_109 liX4_rem lqX4_rem (Nat.le_of_ble_eq_true rfl) (Nat.le_of_ble_eq_true rfl) (Nat.le_of_ble_eq_true rfl) (cat_of rfl) (Nat.le_of_ble_eq_true rfl) (Nat.zero_le _) (Nat.zero_le _) rfl dX2_pointsOver_128 (sp_X4_rem o_a0.2.2.1 h.1 h.2.1 h.2.2.1 (V_imul dX2_pointsOver_131 (V_isub dX2_pointsOver_132 (V_callV (k' := 0) (n' := 0) (t := 4) (q := (RX4, TX4, 4)) [i_ ((v4 * v4) - (v3 * ((v5 * v5) % Z (a0 + 1) 0)))] [r_ (a0 + 1)] okX4_rem o_a0.2.2.1.1 rfl rfl lm_2_109 liX4_rem lqX4_rem (Nat.le_of_ble_eq_true rfl) (Nat.le_of_ble_eq_true rfl) (Nat.le_of_ble_eq_true rfl) (cat_of rfl) (Nat.le_of_ble_eq_true rfl) (Nat.zero_le _) (Nat.zero_le _) rfl dX2_pointsOver_133 (sp_X4_rem o_a0.2.2.1 h.2.2.2.1 h.2.1 h.2.2.1 (V_callV (k' := 0) (n' := 0) (t := 4) (q := (RX4, TX4, 4)) [i_ (((v4 * v4) - (v3 * ((v5 * v5) % Z (a0 + 1) 0))) % Z (a0 + 1) 0)] [] okX4_isSquare o_a0.2.2.1.1 rfl rfl lm_2_124 liX4_isSquare lqX4_isSquare (Nat.le_of_ble_eq_true rfl) (Nat.le_of_ble_eq_true rfl) (Nat.le_of_ble_eq_true rfl) (cat_of rfl) (Nat.le_of_ble_eq_true rfl) (Nat.zero_le _) (Nat.zero_le _) rfl dX2_pointsOver_136 (sp_X4_isSquare o_a0.2.2.1 h.2.2.2.2.1 h.2.2.2.2.2.1 h.2.2.2.2.2.2.1 (V_if_eq (tgt := 146) dX2_pointsOver_139 rfl h.2.2.2.2.2.2.2.1 (fun c1 => V_iconst dX2_pointsOver_146 (V_iret (ty := .int) dX2_pointsOver_147 rfl rfl (h.2.2.2.2.2.2.2.2.1 c1))) (fun c1 => V_iconst dX2_pointsOver_142 (V_goto (tgt := 147) dX2_pointsOver_143 rfl (V_iret (ty := .int) dX2_pointsOver_147 rfl rfl (h.2.2.2.2.2.2.2.2.2 c1)))))))))))))))))))))))))
theorem sp_X2_isFixed {k n : Nat} {x : Wx} {Z : Zt} {Q : Option Value → Wx → Zt → Prop} {a : Nat} {v : Int} (o : Is2 x a) {L : List (Int × Int)} (hL : PtA Z a L) (hr : PtR L) (hv : 0 ≤ v ∧ v < L.length) (h : Q (some (i_ (bI (fxd L v)))) x Z) : V mX2_isFixed k n 0 [some (r_ a), some (i_ v)] [] x Z Q := by
  have h3 := hL.1
  have hl := hr.1
  have hg := hL.2 v.toNat (by omega)
  have hrg := hL.rg hr (k := v.toNat) (by omega)
  unfold bI fxd at h
  have yes : (v + 1 = L.length ∨ (L.getD v.toNat (0, 0)).2 = 0) → Q (some (i_ 1)) x Z := fun e => by
    rw [if_pos (by rw [decide_eq_true_eq]; exact e)] at h; exact h
  refine b_X2_isFixed_0 o ⟨⟨by omega, by omega⟩, ⟨by omega, by omega⟩, bI_rg _, fun c => b_X2_isFixed_17 (yes (Or.inl ?_)), fun c => ⟨by omega, by omega, hrg.2, fun c2 => ?_, fun c2 => b_X2_isFixed_17 (yes (Or.inr ?_))⟩⟩
  · have := bI_1 c
    rw [decide_eq_true_eq] at this
    omega
  · have := bI_0 c
    rw [decide_eq_false_iff_not] at this
    rw [hg.2] at c2
    rw [if_neg (by rw [decide_eq_true_eq]; intro e; rcases e with e | e; exact this (by omega); exact c2 e)] at h
    exact h
  · rw [← hg.2]; exact c2
theorem crs_ext {L : List (Int × Int)} {r s : Nat → Int} : ∀ (m i : Nat), (∀ j : Nat, j < 2 + 3 * (i + m) → r j = s j) → crs L r m i = crs L s m i
  | 0, _, _ => rfl
  | m + 1, i, h => by
    unfold crs
    rw [h (2 + 3 * i) (by omega), h (3 + 3 * i) (by omega), crs_ext m (i + 1) (fun j hj => h j (by omega))]
theorem sp_X2_carries {k n : Nat} {x : Wx} {Z : Zt} {Q : Option Value → Wx → Zt → Prop} {a r : Nat} (o : Is2 x a) (sr : x.1 r = some (100, 26)) {L : List (Int × Int)} (hL : PtA Z a L) (hr : PtR L) (h0 : 0 ≤ Z r 0 ∧ Z r 0 ≤ 8) (hg : ∀ i : Nat, i < 26 → Rg (Z r i)) (h : Q (some (i_ (bI (carr L (Z r))))) x Z) : V mX2_carries k n 0 [some (r_ a), some (r_ r), none, none] [] x Z Q := by
  have lp : ∀ (m i : Nat) (w : Int), w = i → w + m = Z r 0 → crs L (Z r) m i = carr L (Z r) → V mX2_carries k n 2 [some (r_ a), some (r_ r), some (i_ w), none] [] x Z Q := by
    intro m
    induction m with
    | zero =>
      intro i w hw hm he
      refine b_X2_carries_2 o sr ⟨⟨by omega, by omega⟩, ⟨by omega, by omega⟩, fun _ => b_X2_carries_45 ?_, fun c => by omega⟩
      rw [← he] at h; exact h
    | succ m ih =>
      intro i w hw hm he
      have hp := pAt_rg L (Z r (2 + 3 * i)) (Z r (3 + 3 * i)) L.length 0
      have hl := hr.1
      unfold crs at he
      refine b_X2_carries_2 o sr ?_
      rw [show (2 + 3 * w).toNat = 2 + 3 * i by omega, show (2 + 3 * w + 1).toNat = 3 + 3 * i by omega]
      refine ⟨⟨by omega, by omega⟩, ⟨by omega, by omega⟩, fun c => by omega, fun _ => ⟨fun c => by omega, fun _ => ⟨by omega, by omega, by omega, by omega, L, hg _ (by omega), hg _ (by omega), hL, hr, ?_, fun c => ih (i + 1) _ (by omega) (by omega) ?_, fun c => ?_⟩⟩⟩
      · unfold ptN
        exact ⟨by omega, by omega⟩
      · rw [if_neg c] at he; exact he
      · rw [if_pos c] at he
        rw [← he] at h; exact h
  exact b_X2_carries_0 (lp (Z r 0).toNat 0 0 rfl (by omega) rfl)
def shr (p g m c : Int) : Nat → Int := fun i => if i = 0 then 1 else if i = 1 then m - p - 1 else if g = 1 then (if i = 2 then p else 0) else if i = 2 then Int.tdiv (c - p * p - 1 + (m - p - 1) * (m - p - 1)) 2 else if i = 3 then p * (m - p - 1) else if i = 4 then p * p else 0
theorem sp_X2_findShare {k n : Nat} {x : Wx} {Z : Zt} {Q : Option Value → Wx → Zt → Prop} {a : Nat} {c : Int} (o : Is2 x a) {p : Int} (hp : IsP p) (hfl : Z (a + 1) 0 = p) (hm : 1 ≤ Z a 3 ∧ Z a 3 ≤ 27) (hg : 1 ≤ Z a 2 ∧ Z a 2 ≤ 2) (hc : 0 ≤ c ∧ c ≤ 1000) (h : ∀ Z' : Zt, ((∀ i : Nat, i < 5 → Z' (a + 8) i = shr p (Z a 2) (Z a 3) c i) ∧ Oth Z Z' (fun b => b = a + 8)) → Q none x Z') : V mX2_findShare k n 0 [some (r_ a), some (i_ c), none, none] [] x Z Q := by
  have hpr := hp.rg
  have hA := mulb (a := Z a 3 - p - 1) (b := 27) (A := 27) (B := 27) (by omega) (by omega) (by decide) (by decide)
  have hAA : 0 ≤ (Z a 3 - p - 1) * (Z a 3 - p - 1) ∧ (Z a 3 - p - 1) * (Z a 3 - p - 1) ≤ 729 := by
    by_cases s : 0 ≤ Z a 3 - p - 1
    · have := mulb (a := Z a 3 - p - 1) (b := Z a 3 - p - 1) (A := 27) (B := 27) (by omega) (by omega) s (by omega)
      exact ⟨Int.mul_nonneg s s, by omega⟩
    · have h1 := mulb (a := -(Z a 3 - p - 1)) (b := -(Z a 3 - p - 1)) (A := 27) (B := 27) (by omega) (by omega) (by omega) (by omega)
      have h2 := Int.mul_nonneg (show 0 ≤ -(Z a 3 - p - 1) by omega) (show 0 ≤ -(Z a 3 - p - 1) by omega)
      rw [Int.neg_mul_neg] at h1 h2
      omega
  have hpp := mul13 (a := p) (b := p) ⟨by omega, by omega⟩ ⟨by omega, by omega⟩
  refine b_X2_findShare_0 o fun Z1 e1 Z2 e2 Z3 e3 => ?_
  have r3 : ∀ b, b ≠ a + 8 → Z3 b = Z b := fun b hb => by
    rw [e3, up_row _ _ _ _ _ hb, e2, up_row _ _ _ _ _ hb, e1]
    funext i
    unfold fillZ
    rw [if_neg (fun e => hb e.1)]
  have f1 : ∀ i : Nat, i < 5 → Z1 (a + 8) i = 0 := fun i hi => by
    rw [e1]; unfold fillZ; rw [if_pos ⟨rfl, hi⟩]
  rw [hfl] at e3 ⊢
  have g2 : Z3 a 2 = Z a 2 := by rw [r3 a (by omega)]
  rw [g2]
  refine ⟨⟨by omega, by omega⟩, fun c1 => ⟨⟨by omega, by omega⟩, fun Z4 e4 Z5 e5 Z6 e6 => h Z6 ⟨fun i hi => ?_, fun b hb => ?_⟩⟩, fun c1 Z4 e4 => h Z4 ⟨fun i hi => ?_, fun b hb => ?_⟩⟩
  · unfold shr
    rw [if_neg c1]
    match i, hi with
    | 0, _ => rw [e6, up_at, if_neg (by decide), e5, up_at, if_neg (by decide), e4, up_at, if_neg (by decide), e3, up_at, if_neg (by decide), e2, up_at, if_pos rfl, if_pos rfl]
    | 1, _ => rw [e6, up_at, if_neg (by decide), e5, up_at, if_neg (by decide), e4, up_at, if_neg (by decide), e3, up_at, if_pos rfl, if_neg (by decide), if_pos rfl]
    | 2, _ => rw [e6, up_at, if_neg (by decide), e5, up_at, if_neg (by decide), e4, up_at, if_pos rfl, if_neg (by decide), if_neg (by decide), if_pos rfl]
    | 3, _ => rw [e6, up_at, if_neg (by decide), e5, up_at, if_pos rfl, if_neg (by decide), if_neg (by decide), if_neg (by decide), if_pos rfl]
    | 4, _ => rw [e6, up_at, if_pos rfl, if_neg (by decide), if_neg (by decide), if_neg (by decide), if_neg (by decide), if_pos rfl]
  · have hb' : b ≠ a + 8 := hb
    rw [e6, up_row _ _ _ _ _ hb', e5, up_row _ _ _ _ _ hb', e4, up_row _ _ _ _ _ hb', r3 b hb']
  · unfold shr
    rw [if_pos c1]
    match i, hi with
    | 0, _ => rw [e4, up_at, if_neg (by decide), e3, up_at, if_neg (by decide), e2, up_at, if_pos rfl, if_pos rfl]
    | 1, _ => rw [e4, up_at, if_neg (by decide), e3, up_at, if_pos rfl, if_neg (by decide), if_pos rfl]
    | 2, _ => rw [e4, up_at, if_pos rfl, if_neg (by decide), if_neg (by decide), if_pos rfl]
    | 3, _ => rw [e4, up_at, if_neg (by decide), e3, up_at, if_neg (by decide), e2, up_at, if_neg (by decide), f1 3 (by decide), if_neg (by decide), if_neg (by decide), if_neg (by decide)]
    | 4, _ => rw [e4, up_at, if_neg (by decide), e3, up_at, if_neg (by decide), e2, up_at, if_neg (by decide), f1 4 (by decide), if_neg (by decide), if_neg (by decide), if_neg (by decide)]
  · have hb' : b ≠ a + 8 := hb
    rw [e4, up_row _ _ _ _ _ hb', r3 b hb']
def hq (p d : Int) (F : Nat → Int) (s t : Int) : Nat → Int × Int → Int × Int
  | 0, w => w
  | n + 1, w => hq p d F s t n ((w.1 * s + d * (w.2 * t % p) + F n) % p, (w.1 * t + w.2 * s) % p)
theorem hq_0 {p d : Int} {F : Nat → Int} {s t : Int} : ∀ (m n : Nat), (∀ i : Nat, n ≤ i → i < n + m → F i = 0) → hq p d F s t (n + m) (0, 0) = hq p d F s t n (0, 0)
  | 0, n, _ => rfl
  | m + 1, n, h => by
    show hq p d F s t (n + m) ((0 * s + d * (0 * t % p) + F (n + m)) % p, (0 * t + 0 * s) % p) = _
    rw [h (n + m) (by omega) (by omega), Int.zero_mul, Int.zero_mul, Int.zero_emod, Int.mul_zero, Int.add_zero, Int.add_zero, Int.zero_emod]
    exact hq_0 m n (fun i h1 h2 => h i h1 (by omega))
theorem hq_rg {p : Int} (hp : 0 < p) {d : Int} {F : Nat → Int} {s t : Int} : ∀ (n : Nat) (w : Int × Int), ((0 ≤ w.1 ∧ w.1 < p) ∧ 0 ≤ w.2 ∧ w.2 < p) → (0 ≤ (hq p d F s t n w).1 ∧ (hq p d F s t n w).1 < p) ∧ 0 ≤ (hq p d F s t n w).2 ∧ (hq p d F s t n w).2 < p
  | 0, _, h => h
  | n + 1, w, _ => hq_rg hp n _ ⟨emr _ hp, emr _ hp⟩
def pov (p : Int) (F : Nat → Int) (s t : Int) : Int := if (hq p (nsq p) F s t 24 (0, 0)).1 = 0 ∧ (hq p (nsq p) F s t 24 (0, 0)).2 = 0 then 1 else if sq p (((hq p (nsq p) F s t 24 (0, 0)).1 * (hq p (nsq p) F s t 24 (0, 0)).1 - nsq p * ((hq p (nsq p) F s t 24 (0, 0)).2 * (hq p (nsq p) F s t 24 (0, 0)).2 % p)) % p) = 0 then 0 else 2
theorem pov_rg (p : Int) (F : Nat → Int) (s t : Int) : 0 ≤ pov p F s t ∧ pov p F s t ≤ 2 := by
  unfold pov
  split
  · decide
  · split <;> decide
theorem nsq_rg {p : Int} (hp : IsP p) : 0 ≤ nsq p ∧ nsq p < p := by
  rcases hp with e | e | e | e | e <;> subst e <;> decide
theorem sp_X2_pointsOver {k n : Nat} {x : Wx} {Z : Zt} {Q : Option Value → Wx → Zt → Prop} {a : Nat} {s t : Int} (o : Is2 x a) {p : Int} {F : Nat → Int} (hp : IsP p) (hfl : FA Z (a + 1) p) (hF : PA Z (a + 4) p F) (hs : 0 ≤ s ∧ s < p) (ht : 0 ≤ t ∧ t < p) (h : Q (some (i_ (pov p F s t))) x Z) : V mX2_pointsOver k n 0 [some (r_ a), some (i_ s), some (i_ t), none, none, none, none, none] [] x Z Q := by
  have hpr := hp.rg
  have hd := nsq_rg hp
  have hd1 := dg_lt F 10
  have hd2 := dg_ge F 10
  have hfin : hq p (nsq p) F s t (dg F 10 + 1).toNat (0, 0) = hq p (nsq p) F s t 24 (0, 0) := by
    rw [show 24 = (dg F 10 + 1).toNat + (24 - (dg F 10 + 1).toNat) by omega]
    symm
    apply hq_0
    intro i h3 h4
    by_cases c : i < 10
    · exact dg_above F 10 i (by omega) c
    · exact hF.2.1 i (by omega)
  have lp : ∀ (m : Nat) (w : Int × Int) (v : Int), v + 1 = m → m ≤ 10 → ((0 ≤ w.1 ∧ w.1 < p) ∧ 0 ≤ w.2 ∧ w.2 < p) → hq p (nsq p) F s t m w = hq p (nsq p) F s t 24 (0, 0) → V mX2_pointsOver k n 23 [some (r_ a), some (i_ s), some (i_ t), some (i_ (nsq p)), some (i_ w.1), some (i_ w.2), some (i_ v), none] [] x Z Q := by
    intro m
    induction m with
    | zero =>
      intro w v hv hm hw he
      have he' : w = hq p (nsq p) F s t 24 (0, 0) := he
      unfold pov at h
      rw [← he'] at h
      have h11 := mul13 (a := w.1) (b := w.1) ⟨hw.1.1, by omega⟩ ⟨hw.1.1, by omega⟩
      have h22 := mul13 (a := w.2) (b := w.2) ⟨hw.2.1, by omega⟩ ⟨hw.2.1, by omega⟩
      have hm2 := emr (w.2 * w.2) (p := p) (by omega)
      have hdm := mul13 (a := nsq p) (b := w.2 * w.2 % p) ⟨hd.1, by omega⟩ ⟨hm2.1, by omega⟩
      have hm3 := emr (w.1 * w.1 - nsq p * (w.2 * w.2 % p)) (p := p) (by omega)
      have hsq : Z (a + 1 + 2) ((w.1 * w.1 - nsq p * (w.2 * w.2 % p)) % p).toNat = sq p ((w.1 * w.1 - nsq p * (w.2 * w.2 % p)) % p) := by
        have := hfl.2.2.2 ((w.1 * w.1 - nsq p * (w.2 * w.2 % p)) % p).toNat (by omega)
        rw [show ((((w.1 * w.1 - nsq p * (w.2 * w.2 % p)) % p).toNat : Nat) : Int) = (w.1 * w.1 - nsq p * (w.2 * w.2 % p)) % p by omega] at this
        exact this
      have h01 : sq p ((w.1 * w.1 - nsq p * (w.2 * w.2 % p)) % p) = 0 ∨ sq p ((w.1 * w.1 - nsq p * (w.2 * w.2 % p)) % p) = 1 := sqL_01 _ _ _
      have tail : ¬ (w.1 = 0 ∧ w.2 = 0) → V mX2_pointsOver k n 105 [some (r_ a), none, none, some (i_ (nsq p)), some (i_ w.1), some (i_ w.2), none, none] [] x Z Q := by
        intro c
        rw [if_neg c] at h
        refine b_X2_pointsOver_105 o ?_
        rw [hfl.1, hsq]
        refine ⟨⟨by omega, by omega⟩, by omega, by omega, ⟨by omega, by omega⟩, by omega, by omega, h01, ⟨by omega, by omega⟩, fun c2 => ?_, fun c2 => ?_⟩
        · rw [if_pos c2] at h; exact h
        · rw [if_neg c2] at h; exact h
      refine b_X2_pointsOver_23 o ⟨⟨by omega, by omega⟩, fun _ => ⟨⟨by omega, by omega⟩, fun c => tail (fun e => c e.1), fun c => ⟨⟨by omega, by omega⟩, fun c2 => tail (fun e => c2 e.2), fun c2 => ?_⟩⟩, fun c => by omega⟩
      rw [if_pos ⟨c, c2⟩] at h; exact h
    | succ m ih =>
      intro w v hv hm hw he
      have hFi : Z (a + 4 + 1) (Int.toNat v) = F m := by
        rw [show v.toNat = m by omega]; exact hF.1 m (by omega)
      have hFr := hF.2.2.1 m
      have q1 := mul13 (a := w.2) (b := t) ⟨hw.2.1, by omega⟩ ⟨ht.1, by omega⟩
      have q2 := mul13 (a := w.1) (b := s) ⟨hw.1.1, by omega⟩ ⟨hs.1, by omega⟩
      have q3 := mul13 (a := w.1) (b := t) ⟨hw.1.1, by omega⟩ ⟨ht.1, by omega⟩
      have q4 := mul13 (a := w.2) (b := s) ⟨hw.2.1, by omega⟩ ⟨hs.1, by omega⟩
      have q5 := emr (w.2 * t) (p := p) (by omega)
      have q6 := mul13 (a := nsq p) (b := w.2 * t % p) ⟨hd.1, by omega⟩ ⟨q5.1, by omega⟩
      refine b_X2_pointsOver_23 o ?_
      rw [hfl.1, hFi]
      refine ⟨⟨by omega, by omega⟩, fun c => by omega, fun _ => ⟨⟨by omega, by omega⟩, by omega, by omega, by omega, ⟨by omega, by omega⟩, fun i1 e1 => ⟨⟨by omega, by omega⟩, ?_⟩⟩⟩
      rw [e1]
      exact ih ((w.1 * s + nsq p * (w.2 * t % p) + F m) % p, (w.1 * t + w.2 * s) % p) (v + (-1)) (by omega) (by omega) ⟨emr _ (by omega), emr _ (by omega)⟩ he
  refine b_X2_pointsOver_0 o ?_
  rw [hfl.2.1, hF.2.2.2]
  exact lp (dg F 10 + 1).toNat (0, 0) (dg F 10) (by omega) (by omega) ⟨⟨by decide, by show (0 : Int) < p; omega⟩, by decide, by show (0 : Int) < p; omega⟩ hfin
