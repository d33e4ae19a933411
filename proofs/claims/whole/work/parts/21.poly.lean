/-! ===== Poly: rows of ten numbers and their degrees ===== -/
def dg (f : Nat → Int) : Nat → Int
  | 0 => -1
  | m + 1 => if f m = 0 then dg f m else (m : Int)
theorem dg_lt (f : Nat → Int) : ∀ n, dg f n < n
  | 0 => by show (-1 : Int) < 0; decide
  | m + 1 => by
    have := dg_lt f m
    unfold dg
    split <;> omega
theorem dg_ge (f : Nat → Int) : ∀ n, -1 ≤ dg f n
  | 0 => by show (-1 : Int) ≤ -1; decide
  | m + 1 => by
    have := dg_ge f m
    unfold dg
    split <;> omega
theorem dg_above (f : Nat → Int) : ∀ (n i : Nat), dg f n < i → i < n → f i = 0
  | 0, i, _, h => by omega
  | m + 1, i, h1, h2 => by
    unfold dg at h1
    split at h1
    · rename_i h0
      by_cases e : i = m
      · subst e; exact h0
      · exact dg_above f m i h1 (by omega)
    · omega
theorem dg_lead (f : Nat → Int) : ∀ (n : Nat), 0 ≤ dg f n → f (dg f n).toNat ≠ 0
  | 0, h => by simp [dg] at h
  | m + 1, h => by
    unfold dg at h ⊢
    split
    · rename_i h0
      rw [if_pos h0] at h
      exact dg_lead f m h
    · rename_i h0
      exact h0
theorem dg_ext (f : Nat → Int) : ∀ (m n : Nat), n ≤ m → (∀ i, n ≤ i → i < m → f i = 0) → dg f m = dg f n
  | 0, n, h, _ => by rw [show n = 0 by omega]
  | m + 1, n, h, hz => by
    by_cases e : n = m + 1
    · subst e; rfl
    · show (if f m = 0 then dg f m else (m : Int)) = _
      rw [if_pos (hz m (by omega) (by omega))]
      exact dg_ext f m n (by omega) (fun i h1 h2 => hz i h1 (by omega))
theorem dg_congr (f g : Nat → Int) : ∀ n, (∀ i, i < n → f i = g i) → dg f n = dg g n
  | 0, _ => rfl
  | m + 1, h => by
    unfold dg
    rw [h m (by omega), dg_congr f g m (fun i hi => h i (by omega))]
theorem up_same {Z : Zt} {a j : Nat} {v : Int} (h : Z a j = v) : up Z a j v = Z := by
  funext b i
  unfold up
  split
  · rename_i e; rw [e.1, e.2, h]
  · rfl
theorem up_up (Z : Zt) (a j : Nat) (v w : Int) : up (up Z a j v) a j w = up Z a j w := by
  funext b i
  unfold up
  split <;> rfl
def fillZ (Z : Zt) (a N : Nat) (v : Int) : Zt := fun b i => if b = a ∧ i < N then v else Z b i
theorem dJ7_fill_53178_0 : decode cJ7_fill_53178 0 = .ok (.iconst 0, 1) := by decide +kernel
theorem dJ7_fill_53178_1 : decode cJ7_fill_53178 1 = .ok (.istore_n 2, 1) := by decide +kernel
theorem dJ7_fill_53178_2 : decode cJ7_fill_53178 2 = .ok (.aload_n 0, 1) := by decide +kernel
theorem dJ7_fill_53178_3 : decode cJ7_fill_53178 3 = .ok (.arraylength, 1) := by decide +kernel
theorem dJ7_fill_53178_4 : decode cJ7_fill_53178 4 = .ok (.istore_n 3, 1) := by decide +kernel
theorem dJ7_fill_53178_5 : decode cJ7_fill_53178 5 = .ok (.iload_n 2, 1) := by decide +kernel
theorem dJ7_fill_53178_6 : decode cJ7_fill_53178 6 = .ok (.iload_n 3, 1) := by decide +kernel
theorem dJ7_fill_53178_7 : decode cJ7_fill_53178 7 = .ok (.if_icmp .ge 13, 3) := by decide +kernel
theorem dJ7_fill_53178_10 : decode cJ7_fill_53178 10 = .ok (.aload_n 0, 1) := by decide +kernel
theorem dJ7_fill_53178_11 : decode cJ7_fill_53178 11 = .ok (.iload_n 2, 1) := by decide +kernel
theorem dJ7_fill_53178_12 : decode cJ7_fill_53178 12 = .ok (.iload_n 1, 1) := by decide +kernel
theorem dJ7_fill_53178_13 : decode cJ7_fill_53178 13 = .ok (.iastore, 1) := by decide +kernel
theorem dJ7_fill_53178_14 : decode cJ7_fill_53178 14 = .ok (.iinc 2 1, 3) := by decide +kernel
theorem dJ7_fill_53178_17 : decode cJ7_fill_53178 17 = .ok (.goto (-12), 3) := by decide +kernel
theorem dJ7_fill_53178_20 : decode cJ7_fill_53178 20 = .ok (.return_, 1) := by decide +kernel
set_option maxRecDepth 20000 in
theorem b_J7_fill_53178_0 {k n : Nat} {x : Wx} {Z : Zt} {Q : Option Value → Wx → Zt → Prop} {a0 : Nat} {v1 : Int} {N : Nat} (s_a0 : x.1 a0 = some (100, N)) (l_N : N ≤ 2147483647)
    (h : V mJ7_fill_53178 k n 5 [some (r_ a0), some (i_ v1), some (i_ 0), some (i_ (N : Int))] [] x Z Q) :
    V mJ7_fill_53178 k n 0 [some (r_ a0), some (i_ v1), none, none] [] x Z Q :=
  V_iconst dJ7_fill_53178_0 (V_istore_n (lv' := [some (r_ a0), some (i_ v1), some (i_ 0), none]) dJ7_fill_53178_1 (Nat.le_of_ble_eq_true rfl) rfl (V_aload_n dJ7_fill_53178_2 rfl (V_alen (t := 100) s_a0 (by decide) l_N dJ7_fill_53178_3 (V_istore_n (lv' := [some (r_ a0), some (i_ v1), some (i_ 0), some (i_ (N : Int))]) dJ7_fill_53178_4 (Nat.le_of_ble_eq_true rfl) rfl (V_msk [true, true, true, true] rfl h)))))
set_option maxRecDepth 20000 in
theorem b_J7_fill_53178_5 {k n : Nat} {x : Wx} {Z : Zt} {Q : Option Value → Wx → Zt → Prop} {a0 : Nat} {v1 : Int} {v2 : Int} {v3 : Int} {N : Nat} (s_a0 : x.1 a0 = some (100, N)) (l_N : N ≤ 2147483647)
    (h : Rg v2 ∧ Rg v3 ∧ (((v3 ≤ v2) → (Q none x Z)) ∧ ((v2 < v3) → (0 ≤ v2 ∧ v2 < N ∧ (∀ Z1 : Zt, Z1 = up Z a0 v2.toNat v1 → (V mJ7_fill_53178 k n 5 [some (r_ a0), some (i_ v1), some (i_ (v2 + 1)), some (i_ v3)] [] x Z1 Q)))))) :
    V mJ7_fill_53178 k n 5 [some (r_ a0), some (i_ v1), some (i_ v2), some (i_ v3)] [] x Z Q :=
  V_iload_n dJ7_fill_53178_5 rfl (V_iload_n dJ7_fill_53178_6 rfl (V_icmp_ge (tgt := 20) dJ7_fill_53178_7 rfl h.1 h.2.1 (fun c1 => V_ret dJ7_fill_53178_20 rfl (h.2.2.1 c1)) (fun c1 => V_aload_n dJ7_fill_53178_10 rfl (V_iload_n dJ7_fill_53178_11 rfl (V_iload_n dJ7_fill_53178_12 rfl (V_iast (t := 100) s_a0 (by decide) (by decide) rfl (h.2.2.2 c1).1 (h.2.2.2 c1).2.1 l_N dJ7_fill_53178_13 (V_nmZ (fun Z1 eZ1 => V_iinc (lv' := [some (r_ a0), some (i_ v1), some (i_ (v2 + 1)), some (i_ v3)]) dJ7_fill_53178_14 rfl (Nat.le_of_ble_eq_true rfl) rfl (V_goto (tgt := 5) dJ7_fill_53178_17 rfl (V_msk [true, true, true, true] rfl ((h.2.2.2 c1).2.2 Z1 eZ1)))))))))))
theorem lp_fill {k n : Nat} {x : Wx} {Q : Option Value → Wx → Zt → Prop} {a N : Nat} {v : Int} (s : x.1 a = some (100, N)) (hN : N ≤ 2147483647) (Z0 : Zt) (h : Q none x (fillZ Z0 a N v)) : ∀ (m : Nat) (j : Int) (Z : Zt), 0 ≤ j → j + m = N → Z = fillZ Z0 a j.toNat v → V mJ7_fill_53178 k n 5 [some (r_ a), some (i_ v), some (i_ j), some (i_ (N : Int))] [] x Z Q := by
  intro m
  induction m with
  | zero =>
    intro j Z hj hm hz
    refine b_J7_fill_53178_5 s hN ⟨⟨by omega, by omega⟩, ⟨by omega, by omega⟩, fun c => ?_, fun c => by omega⟩
    rw [hz, show j.toNat = N by omega]; exact h
  | succ m ih =>
    intro j Z hj hm hz
    refine b_J7_fill_53178_5 s hN ⟨⟨by omega, by omega⟩, ⟨by omega, by omega⟩, fun c => by omega, fun c => ⟨hj, by omega, fun Z1 e1 => ih (j + 1) Z1 (by omega) (by omega) ?_⟩⟩
    rw [e1, hz]
    funext b i
    unfold up fillZ
    by_cases c1 : b = a ∧ i = j.toNat
    · rw [if_pos c1, if_pos ⟨c1.1, by omega⟩]
    · rw [if_neg c1]
      by_cases c2 : b = a ∧ i < j.toNat
      · rw [if_pos c2, if_pos ⟨c2.1, by omega⟩]
      · rw [if_neg c2, if_neg (by omega)]
theorem sp_J7_fill_53178 {k n : Nat} {x : Wx} {Z : Zt} {Q : Option Value → Wx → Zt → Prop} {a N : Nat} {v : Int} (s : x.1 a = some (100, N)) (hN : N ≤ 2147483647) (h : Q none x (fillZ Z a N v)) : V mJ7_fill_53178 k n 0 [some (r_ a), some (i_ v), none, none] [] x Z Q :=
  b_J7_fill_53178_0 s hN (lp_fill s hN Z h N 0 Z (by omega) (by omega) (by funext b i; unfold fillZ; rw [if_neg (by omega)]))
theorem dX7_at_0 : decode cX7_at 0 = .ok (.iload_n 1, 1) := by decide +kernel
theorem dX7_at_1 : decode cX7_at 1 = .ok (.ifCond .lt 9, 3) := by decide +kernel
theorem dX7_at_4 : decode cX7_at 4 = .ok (.iload_n 1, 1) := by decide +kernel
theorem dX7_at_5 : decode cX7_at 5 = .ok (.bipush 10, 2) := by decide +kernel
theorem dX7_at_7 : decode cX7_at 7 = .ok (.if_icmp .lt 7, 3) := by decide +kernel
theorem dX7_at_10 : decode cX7_at 10 = .ok (.iconst 0, 1) := by decide +kernel
theorem dX7_at_11 : decode cX7_at 11 = .ok (.goto 9, 3) := by decide +kernel
theorem dX7_at_14 : decode cX7_at 14 = .ok (.aload_n 0, 1) := by decide +kernel
theorem dX7_at_15 : decode cX7_at 15 = .ok (.getfield 15, 3) := by decide +kernel
theorem dX7_at_18 : decode cX7_at 18 = .ok (.iload_n 1, 1) := by decide +kernel
theorem dX7_at_19 : decode cX7_at 19 = .ok (.iaload, 1) := by decide +kernel
theorem dX7_at_20 : decode cX7_at 20 = .ok (.ireturn, 1) := by decide +kernel
set_option maxRecDepth 20000 in
theorem b_X7_at_0 {k n : Nat} {x : Wx} {Z : Zt} {Q : Option Value → Wx → Zt → Prop} {a0 : Nat} {v1 : Int} (o_a0 : Is7 x a0)
    (h : Rg v1 ∧ (((v1 < 0) → (Q (some (i_ 0)) x Z)) ∧ ((0 ≤ v1) → (((v1 < 10) → (Q (some (i_ (Z (a0 + 1) v1.toNat))) x Z)) ∧ ((10 ≤ v1) → (Q (some (i_ 0)) x Z)))))) :
    V mX7_at k n 0 [some (r_ a0), some (i_ v1)] [] x Z Q :=
  V_iload_n dX7_at_0 rfl (V_if_lt (tgt := 10) dX7_at_1 rfl h.1 (fun c1 => V_iconst dX7_at_10 (V_goto (tgt := 20) dX7_at_11 rfl (V_iret (ty := .int) dX7_at_20 rfl rfl (h.2.1 c1)))) (fun c1 => V_iload_n dX7_at_4 rfl (V_bipush dX7_at_5 rfl (V_icmp_lt (tgt := 14) dX7_at_7 rfl h.1 (rg_c rfl) (fun c2 => V_aload_n dX7_at_14 rfl (G_7_1 o_a0.1 o_a0.2.1 lf_7_15 dX7_at_15 (V_iload_n dX7_at_18 rfl (V_iald (t := 100) o_a0.2.2 (by decide) rfl c1 c2 (Nat.le_of_ble_eq_true rfl) dX7_at_19 (V_iret (ty := .int) dX7_at_20 rfl rfl ((h.2.2 c1).1 c2)))))) (fun c2 => V_iconst dX7_at_10 (V_goto (tgt := 20) dX7_at_11 rfl (V_iret (ty := .int) dX7_at_20 rfl rfl ((h.2.2 c1).2 c2))))))))
theorem sp_X7_at {k n : Nat} {x : Wx} {Z : Zt} {Q : Option Value → Wx → Zt → Prop} {a : Nat} {v : Int} (o : Is7 x a) (h1 : 0 ≤ v) (h2 : v < 10) (h : Q (some (i_ (Z (a + 1) v.toNat))) x Z) : V mX7_at k n 0 [some (r_ a), some (i_ v)] [] x Z Q :=
  b_X7_at_0 o ⟨⟨by omega, by omega⟩, fun c => by omega, fun c => ⟨fun c2 => h, fun c2 => by omega⟩⟩
theorem dX7_settle_0 : decode cX7_settle 0 = .ok (.aload_n 0, 1) := by decide +kernel
theorem dX7_settle_1 : decode cX7_settle 1 = .ok (.iconst (-1), 1) := by decide +kernel
theorem dX7_settle_2 : decode cX7_settle 2 = .ok (.putfield 9, 3) := by decide +kernel
theorem dX7_settle_5 : decode cX7_settle 5 = .ok (.iload_n 1, 1) := by decide +kernel
theorem dX7_settle_6 : decode cX7_settle 6 = .ok (.bipush 10, 2) := by decide +kernel
theorem dX7_settle_8 : decode cX7_settle 8 = .ok (.if_icmp .ge 7, 3) := by decide +kernel
theorem dX7_settle_11 : decode cX7_settle 11 = .ok (.iload_n 1, 1) := by decide +kernel
theorem dX7_settle_12 : decode cX7_settle 12 = .ok (.goto 5, 3) := by decide +kernel
theorem dX7_settle_15 : decode cX7_settle 15 = .ok (.bipush 9, 2) := by decide +kernel
theorem dX7_settle_17 : decode cX7_settle 17 = .ok (.istore_n 2, 1) := by decide +kernel
theorem dX7_settle_18 : decode cX7_settle 18 = .ok (.iload_n 2, 1) := by decide +kernel
theorem dX7_settle_19 : decode cX7_settle 19 = .ok (.ifCond .lt 31, 3) := by decide +kernel
theorem dX7_settle_22 : decode cX7_settle 22 = .ok (.aload_n 0, 1) := by decide +kernel
theorem dX7_settle_23 : decode cX7_settle 23 = .ok (.getfield 9, 3) := by decide +kernel
theorem dX7_settle_26 : decode cX7_settle 26 = .ok (.iconst (-1), 1) := by decide +kernel
theorem dX7_settle_27 : decode cX7_settle 27 = .ok (.if_icmp .ne 23, 3) := by decide +kernel
theorem dX7_settle_30 : decode cX7_settle 30 = .ok (.aload_n 0, 1) := by decide +kernel
theorem dX7_settle_31 : decode cX7_settle 31 = .ok (.getfield 15, 3) := by decide +kernel
theorem dX7_settle_34 : decode cX7_settle 34 = .ok (.iload_n 2, 1) := by decide +kernel
theorem dX7_settle_35 : decode cX7_settle 35 = .ok (.iaload, 1) := by decide +kernel
theorem dX7_settle_36 : decode cX7_settle 36 = .ok (.ifCond .eq 8, 3) := by decide +kernel
theorem dX7_settle_39 : decode cX7_settle 39 = .ok (.aload_n 0, 1) := by decide +kernel
theorem dX7_settle_40 : decode cX7_settle 40 = .ok (.iload_n 2, 1) := by decide +kernel
theorem dX7_settle_41 : decode cX7_settle 41 = .ok (.putfield 9, 3) := by decide +kernel
theorem dX7_settle_44 : decode cX7_settle 44 = .ok (.iinc 2 (-1), 3) := by decide +kernel
theorem dX7_settle_47 : decode cX7_settle 47 = .ok (.goto (-29), 3) := by decide +kernel
theorem dX7_settle_50 : decode cX7_settle 50 = .ok (.return_, 1) := by decide +kernel
set_option maxRecDepth 20000 in
theorem b_X7_settle_0 {k n : Nat} {x : Wx} {Z : Zt} {Q : Option Value → Wx → Zt → Prop} {a0 : Nat} {v1 : Int} (o_a0 : Is7 x a0)
    (h : ∀ Z1 : Zt, Z1 = up Z a0 0 (-1) → (Rg v1 ∧ (((10 ≤ v1) → (V mX7_settle k n 18 [some (r_ a0), none, some (i_ 9)] [] x Z1 Q)) ∧ ((v1 < 10) → (V mX7_settle k n 18 [some (r_ a0), none, some (i_ v1)] [] x Z1 Q))))) :
    V mX7_settle k n 0 [some (r_ a0), some (i_ v1), none] [] x Z Q :=
  V_aload_n dX7_settle_0 rfl (V_iconst dX7_settle_1 (P_7_0 o_a0.1 lf_7_9 dX7_settle_2 (V_nmZ (fun Z1 eZ1 => V_iload_n dX7_settle_5 rfl (V_bipush dX7_settle_6 rfl (V_icmp_ge (tgt := 15) dX7_settle_8 rfl (h Z1 eZ1).1 (rg_c rfl) (fun c1 => V_bipush dX7_settle_15 rfl (V_istore_n (lv' := [some (r_ a0), some (i_ v1), some (i_ 9)]) dX7_settle_17 (Nat.le_of_ble_eq_true rfl) rfl (V_msk [true, false, true] rfl ((h Z1 eZ1).2.1 c1)))) (fun c1 => V_iload_n dX7_settle_11 rfl (V_goto (tgt := 17) dX7_settle_12 rfl (V_istore_n (lv' := [some (r_ a0), some (i_ v1), some (i_ v1)]) dX7_settle_17 (Nat.le_of_ble_eq_true rfl) rfl (V_msk [true, false, true] rfl ((h Z1 eZ1).2.2 c1)))))))))))
set_option maxRecDepth 20000 in
theorem b_X7_settle_18 {k n : Nat} {x : Wx} {Z : Zt} {Q : Option Value → Wx → Zt → Prop} {a0 : Nat} {v2 : Int} (o_a0 : Is7 x a0)
    (h : Rg v2 ∧ (((v2 < 0) → (Q none x Z)) ∧ ((0 ≤ v2) → (Rg (Z a0 0) ∧ (((Z a0 0 ≠ (-1)) → (Q none x Z)) ∧ ((Z a0 0 = (-1)) → (v2 < 10 ∧ (Rg (Z (a0 + 1) v2.toNat) ∧ (((Z (a0 + 1) v2.toNat = 0) → (V mX7_settle k n 18 [some (r_ a0), none, some (i_ (v2 + (-1)))] [] x Z Q)) ∧ ((Z (a0 + 1) v2.toNat ≠ 0) → (∀ Z1 : Zt, Z1 = up Z a0 0 v2 → (V mX7_settle k n 18 [some (r_ a0), none, some (i_ (v2 + (-1)))] [] x Z1 Q)))))))))))) :
    V mX7_settle k n 18 [some (r_ a0), none, some (i_ v2)] [] x Z Q :=
  V_iload_n dX7_settle_18 rfl (V_if_lt (tgt := 50) dX7_settle_19 rfl h.1 (fun c1 => V_ret dX7_settle_50 rfl (h.2.1 c1)) (fun c1 => V_aload_n dX7_settle_22 rfl (G_7_0 o_a0.1 lf_7_9 dX7_settle_23 (V_iconst dX7_settle_26 (V_icmp_ne (tgt := 50) dX7_settle_27 rfl (h.2.2 c1).1 (rg_c rfl) (fun c2 => V_ret dX7_settle_50 rfl ((h.2.2 c1).2.1 c2)) (fun c2 => V_aload_n dX7_settle_30 rfl (G_7_1 o_a0.1 o_a0.2.1 lf_7_15 dX7_settle_31 (V_iload_n dX7_settle_34 rfl (V_iald (t := 100) o_a0.2.2 (by decide) rfl c1 ((h.2.2 c1).2.2 c2).1 (Nat.le_of_ble_eq_true rfl) dX7_settle_35 (V_if_eq (tgt := 44) dX7_settle_36 rfl ((h.2.2 c1).2.2 c2).2.1 (fun c3 => V_iinc (lv' := [some (r_ a0), none, some (i_ (v2 + (-1)))]) dX7_settle_44 rfl (Nat.le_of_ble_eq_true rfl) rfl (V_goto (tgt := 18) dX7_settle_47 rfl (V_msk [true, false, true] rfl (((h.2.2 c1).2.2 c2).2.2.1 c3)))) (fun c3 => V_aload_n dX7_settle_39 rfl (V_iload_n dX7_settle_40 rfl (P_7_0 o_a0.1 lf_7_9 dX7_settle_41 (V_nmZ (fun Z1 eZ1 => V_iinc (lv' := [some (r_ a0), none, some (i_ (v2 + (-1)))]) dX7_settle_44 rfl (Nat.le_of_ble_eq_true rfl) rfl (V_goto (tgt := 18) dX7_settle_47 rfl (V_msk [true, false, true] rfl ((((h.2.2 c1).2.2 c2).2.2.2 c3) Z1 eZ1))))))))))))))))))
theorem lp_settle {k n : Nat} {x : Wx} {Q : Option Value → Wx → Zt → Prop} {a : Nat} (o : Is7 x a) : ∀ (m : Nat) (v : Int) (Z : Zt), v = (m : Int) - 1 → m ≤ 10 → (∀ i : Nat, i < 10 → Rg (Z (a + 1) i)) → Z a 0 = -1 → Q none x (up Z a 0 (dg (Z (a + 1)) m)) → V mX7_settle k n 18 [some (r_ a), none, some (i_ v)] [] x Z Q := by
  intro m
  induction m with
  | zero =>
    intro v Z hv hm hr h0 h
    refine b_X7_settle_18 o ⟨⟨by omega, by omega⟩, fun c => ?_, fun c => by omega⟩
    rw [up_same (by rw [h0]; rfl)] at h; exact h
  | succ m ih =>
    intro v Z hv hm hr h0 h
    have hvm : v.toNat = m := by omega
    refine b_X7_settle_18 o ⟨⟨by omega, by omega⟩, fun c => by omega, fun c => ⟨⟨by omega, by omega⟩, fun c2 => absurd h0 c2, fun c2 => ⟨by omega, hr _ (by omega), fun c3 => ?_, fun c3 Z1 e1 => ?_⟩⟩⟩
    · refine ih (v + (-1)) Z (by omega) (by omega) hr h0 ?_
      unfold dg at h
      rw [hvm] at c3
      rw [if_pos c3] at h; exact h
    · unfold dg at h
      rw [hvm] at c3
      rw [if_neg c3, show (m : Int) = v by omega, ← e1] at h
      have hz : Z1 a 0 = v := by rw [e1, up_self]
      refine b_X7_settle_18 o ⟨⟨by omega, by omega⟩, fun _ => h, fun d1 => ⟨⟨by omega, by omega⟩, fun _ => h, fun d2 => by omega⟩⟩
theorem sp_X7_settle {k n : Nat} {x : Wx} {Z : Zt} {Q : Option Value → Wx → Zt → Prop} {a : Nat} {v : Int} (o : Is7 x a) (h1 : -1000 ≤ v) (h2 : v < 1000) (hr : ∀ i : Nat, i < 10 → Rg (Z (a + 1) i)) (h : Q none x (up Z a 0 (dg (Z (a + 1)) ((min v 9) + 1).toNat))) : V mX7_settle k n 0 [some (r_ a), some (i_ v), none] [] x Z Q := by
  have e : ∀ Z1 : Zt, Z1 = up Z a 0 (-1) → Z1 (a + 1) = Z (a + 1) := fun Z1 e => by rw [e]; exact up_row _ _ _ _ _ (by omega)
  refine b_X7_settle_0 o (fun Z1 e1 => ⟨⟨by omega, by omega⟩, fun c => ?_, fun c => ?_⟩)
  · refine lp_settle o 10 9 Z1 (by omega) (by omega) (by rw [e Z1 e1]; exact hr) (by rw [e1, up_self]) ?_
    rw [e Z1 e1, e1, up_up]
    rw [show (min v 9 + 1).toNat = 10 by omega] at h; exact h
  · by_cases hv : v < 0
    · refine b_X7_settle_18 o ⟨⟨by omega, by omega⟩, fun _ => ?_, fun c2 => by omega⟩
      rw [show (min v 9 + 1).toNat = 0 by omega] at h
      rw [e1]; exact h
    · refine lp_settle o (v + 1).toNat v Z1 (by omega) (by omega) (by rw [e Z1 e1]; exact hr) (by rw [e1, up_self]) ?_
      rw [e Z1 e1, e1, up_up]
      rw [show (min v 9 + 1).toNat = (v + 1).toNat by omega] at h; exact h
/-- the object at a holds the polynomial f, by remainders of p -/
def PA (Z : Zt) (a : Nat) (p : Int) (f : Nat → Int) : Prop := (∀ i : Nat, i < 10 → Z (a + 1) i = f i) ∧ (∀ i : Nat, 10 ≤ i → f i = 0) ∧ (∀ i : Nat, 0 ≤ f i ∧ f i < p) ∧ Z a 0 = dg f 10
abbrev At2 (a : Nat) : Nat → Prop := fun b => b = a ∨ b = a + 1
theorem PA.mono {Z : Zt} {a : Nat} {p q : Int} {f : Nat → Int} (h : PA Z a p f) (hq : p ≤ q) : PA Z a q f := ⟨h.1, h.2.1, fun i => ⟨(h.2.2.1 i).1, by have := (h.2.2.1 i).2; omega⟩, h.2.2.2⟩
theorem PA.rg {Z : Zt} {a : Nat} {p : Int} {f : Nat → Int} (h : PA Z a p f) (hp : p ≤ 13) : ∀ i : Nat, i < 10 → Rg (Z (a + 1) i) := fun i hi => by
  rw [h.1 i hi]
  have := h.2.2.1 i
  exact ⟨by omega, by omega⟩
theorem PA.kept {Z Z' : Zt} {a : Nat} {p : Int} {f : Nat → Int} {A : Nat → Prop} (h : PA Z a p f) (ho : Oth Z Z' A) (h1 : ¬ A a) (h2 : ¬ A (a + 1)) : PA Z' a p f := by
  refine ⟨fun i hi => ?_, h.2.1, h.2.2.1, ?_⟩
  · rw [ho _ h2]; exact h.1 i hi
  · rw [ho _ h1]; exact h.2.2.2
theorem FA.kept {Z Z' : Zt} {a : Nat} {p : Int} {A : Nat → Prop} (h : FA Z a p) (ho : Oth Z Z' A) (h1 : ¬ A a) (h2 : ¬ A (a + 1)) (h3 : ¬ A (a + 2)) : FA Z' a p := by
  unfold FA
  rw [ho _ h1, ho _ h2, ho _ h3]
  exact h
theorem Is7.ne {x : Wx} {a b : Nat} (h : Is7 x a) (h2 : Is7 x b) : a ≠ b + 1 := fun e => by
  have h1 := h.1
  rw [e, h2.2.2] at h1
  cases h1
theorem Is47 {x : Wx} {a b : Nat} (h : Is4 x a) (h2 : Is7 x b) : ¬ At2 b a ∧ ¬ At2 b (a + 1) ∧ ¬ At2 b (a + 2) := by
  have k0 := h.1
  have k1 := h.2.2.1
  have k2 := h.2.2.2.2
  have j0 := h2.1
  have j1 := h2.2.2
  refine ⟨fun e => ?_, fun e => ?_, fun e => ?_⟩ <;> rcases e with e | e
  · rw [e, j0] at k0; cases k0
  · rw [e, j1] at k0; cases k0
  · rw [e, j0] at k1; cases k1
  · rw [e, j1] at k1; cases k1
  · rw [e, j0] at k2; cases k2
  · rw [e, j1] at k2; cases k2
/-- the degree that is kept, once the row is f -/
theorem PA.settled {Z : Zt} {a : Nat} {p : Int} {f : Nat → Int} {t : Int} (h1 : ∀ i : Nat, i < 10 → Z (a + 1) i = f i) (h2 : ∀ i : Nat, 10 ≤ i → f i = 0) (h3 : ∀ i : Nat, 0 ≤ f i ∧ f i < p) (h4 : ∀ i : Nat, t < i → f i = 0) : PA (up Z a 0 (dg (Z (a + 1)) ((min t 9) + 1).toNat)) a p f := by
  refine ⟨fun i hi => ?_, h2, h3, ?_⟩
  · rw [up_row _ _ _ _ _ (by omega)]; exact h1 i hi
  · rw [up_self, dg_congr _ f _ (fun i hi => h1 i (by omega))]
    exact (dg_ext f 10 _ (by omega) (fun i h5 h6 => h4 i (by omega))).symm
theorem PA.hi {Z : Zt} {a : Nat} {p : Int} {f : Nat → Int} (h : PA Z a p f) (i : Nat) (hi : Z a 0 < i) : f i = 0 := by
  rw [h.2.2.2] at hi
  by_cases c : i < 10
  · exact dg_above f 10 i hi c
  · exact h.2.1 i (by omega)
theorem PA.dgr {Z : Zt} {a : Nat} {p : Int} {f : Nat → Int} (h : PA Z a p f) : -1 ≤ Z a 0 ∧ Z a 0 < 10 := by
  rw [h.2.2.2]
  exact ⟨dg_ge f 10, by have := dg_lt f 10; omega⟩
theorem dX7_clear_0 : decode cX7_clear 0 = .ok (.aload_n 0, 1) := by decide +kernel
theorem dX7_clear_1 : decode cX7_clear 1 = .ok (.getfield 15, 3) := by decide +kernel
theorem dX7_clear_4 : decode cX7_clear 4 = .ok (.iconst 0, 1) := by decide +kernel
theorem dX7_clear_5 : decode cX7_clear 5 = .ok (.invokestatic 19, 3) := by decide +kernel
theorem dX7_clear_8 : decode cX7_clear 8 = .ok (.aload_n 0, 1) := by decide +kernel
theorem dX7_clear_9 : decode cX7_clear 9 = .ok (.iconst (-1), 1) := by decide +kernel
theorem dX7_clear_10 : decode cX7_clear 10 = .ok (.putfield 9, 3) := by decide +kernel
theorem dX7_clear_13 : decode cX7_clear 13 = .ok (.return_, 1) := by decide +kernel
set_option maxRecDepth 20000 in
theorem b_X7_clear_0 {k n : Nat} {x : Wx} {Z : Zt} {Q : Option Value → Wx → Zt → Prop} {a0 : Nat} (o_a0 : Is7 x a0)
    (h : ∀ Z1 : Zt, Z1 = fillZ Z (a0 + 1) 10 (0 : Int) → (∀ Z2 : Zt, Z2 = up Z1 a0 0 (-1) → (Q none x Z2))) :
    V mX7_clear k n 0 [some (r_ a0)] [] x Z Q :=
  V_aload_n dX7_clear_0 rfl (G_7_1 o_a0.1 o_a0.2.1 lf_7_15 dX7_clear_1 (V_iconst dX7_clear_4 (V_callS (k' := 0) (n' := 0) [r_ (a0 + 1), i_ 0] [] okJ7_fill_53178 lm_7_19 lsJ7_fill_53178 (Nat.le_of_ble_eq_true rfl) (Nat.le_of_ble_eq_true rfl) (Nat.le_of_ble_eq_true rfl) (cat_of rfl) (Nat.le_of_ble_eq_true rfl) (Nat.zero_le _) (Nat.zero_le _) rfl dX7_clear_5 (sp_J7_fill_53178 o_a0.2.2 (Nat.le_of_ble_eq_true rfl)  (V_nmZ (fun Z1 eZ1 => V_aload_n dX7_clear_8 rfl (V_iconst dX7_clear_9 (P_7_0 o_a0.1 lf_7_9 dX7_clear_10 (V_nmZ (fun Z2 eZ2 => V_ret dX7_clear_13 rfl ((h Z1 eZ1) Z2 eZ2)))))))))))
theorem sp_X7_clear {k n : Nat} {x : Wx} {Z : Zt} {Q : Option Value → Wx → Zt → Prop} {a : Nat} (o : Is7 x a) (h : ∀ Z' : Zt, (PA Z' a 1 (fun _ => 0) ∧ Oth Z Z' (At2 a)) → Q none x Z') : V mX7_clear k n 0 [some (r_ a)] [] x Z Q := by
  refine b_X7_clear_0 o (fun Z1 e1 Z2 e2 => h Z2 ⟨⟨fun i hi => ?_, fun _ _ => rfl, fun _ => ⟨by show (0 : Int) ≤ 0; decide, by show (0 : Int) < 1; decide⟩, ?_⟩, fun b hb => ?_⟩)
  · rw [e2, up_row _ _ _ _ _ (by omega), e1]; unfold fillZ; rw [if_pos ⟨rfl, hi⟩]
  · rw [e2, up_self]; rfl
  · rw [e2, up_row _ _ _ _ _ (fun e => hb (Or.inl e)), e1]
    funext i
    unfold fillZ
    rw [if_neg (fun e => hb (Or.inr e.1))]
theorem dX7_put_0 : decode cX7_put 0 = .ok (.iload_n 1, 1) := by decide +kernel
theorem dX7_put_1 : decode cX7_put 1 = .ok (.ifCond .lt 9, 3) := by decide +kernel
theorem dX7_put_4 : decode cX7_put 4 = .ok (.iload_n 1, 1) := by decide +kernel
theorem dX7_put_5 : decode cX7_put 5 = .ok (.bipush 10, 2) := by decide +kernel
theorem dX7_put_7 : decode cX7_put 7 = .ok (.if_icmp .lt 4, 3) := by decide +kernel
theorem dX7_put_10 : decode cX7_put 10 = .ok (.return_, 1) := by decide +kernel
theorem dX7_put_11 : decode cX7_put 11 = .ok (.aload_n 0, 1) := by decide +kernel
theorem dX7_put_12 : decode cX7_put 12 = .ok (.getfield 15, 3) := by decide +kernel
theorem dX7_put_15 : decode cX7_put 15 = .ok (.iload_n 1, 1) := by decide +kernel
theorem dX7_put_16 : decode cX7_put 16 = .ok (.iload_n 2, 1) := by decide +kernel
theorem dX7_put_17 : decode cX7_put 17 = .ok (.iastore, 1) := by decide +kernel
theorem dX7_put_18 : decode cX7_put 18 = .ok (.aload_n 0, 1) := by decide +kernel
theorem dX7_put_19 : decode cX7_put 19 = .ok (.aload_n 0, 1) := by decide +kernel
theorem dX7_put_20 : decode cX7_put 20 = .ok (.getfield 9, 3) := by decide +kernel
theorem dX7_put_23 : decode cX7_put 23 = .ok (.iload_n 1, 1) := by decide +kernel
theorem dX7_put_24 : decode cX7_put 24 = .ok (.invokestatic 25, 3) := by decide +kernel
theorem dX7_put_27 : decode cX7_put 27 = .ok (.invokevirtual 31, 3) := by decide +kernel
theorem dX7_put_30 : decode cX7_put 30 = .ok (.return_, 1) := by decide +kernel
set_option maxRecDepth 20000 in
theorem b_X7_put_0 {k n : Nat} {x : Wx} {Z : Zt} {Q : Option Value → Wx → Zt → Prop} {a0 : Nat} {v1 : Int} {v2 : Int} (o_a0 : Is7 x a0)
    (h : Rg v1 ∧ (((v1 < 0) → (Q none x Z)) ∧ ((0 ≤ v1) → (((v1 < 10) → (∀ Z1 : Zt, Z1 = up Z (a0 + 1) v1.toNat v2 → (Rg (Z1 a0 0) ∧ ((-1000) ≤ (max (Z1 a0 0) v1) ∧ (max (Z1 a0 0) v1) < 1000 ∧ (∀ i : Nat, i < 10 → Rg (Z1 (a0 + 1) i)) ∧ (∀ Z2 : Zt, Z2 = up Z1 a0 0 (dg (Z1 (a0 + 1)) ((min (max (Z1 a0 0) v1) 9) + 1).toNat) → (Q none x Z2)))))) ∧ ((10 ≤ v1) → (Q none x Z)))))) :
    V mX7_put k n 0 [some (r_ a0), some (i_ v1), some (i_ v2)] [] x Z Q :=
  V_iload_n dX7_put_0 rfl (V_if_lt (tgt := 10) dX7_put_1 rfl h.1 (fun c1 => V_ret dX7_put_10 rfl (h.2.1 c1)) (fun c1 => V_iload_n dX7_put_4 rfl (V_bipush dX7_put_5 rfl (V_icmp_lt (tgt := 11) dX7_put_7 rfl h.1 (rg_c rfl) (fun c2 => V_aload_n dX7_put_11 rfl (G_7_1 o_a0.1 o_a0.2.1 lf_7_15 dX7_put_12 (V_iload_n dX7_put_15 rfl (V_iload_n dX7_put_16 rfl (V_iast (t := 100) o_a0.2.2 (by decide) (by decide) rfl c1 c2 (Nat.le_of_ble_eq_true rfl) dX7_put_17 (V_nmZ (fun Z1 eZ1 => V_aload_n dX7_put_18 rfl (V_aload_n dX7_put_19 rfl (G_7_0 o_a0.1 lf_7_9 dX7_put_20 (V_iload_n dX7_put_23 rfl (V_mmax lm_7_25 (Nat.le_of_ble_eq_true rfl) (Nat.le_of_ble_eq_true rfl) (((h.2.2 c1).1 c2) Z1 eZ1).1 h.1 dX7_put_24 (V_callV (k' := 0) (n' := 0) (t := 7) (q := (RX7, TX7, 2)) [i_ (max (Z1 a0 0) v1)] [] okX7_settle o_a0.1 rfl rfl lm_7_31 liX7_settle lqX7_settle (Nat.le_of_ble_eq_true rfl) (Nat.le_of_ble_eq_true rfl) (Nat.le_of_ble_eq_true rfl) (cat_of rfl) (Nat.le_of_ble_eq_true rfl) (Nat.zero_le _) (Nat.zero_le _) rfl dX7_put_27 (sp_X7_settle o_a0 (((h.2.2 c1).1 c2) Z1 eZ1).2.1 (((h.2.2 c1).1 c2) Z1 eZ1).2.2.1 (((h.2.2 c1).1 c2) Z1 eZ1).2.2.2.1 (V_nmZ (fun Z2 eZ2 => V_ret dX7_put_30 rfl ((((h.2.2 c1).1 c2) Z1 eZ1).2.2.2.2 Z2 eZ2)))))))))))))))) (fun c2 => V_ret dX7_put_10 rfl ((h.2.2 c1).2 c2))))))
theorem sp_X7_put {k n : Nat} {x : Wx} {Z : Zt} {Q : Option Value → Wx → Zt → Prop} {a : Nat} {i c : Int} (o : Is7 x a) {p : Int} {f : Nat → Int} (hf : PA Z a p f) (h1 : 0 ≤ i) (h2 : i < 10) (h3 : 0 ≤ c ∧ c < p) (hp : p ≤ 13) (h : ∀ Z' : Zt, (PA Z' a p (fun j => if j = i.toNat then c else f j) ∧ Oth Z Z' (At2 a)) → Q none x Z') : V mX7_put k n 0 [some (r_ a), some (i_ i), some (i_ c)] [] x Z Q := by
  have hd := hf.dgr
  refine b_X7_put_0 o ⟨⟨by omega, by omega⟩, fun d => by omega, fun d => ⟨fun d2 Z1 e1 => ?_, fun d2 => by omega⟩⟩
  have e0 : Z1 a 0 = Z a 0 := by rw [e1, up_row _ _ _ _ _ (by omega)]
  have er : ∀ j : Nat, j < 10 → Z1 (a + 1) j = if j = i.toNat then c else f j := fun j hj => by
    rw [e1, up_at, hf.1 j hj]
  have hr : ∀ j : Nat, j < 10 → Rg (Z1 (a + 1) j) := fun j hj => by
    rw [er j hj]
    have := hf.2.2.1 j
    split <;> exact ⟨by omega, by omega⟩
  rw [e0]
  refine ⟨⟨by omega, by omega⟩, by omega, by omega, hr, fun Z2 e2 => h Z2 ⟨?_, fun b hb => ?_⟩⟩
  · rw [e2]
    refine PA.settled er (fun j hj => ?_) (fun j => ?_) (fun j hj => ?_)
    · rw [if_neg (by omega)]; exact hf.2.1 j hj
    · split
      · exact h3
      · exact hf.2.2.1 j
    · rw [if_neg (by omega)]; exact hf.hi j (by omega)
  · rw [e2, up_row _ _ _ _ _ (fun e => hb (Or.inl e)), e1, up_row _ _ _ _ _ (fun e => hb (Or.inr e))]
theorem dX7_copy_0 : decode cX7_copy 0 = .ok (.aload_n 1, 1) := by decide +kernel
theorem dX7_copy_1 : decode cX7_copy 1 = .ok (.getfield 15, 3) := by decide +kernel
theorem dX7_copy_4 : decode cX7_copy 4 = .ok (.iconst 0, 1) := by decide +kernel
theorem dX7_copy_5 : decode cX7_copy 5 = .ok (.aload_n 0, 1) := by decide +kernel
theorem dX7_copy_6 : decode cX7_copy 6 = .ok (.getfield 15, 3) := by decide +kernel
theorem dX7_copy_9 : decode cX7_copy 9 = .ok (.iconst 0, 1) := by decide +kernel
theorem dX7_copy_10 : decode cX7_copy 10 = .ok (.bipush 10, 2) := by decide +kernel
theorem dX7_copy_12 : decode cX7_copy 12 = .ok (.invokestatic 35, 3) := by decide +kernel
theorem dX7_copy_15 : decode cX7_copy 15 = .ok (.aload_n 0, 1) := by decide +kernel
theorem dX7_copy_16 : decode cX7_copy 16 = .ok (.aload_n 1, 1) := by decide +kernel
theorem dX7_copy_17 : decode cX7_copy 17 = .ok (.getfield 9, 3) := by decide +kernel
theorem dX7_copy_20 : decode cX7_copy 20 = .ok (.putfield 9, 3) := by decide +kernel
theorem dX7_copy_23 : decode cX7_copy 23 = .ok (.return_, 1) := by decide +kernel
set_option maxRecDepth 20000 in
theorem b_X7_copy_0 {k n : Nat} {x : Wx} {Z : Zt} {Q : Option Value → Wx → Zt → Prop} {a0 : Nat} {a1 : Nat} (o_a1 : Is7 x a1) (o_a0 : Is7 x a0)
    (h : ∀ Z1 : Zt, Z1 = cpyZ Z (a1 + 1) 0 (a0 + 1) 0 10 → (∀ Z2 : Zt, Z2 = up Z1 a0 0 (Z1 a1 0) → (Q none x Z2))) :
    V mX7_copy k n 0 [some (r_ a0), some (r_ a1)] [] x Z Q :=
  V_aload_n dX7_copy_0 rfl (G_7_1 o_a1.1 o_a1.2.1 lf_7_15 dX7_copy_1 (V_iconst dX7_copy_4 (V_aload_n dX7_copy_5 rfl (G_7_1 o_a0.1 o_a0.2.1 lf_7_15 dX7_copy_6 (V_iconst dX7_copy_9 (V_bipush dX7_copy_10 rfl (V_acopy (t := 100) o_a1.2.2 o_a0.2.2 (by decide) (by decide) rfl (fun _ _ => rfl) (by decide) (by decide) (by decide) (by decide) (by decide) ⟨(Nat.le_of_ble_eq_true rfl), (Nat.le_of_ble_eq_true rfl)⟩ (fun _ _ => rfl) lm_7_35 lcpn lcps lini_J10 (Nat.le_of_ble_eq_true rfl) (Nat.le_of_ble_eq_true rfl) dX7_copy_12 (V_nmZ (fun Z1 eZ1 => V_aload_n dX7_copy_15 rfl (V_aload_n dX7_copy_16 rfl (G_7_0 o_a1.1 lf_7_9 dX7_copy_17 (P_7_0 o_a0.1 lf_7_9 dX7_copy_20 (V_nmZ (fun Z2 eZ2 => V_ret dX7_copy_23 rfl ((h Z1 eZ1) Z2 eZ2)))))))))))))))
theorem sp_X7_copy {k n : Nat} {x : Wx} {Z : Zt} {Q : Option Value → Wx → Zt → Prop} {a b : Nat} (o : Is7 x a) (ob : Is7 x b) {p : Int} {f : Nat → Int} (hf : PA Z b p f) (h : ∀ Z' : Zt, (PA Z' a p f ∧ Oth Z Z' (At2 a)) → Q none x Z') : V mX7_copy k n 0 [some (r_ a), some (r_ b)] [] x Z Q := by
  refine b_X7_copy_0 ob o (fun Z1 e1 Z2 e2 => h Z2 ⟨⟨fun i hi => ?_, hf.2.1, hf.2.2.1, ?_⟩, fun c hc => ?_⟩)
  · rw [e2, up_row _ _ _ _ _ (by omega), e1]; unfold cpyZ; rw [if_pos rfl, if_pos ⟨by omega, by omega⟩]
    rw [show 0 + (i - 0) = i by omega]; exact hf.1 i hi
  · rw [e2, up_self, e1]; unfold cpyZ; rw [if_neg (ob.ne o)]; exact hf.2.2.2
  · rw [e2, up_row _ _ _ _ _ (fun e => hc (Or.inl e)), e1]
    funext i
    unfold cpyZ
    rw [if_neg (fun e => hc (Or.inr e))]
theorem emr (v : Int) {p : Int} (hp : 0 < p) : 0 ≤ v % p ∧ v % p < p := ⟨Int.emod_nonneg v (by omega), Int.emod_lt_of_pos v hp⟩
theorem mulb {a b A B : Int} (h1 : -A ≤ a) (h2 : a ≤ A) (h3 : 0 ≤ b) (h4 : b ≤ B) : -(A * B) ≤ a * b ∧ a * b ≤ A * B := by
  have hA : 0 ≤ A := by omega
  have e1 : a * b ≤ A * b := Int.mul_le_mul_of_nonneg_right h2 h3
  have e2 : A * b ≤ A * B := Int.mul_le_mul_of_nonneg_left h4 hA
  have e3 : (-A) * b ≤ a * b := Int.mul_le_mul_of_nonneg_right h1 h3
  rw [Int.neg_mul] at e3
  omega
theorem em_id {v p : Int} (h : 0 ≤ v ∧ v < p) : v % p = v := Int.emod_eq_of_lt h.1 h.2
def padd (p : Int) (f g : Nat → Int) (c : Int) : Nat → Int := fun i => (f i + c * g i) % p
def pscl (p : Int) (f : Nat → Int) (c : Int) : Nat → Int := fun i => (f i * c) % p
def pslo (p : Int) (f : Nat → Int) : Nat → Int := fun i => (((i + 1 : Nat) : Int) * f (i + 1)) % p
theorem dX7_add_0 : decode cX7_add 0 = .ok (.iconst 0, 1) := by decide +kernel
theorem dX7_add_1 : decode cX7_add 1 = .ok (.istore 4, 2) := by decide +kernel
theorem dX7_add_3 : decode cX7_add 3 = .ok (.iload 4, 2) := by decide +kernel
theorem dX7_add_5 : decode cX7_add 5 = .ok (.aload_n 2, 1) := by decide +kernel
theorem dX7_add_6 : decode cX7_add 6 = .ok (.getfield 9, 3) := by decide +kernel
theorem dX7_add_9 : decode cX7_add 9 = .ok (.if_icmp .gt 44, 3) := by decide +kernel
theorem dX7_add_12 : decode cX7_add 12 = .ok (.iload 4, 2) := by decide +kernel
theorem dX7_add_14 : decode cX7_add 14 = .ok (.bipush 10, 2) := by decide +kernel
theorem dX7_add_16 : decode cX7_add 16 = .ok (.if_icmp .ge 37, 3) := by decide +kernel
theorem dX7_add_19 : decode cX7_add 19 = .ok (.aload_n 0, 1) := by decide +kernel
theorem dX7_add_20 : decode cX7_add 20 = .ok (.getfield 15, 3) := by decide +kernel
theorem dX7_add_23 : decode cX7_add 23 = .ok (.iload 4, 2) := by decide +kernel
theorem dX7_add_25 : decode cX7_add 25 = .ok (.aload_n 1, 1) := by decide +kernel
theorem dX7_add_26 : decode cX7_add 26 = .ok (.aload_n 0, 1) := by decide +kernel
theorem dX7_add_27 : decode cX7_add 27 = .ok (.getfield 15, 3) := by decide +kernel
theorem dX7_add_30 : decode cX7_add 30 = .ok (.iload 4, 2) := by decide +kernel
theorem dX7_add_32 : decode cX7_add 32 = .ok (.iaload, 1) := by decide +kernel
theorem dX7_add_33 : decode cX7_add 33 = .ok (.iload_n 3, 1) := by decide +kernel
theorem dX7_add_34 : decode cX7_add 34 = .ok (.aload_n 2, 1) := by decide +kernel
theorem dX7_add_35 : decode cX7_add 35 = .ok (.getfield 15, 3) := by decide +kernel
theorem dX7_add_38 : decode cX7_add 38 = .ok (.iload 4, 2) := by decide +kernel
theorem dX7_add_40 : decode cX7_add 40 = .ok (.iaload, 1) := by decide +kernel
theorem dX7_add_41 : decode cX7_add 41 = .ok (.imul, 1) := by decide +kernel
theorem dX7_add_42 : decode cX7_add 42 = .ok (.iadd, 1) := by decide +kernel
theorem dX7_add_43 : decode cX7_add 43 = .ok (.invokevirtual 44, 3) := by decide +kernel
theorem dX7_add_46 : decode cX7_add 46 = .ok (.iastore, 1) := by decide +kernel
theorem dX7_add_47 : decode cX7_add 47 = .ok (.iinc 4 1, 3) := by decide +kernel
theorem dX7_add_50 : decode cX7_add 50 = .ok (.goto (-47), 3) := by decide +kernel
theorem dX7_add_53 : decode cX7_add 53 = .ok (.aload_n 0, 1) := by decide +kernel
theorem dX7_add_54 : decode cX7_add 54 = .ok (.aload_n 0, 1) := by decide +kernel
theorem dX7_add_55 : decode cX7_add 55 = .ok (.getfield 9, 3) := by decide +kernel
theorem dX7_add_58 : decode cX7_add 58 = .ok (.aload_n 2, 1) := by decide +kernel
theorem dX7_add_59 : decode cX7_add 59 = .ok (.getfield 9, 3) := by decide +kernel
theorem dX7_add_62 : decode cX7_add 62 = .ok (.invokestatic 25, 3) := by decide +kernel
theorem dX7_add_65 : decode cX7_add 65 = .ok (.invokevirtual 31, 3) := by decide +kernel
theorem dX7_add_68 : decode cX7_add 68 = .ok (.return_, 1) := by decide +kernel
set_option maxRecDepth 20000 in
theorem b_X7_add_0 {k n : Nat} {x : Wx} {Z : Zt} {Q : Option Value → Wx → Zt → Prop} {a0 : Nat} {a1 : Nat} {a2 : Nat} {v3 : Int} 
    (h : V mX7_add k n 3 [some (r_ a0), some (r_ a1), some (r_ a2), some (i_ v3), some (i_ 0)] [] x Z Q) :
    V mX7_add k n 0 [some (r_ a0), some (r_ a1), some (r_ a2), some (i_ v3), none] [] x Z Q :=
  V_iconst dX7_add_0 (V_istore (lv' := [some (r_ a0), some (r_ a1), some (r_ a2), some (i_ v3), some (i_ 0)]) dX7_add_1 (Nat.le_of_ble_eq_true rfl) rfl (V_msk [true, true, true, true, true] rfl h))
set_option maxRecDepth 20000 in
theorem b_X7_add_3 {k n : Nat} {x : Wx} {Z : Zt} {Q : Option Value → Wx → Zt → Prop} {a0 : Nat} {a1 : Nat} {a2 : Nat} {v3 : Int} {v4 : Int} (o_a2 : Is7 x a2) (o_a0 : Is7 x a0) (o_a1 : Is4 x a1)
    (h : Rg v4 ∧ Rg (Z a2 0) ∧ (((Z a2 0 < v4) → (V mX7_add k n 53 [some (r_ a0), none, some (r_ a2), none, none] [] x Z Q)) ∧ ((v4 ≤ Z a2 0) → (((10 ≤ v4) → (V mX7_add k n 53 [some (r_ a0), none, some (r_ a2), none, none] [] x Z Q)) ∧ ((v4 < 10) → (0 ≤ v4 ∧ (Rg ((Z (a0 + 1) v4.toNat) + (v3 * (Z (a2 + 1) v4.toNat))) ∧ 2 ≤ Z a1 0 ∧ Z a1 0 ≤ 13 ∧ (∀ Z1 : Zt, Z1 = up Z (a0 + 1) v4.toNat (((Z (a0 + 1) v4.toNat) + (v3 * (Z (a2 + 1) v4.toNat))) % Z a1 0) → (V mX7_add k n 3 [some (r_ a0), some (r_ a1), some (r_ a2), some (i_ v3), some (i_ (v4 + 1))] [] x Z1 Q))))))))) :
    V mX7_add k n 3 [some (r_ a0), some (r_ a1), some (r_ a2), some (i_ v3), some (i_ v4)] [] x Z Q :=
  V_iload dX7_add_3 rfl (V_aload_n dX7_add_5 rfl (G_7_0 o_a2.1 lf_7_9 dX7_add_6 (V_icmp_gt (tgt := 53) dX7_add_9 rfl h.1 h.2.1 (fun c1 => V_msk [true, false, true, false, false] rfl (h.2.2.1 c1)) (fun c1 => V_iload dX7_add_12 rfl (V_bipush dX7_add_14 rfl (V_icmp_ge (tgt := 53) dX7_add_16 rfl h.1 (rg_c rfl) (fun c2 => V_msk [true, false, true, false, false] rfl ((h.2.2.2 c1).1 c2)) (fun c2 => V_aload_n dX7_add_19 rfl (G_7_1 o_a0.1 o_a0.2.1 lf_7_15 dX7_add_20 (V_iload dX7_add_23 rfl (V_aload_n dX7_add_25 rfl (V_aload_n dX7_add_26 rfl (G_7_1 o_a0.1 o_a0.2.1 lf_7_15 dX7_add_27 (V_iload dX7_add_30 rfl (V_iald (t := 100) o_a0.2.2 (by decide) rfl ((h.2.2.2 c1).2 c2).1 c2 (Nat.le_of_ble_eq_true rfl) dX7_add_32 (V_iload_n dX7_add_33 rfl (V_aload_n dX7_add_34 rfl (G_7_1 o_a2.1 o_a2.2.1 lf_7_15 dX7_add_35 (V_iload dX7_add_38 rfl (V_iald (t := 100) o_a2.2.2 (by decide) rfl ((h.2.2.2 c1).2 c2).1 c2 (Nat.le_of_ble_eq_true rfl) dX7_add_40 (V_imul dX7_add_41 (V_iadd dX7_add_42 (V_callV (k' := 0) (n' := 0) (t := 4) (q := (RX4, TX4, 4)) [i_ ((Z (a0 + 1) v4.toNat) + (v3 * (Z (a2 + 1) v4.toNat)))] [i_ v4, r_ (a0 + 1)] okX4_rem o_a1.1 rfl rfl lm_7_44 liX4_rem lqX4_rem (Nat.le_of_ble_eq_true rfl) (Nat.le_of_ble_eq_true rfl) (Nat.le_of_ble_eq_true rfl) (cat_of rfl) (Nat.le_of_ble_eq_true rfl) (Nat.zero_le _) (Nat.zero_le _) rfl dX7_add_43 (sp_X4_rem o_a1 ((h.2.2.2 c1).2 c2).2.1 ((h.2.2.2 c1).2 c2).2.2.1 ((h.2.2.2 c1).2 c2).2.2.2.1 (V_iast (t := 100) o_a0.2.2 (by decide) (by decide) rfl ((h.2.2.2 c1).2 c2).1 c2 (Nat.le_of_ble_eq_true rfl) dX7_add_46 (V_nmZ (fun Z1 eZ1 => V_iinc (lv' := [some (r_ a0), some (r_ a1), some (r_ a2), some (i_ v3), some (i_ (v4 + 1))]) dX7_add_47 rfl (Nat.le_of_ble_eq_true rfl) rfl (V_goto (tgt := 3) dX7_add_50 rfl (V_msk [true, true, true, true, true] rfl (((h.2.2.2 c1).2 c2).2.2.2.2 Z1 eZ1)))))))))))))))))))))))))))))
set_option maxRecDepth 20000 in
theorem b_X7_add_53 {k n : Nat} {x : Wx} {Z : Zt} {Q : Option Value → Wx → Zt → Prop} {a0 : Nat} {a2 : Nat} (o_a0 : Is7 x a0) (o_a2 : Is7 x a2)
    (h : Rg (Z a0 0) ∧ Rg (Z a2 0) ∧ ((-1000) ≤ (max (Z a0 0) (Z a2 0)) ∧ (max (Z a0 0) (Z a2 0)) < 1000 ∧ (∀ i : Nat, i < 10 → Rg (Z (a0 + 1) i)) ∧ (∀ Z1 : Zt, Z1 = up Z a0 0 (dg (Z (a0 + 1)) ((min (max (Z a0 0) (Z a2 0)) 9) + 1).toNat) → (Q none x Z1)))) :
    V mX7_add k n 53 [some (r_ a0), none, some (r_ a2), none, none] [] x Z Q :=
  V_aload_n dX7_add_53 rfl (V_aload_n dX7_add_54 rfl (G_7_0 o_a0.1 lf_7_9 dX7_add_55 (V_aload_n dX7_add_58 rfl (G_7_0 o_a2.1 lf_7_9 dX7_add_59 (V_mmax lm_7_25 (Nat.le_of_ble_eq_true rfl) (Nat.le_of_ble_eq_true rfl) h.1 h.2.1 dX7_add_62 (V_callV (k' := 0) (n' := 0) (t := 7) (q := (RX7, TX7, 2)) [i_ (max (Z a0 0) (Z a2 0))] [] okX7_settle o_a0.1 rfl rfl lm_7_31 liX7_settle lqX7_settle (Nat.le_of_ble_eq_true rfl) (Nat.le_of_ble_eq_true rfl) (Nat.le_of_ble_eq_true rfl) (cat_of rfl) (Nat.le_of_ble_eq_true rfl) (Nat.zero_le _) (Nat.zero_le _) rfl dX7_add_65 (sp_X7_settle o_a0 h.2.2.1 h.2.2.2.1 h.2.2.2.2.1 (V_nmZ (fun Z1 eZ1 => V_ret dX7_add_68 rfl (h.2.2.2.2.2 Z1 eZ1))))))))))
theorem sp_X7_add {k n : Nat} {x : Wx} {Z : Zt} {Q : Option Value → Wx → Zt → Prop} {a fl b : Nat} {c : Int} (o : Is7 x a) (ofl : Is4 x fl) (ob : Is7 x b) {p : Int} {f g : Nat → Int} (hab : a ≠ b) (hf : PA Z a p f) (hg : PA Z b p g) (hfl : Z fl 0 = p) (hp : 2 ≤ p ∧ p ≤ 13) (hc : -1000 ≤ c ∧ c ≤ 1000) (h : ∀ Z' : Zt, (PA Z' a p (padd p f g c) ∧ Oth Z Z' (At2 a)) → Q none x Z') : V mX7_add k n 0 [some (r_ a), some (r_ fl), some (r_ b), some (i_ c), none] [] x Z Q := by
  have hfa := (Is47 ofl o).1
  have n1 := o.ne ob
  have n2 := ob.ne o
  have fin : ∀ Z1 : Zt, (∀ i : Nat, i < 10 → Z1 (a + 1) i = padd p f g c i) → Oth Z Z1 (fun q => q = a + 1) → V mX7_add k n 53 [some (r_ a), none, some (r_ b), none, none] [] x Z1 Q := by
    intro Z1 hz ho
    have e0 : Z1 a 0 = Z a 0 := by rw [ho a (by omega)]
    have e1 : Z1 b 0 = Z b 0 := by rw [ho b (by omega)]
    have d1 := hf.dgr
    have d2 := hg.dgr
    refine b_X7_add_53 o ob ?_
    rw [e0, e1]
    refine ⟨⟨by omega, by omega⟩, ⟨by omega, by omega⟩, by omega, by omega, fun i hi => ?_, fun Z2 e2 => h Z2 ⟨?_, fun q hq => ?_⟩⟩
    · rw [hz i hi]; have := emr (f i + c * g i) (show 0 < p by omega); exact ⟨by show _ ≤ _ % p; omega, by show _ % p < _; omega⟩
    · rw [e2]
      refine PA.settled hz (fun i hi => ?_) (fun i => emr _ (by omega)) (fun i hi => ?_)
      · unfold padd; rw [hf.2.1 i hi, hg.2.1 i hi]; simp
      · unfold padd; rw [hf.hi i (by omega), hg.hi i (by omega)]; simp
    · rw [e2, up_row _ _ _ _ _ (fun e => hq (Or.inl e)), ho q (fun e => hq (Or.inr e))]
  have lp : ∀ (m : Nat) (v : Int) (Z1 : Zt), 0 ≤ v → v + m = 10 → (∀ i : Nat, i < 10 → Z1 (a + 1) i = if (i : Int) < v then padd p f g c i else f i) → Oth Z Z1 (fun q => q = a + 1) → V mX7_add k n 3 [some (r_ a), some (r_ fl), some (r_ b), some (i_ c), some (i_ v)] [] x Z1 Q := by
    intro m
    induction m with
    | zero =>
      intro v Z1 hv hm hz ho
      have e1 : Z1 b 0 = Z b 0 := by rw [ho b (by omega)]
      have d2 := hg.dgr
      refine b_X7_add_3 ob o ofl ⟨⟨by omega, by omega⟩, ⟨by omega, by omega⟩, fun _ => fin Z1 (fun i hi => ?_) ho, fun c1 => by omega⟩
      rw [hz i hi, if_pos (by omega)]
    | succ m ih =>
      intro v Z1 hv hm hz ho
      have e1 : Z1 b 0 = Z b 0 := by rw [ho b (by omega)]
      have e2 : Z1 fl 0 = p := by rw [ho fl (fun e => hfa (Or.inr e))]; exact hfl
      have e3 : Z1 (b + 1) v.toNat = g v.toNat := by rw [ho (b + 1) (by omega)]; exact hg.1 _ (by omega)
      have e4 : Z1 (a + 1) v.toNat = f v.toNat := by rw [hz _ (by omega), if_neg (by omega)]
      have d2 := hg.dgr
      have r1 := hf.2.2.1 v.toNat
      have r2 := hg.2.2.1 v.toNat
      have r3 := mulb hc.1 hc.2 r2.1 (show g v.toNat ≤ 13 by omega)
      refine b_X7_add_3 ob o ofl ⟨⟨by omega, by omega⟩, ⟨by omega, by omega⟩, fun c1 => fin Z1 (fun i hi => ?_) ho, fun c1 => ⟨fun c2 => by omega, fun c2 => ⟨hv, ?_⟩⟩⟩
      · rw [hz i hi]
        by_cases c2 : (i : Int) < v
        · rw [if_pos c2]
        · rw [if_neg c2]; unfold padd; rw [hg.hi i (by omega)]; simp; exact (em_id (hf.2.2.1 i)).symm
      · rw [e2, e3, e4]
        refine ⟨⟨by omega, by omega⟩, by omega, by omega, fun Z2 e5 => ih (v + 1) Z2 (by omega) (by omega) (fun i hi => ?_) ?_⟩
        · rw [e5, up_at]
          by_cases c3 : i = v.toNat
          · rw [if_pos c3, if_pos (by omega), c3]; rfl
          · rw [if_neg c3, hz i hi]
            by_cases c4 : (i : Int) < v
            · rw [if_pos c4, if_pos (by omega)]
            · rw [if_neg c4, if_neg (by omega)]
        · rw [e5]; exact ho.up rfl
  exact b_X7_add_0 (lp 10 0 Z (by omega) (by omega) (fun i hi => by rw [if_neg (by omega)]; exact hf.1 i hi) Oth.rf)
theorem dX7_scale_0 : decode cX7_scale 0 = .ok (.iconst 0, 1) := by decide +kernel
theorem dX7_scale_1 : decode cX7_scale 1 = .ok (.istore_n 3, 1) := by decide +kernel
theorem dX7_scale_2 : decode cX7_scale 2 = .ok (.iload_n 3, 1) := by decide +kernel
theorem dX7_scale_3 : decode cX7_scale 3 = .ok (.aload_n 0, 1) := by decide +kernel
theorem dX7_scale_4 : decode cX7_scale 4 = .ok (.getfield 9, 3) := by decide +kernel
theorem dX7_scale_7 : decode cX7_scale 7 = .ok (.if_icmp .gt 33, 3) := by decide +kernel
theorem dX7_scale_10 : decode cX7_scale 10 = .ok (.iload_n 3, 1) := by decide +kernel
theorem dX7_scale_11 : decode cX7_scale 11 = .ok (.bipush 10, 2) := by decide +kernel
theorem dX7_scale_13 : decode cX7_scale 13 = .ok (.if_icmp .ge 27, 3) := by decide +kernel
theorem dX7_scale_16 : decode cX7_scale 16 = .ok (.aload_n 0, 1) := by decide +kernel
theorem dX7_scale_17 : decode cX7_scale 17 = .ok (.getfield 15, 3) := by decide +kernel
theorem dX7_scale_20 : decode cX7_scale 20 = .ok (.iload_n 3, 1) := by decide +kernel
theorem dX7_scale_21 : decode cX7_scale 21 = .ok (.aload_n 1, 1) := by decide +kernel
theorem dX7_scale_22 : decode cX7_scale 22 = .ok (.aload_n 0, 1) := by decide +kernel
theorem dX7_scale_23 : decode cX7_scale 23 = .ok (.getfield 15, 3) := by decide +kernel
theorem dX7_scale_26 : decode cX7_scale 26 = .ok (.iload_n 3, 1) := by decide +kernel
theorem dX7_scale_27 : decode cX7_scale 27 = .ok (.iaload, 1) := by decide +kernel
theorem dX7_scale_28 : decode cX7_scale 28 = .ok (.iload_n 2, 1) := by decide +kernel
theorem dX7_scale_29 : decode cX7_scale 29 = .ok (.imul, 1) := by decide +kernel
theorem dX7_scale_30 : decode cX7_scale 30 = .ok (.invokevirtual 44, 3) := by decide +kernel
theorem dX7_scale_33 : decode cX7_scale 33 = .ok (.iastore, 1) := by decide +kernel
theorem dX7_scale_34 : decode cX7_scale 34 = .ok (.iinc 3 1, 3) := by decide +kernel
theorem dX7_scale_37 : decode cX7_scale 37 = .ok (.goto (-35), 3) := by decide +kernel
theorem dX7_scale_40 : decode cX7_scale 40 = .ok (.aload_n 0, 1) := by decide +kernel
theorem dX7_scale_41 : decode cX7_scale 41 = .ok (.aload_n 0, 1) := by decide +kernel
theorem dX7_scale_42 : decode cX7_scale 42 = .ok (.getfield 9, 3) := by decide +kernel
theorem dX7_scale_45 : decode cX7_scale 45 = .ok (.invokevirtual 31, 3) := by decide +kernel
theorem dX7_scale_48 : decode cX7_scale 48 = .ok (.return_, 1) := by decide +kernel
set_option maxRecDepth 20000 in
theorem b_X7_scale_0 {k n : Nat} {x : Wx} {Z : Zt} {Q : Option Value → Wx → Zt → Prop} {a0 : Nat} {a1 : Nat} {v2 : Int} 
    (h : V mX7_scale k n 2 [some (r_ a0), some (r_ a1), some (i_ v2), some (i_ 0)] [] x Z Q) :
    V mX7_scale k n 0 [some (r_ a0), some (r_ a1), some (i_ v2), none] [] x Z Q :=
  V_iconst dX7_scale_0 (V_istore_n (lv' := [some (r_ a0), some (r_ a1), some (i_ v2), some (i_ 0)]) dX7_scale_1 (Nat.le_of_ble_eq_true rfl) rfl (V_msk [true, true, true, true] rfl h))
set_option maxRecDepth 20000 in
theorem b_X7_scale_2 {k n : Nat} {x : Wx} {Z : Zt} {Q : Option Value → Wx → Zt → Prop} {a0 : Nat} {a1 : Nat} {v2 : Int} {v3 : Int} (o_a0 : Is7 x a0) (o_a1 : Is4 x a1)
    (h : Rg v3 ∧ Rg (Z a0 0) ∧ (((Z a0 0 < v3) → (V mX7_scale k n 40 [some (r_ a0), none, none, none] [] x Z Q)) ∧ ((v3 ≤ Z a0 0) → (((10 ≤ v3) → (V mX7_scale k n 40 [some (r_ a0), none, none, none] [] x Z Q)) ∧ ((v3 < 10) → (0 ≤ v3 ∧ (Rg ((Z (a0 + 1) v3.toNat) * v2) ∧ 2 ≤ Z a1 0 ∧ Z a1 0 ≤ 13 ∧ (∀ Z1 : Zt, Z1 = up Z (a0 + 1) v3.toNat (((Z (a0 + 1) v3.toNat) * v2) % Z a1 0) → (V mX7_scale k n 2 [some (r_ a0), some (r_ a1), some (i_ v2), some (i_ (v3 + 1))] [] x Z1 Q))))))))) :
    V mX7_scale k n 2 [some (r_ a0), some (r_ a1), some (i_ v2), some (i_ v3)] [] x Z Q :=
  V_iload_n dX7_scale_2 rfl (V_aload_n dX7_scale_3 rfl (G_7_0 o_a0.1 lf_7_9 dX7_scale_4 (V_icmp_gt (tgt := 40) dX7_scale_7 rfl h.1 h.2.1 (fun c1 => V_msk [true, false, false, false] rfl (h.2.2.1 c1)) (fun c1 => V_iload_n dX7_scale_10 rfl (V_bipush dX7_scale_11 rfl (V_icmp_ge (tgt := 40) dX7_scale_13 rfl h.1 (rg_c rfl) (fun c2 => V_msk [true, false, false, false] rfl ((h.2.2.2 c1).1 c2)) (fun c2 => V_aload_n dX7_scale_16 rfl (G_7_1 o_a0.1 o_a0.2.1 lf_7_15 dX7_scale_17 (V_iload_n dX7_scale_20 rfl (V_aload_n dX7_scale_21 rfl (V_aload_n dX7_scale_22 rfl (G_7_1 o_a0.1 o_a0.2.1 lf_7_15 dX7_scale_23 (V_iload_n dX7_scale_26 rfl (V_iald (t := 100) o_a0.2.2 (by decide) rfl ((h.2.2.2 c1).2 c2).1 c2 (Nat.le_of_ble_eq_true rfl) dX7_scale_27 (V_iload_n dX7_scale_28 rfl (V_imul dX7_scale_29 (V_callV (k' := 0) (n' := 0) (t := 4) (q := (RX4, TX4, 4)) [i_ ((Z (a0 + 1) v3.toNat) * v2)] [i_ v3, r_ (a0 + 1)] okX4_rem o_a1.1 rfl rfl lm_7_44 liX4_rem lqX4_rem (Nat.le_of_ble_eq_true rfl) (Nat.le_of_ble_eq_true rfl) (Nat.le_of_ble_eq_true rfl) (cat_of rfl) (Nat.le_of_ble_eq_true rfl) (Nat.zero_le _) (Nat.zero_le _) rfl dX7_scale_30 (sp_X4_rem o_a1 ((h.2.2.2 c1).2 c2).2.1 ((h.2.2.2 c1).2 c2).2.2.1 ((h.2.2.2 c1).2 c2).2.2.2.1 (V_iast (t := 100) o_a0.2.2 (by decide) (by decide) rfl ((h.2.2.2 c1).2 c2).1 c2 (Nat.le_of_ble_eq_true rfl) dX7_scale_33 (V_nmZ (fun Z1 eZ1 => V_iinc (lv' := [some (r_ a0), some (r_ a1), some (i_ v2), some (i_ (v3 + 1))]) dX7_scale_34 rfl (Nat.le_of_ble_eq_true rfl) rfl (V_goto (tgt := 2) dX7_scale_37 rfl (V_msk [true, true, true, true] rfl (((h.2.2.2 c1).2 c2).2.2.2.2 Z1 eZ1))))))))))))))))))))))))
set_option maxRecDepth 20000 in
theorem b_X7_scale_40 {k n : Nat} {x : Wx} {Z : Zt} {Q : Option Value → Wx → Zt → Prop} {a0 : Nat} (o_a0 : Is7 x a0)
    (h : (-1000) ≤ (Z a0 0) ∧ (Z a0 0) < 1000 ∧ (∀ i : Nat, i < 10 → Rg (Z (a0 + 1) i)) ∧ (∀ Z1 : Zt, Z1 = up Z a0 0 (dg (Z (a0 + 1)) ((min (Z a0 0) 9) + 1).toNat) → (Q none x Z1))) :
    V mX7_scale k n 40 [some (r_ a0), none, none, none] [] x Z Q :=
  V_aload_n dX7_scale_40 rfl (V_aload_n dX7_scale_41 rfl (G_7_0 o_a0.1 lf_7_9 dX7_scale_42 (V_callV (k' := 0) (n' := 0) (t := 7) (q := (RX7, TX7, 2)) [i_ (Z a0 0)] [] okX7_settle o_a0.1 rfl rfl lm_7_31 liX7_settle lqX7_settle (Nat.le_of_ble_eq_true rfl) (Nat.le_of_ble_eq_true rfl) (Nat.le_of_ble_eq_true rfl) (cat_of rfl) (Nat.le_of_ble_eq_true rfl) (Nat.zero_le _) (Nat.zero_le _) rfl dX7_scale_45 (sp_X7_settle o_a0 h.1 h.2.1 h.2.2.1 (V_nmZ (fun Z1 eZ1 => V_ret dX7_scale_48 rfl (h.2.2.2 Z1 eZ1)))))))
theorem sp_X7_scale {k n : Nat} {x : Wx} {Z : Zt} {Q : Option Value → Wx → Zt → Prop} {a fl : Nat} {c : Int} (o : Is7 x a) (ofl : Is4 x fl) {p : Int} {f : Nat → Int} (hf : PA Z a p f) (hfl : Z fl 0 = p) (hp : 2 ≤ p ∧ p ≤ 13) (hc : -1000 ≤ c ∧ c ≤ 1000) (h : ∀ Z' : Zt, (PA Z' a p (pscl p f c) ∧ Oth Z Z' (At2 a)) → Q none x Z') : V mX7_scale k n 0 [some (r_ a), some (r_ fl), some (i_ c), none] [] x Z Q := by
  have hfa := (Is47 ofl o).1
  have fin : ∀ Z1 : Zt, (∀ i : Nat, i < 10 → Z1 (a + 1) i = pscl p f c i) → Oth Z Z1 (fun q => q = a + 1) → V mX7_scale k n 40 [some (r_ a), none, none, none] [] x Z1 Q := by
    intro Z1 hz ho
    have e0 : Z1 a 0 = Z a 0 := by rw [ho a (by omega)]
    have d1 := hf.dgr
    refine b_X7_scale_40 o ?_
    rw [e0]
    refine ⟨by omega, by omega, fun i hi => ?_, fun Z2 e2 => h Z2 ⟨?_, fun q hq => ?_⟩⟩
    · rw [hz i hi]; have := emr (f i * c) (show 0 < p by omega); exact ⟨by show _ ≤ _ % p; omega, by show _ % p < _; omega⟩
    · rw [e2]
      refine PA.settled hz (fun i hi => ?_) (fun i => emr _ (by omega)) (fun i hi => ?_)
      · unfold pscl; rw [hf.2.1 i hi]; simp
      · unfold pscl; rw [hf.hi i (by omega)]; simp
    · rw [e2, up_row _ _ _ _ _ (fun e => hq (Or.inl e)), ho q (fun e => hq (Or.inr e))]
  have lp : ∀ (m : Nat) (v : Int) (Z1 : Zt), 0 ≤ v → v + m = 10 → (∀ i : Nat, i < 10 → Z1 (a + 1) i = if (i : Int) < v then pscl p f c i else f i) → Oth Z Z1 (fun q => q = a + 1) → V mX7_scale k n 2 [some (r_ a), some (r_ fl), some (i_ c), some (i_ v)] [] x Z1 Q := by
    intro m
    induction m with
    | zero =>
      intro v Z1 hv hm hz ho
      have e1 : Z1 a 0 = Z a 0 := by rw [ho a (by omega)]
      have d2 := hf.dgr
      refine b_X7_scale_2 o ofl ⟨⟨by omega, by omega⟩, ⟨by omega, by omega⟩, fun _ => fin Z1 (fun i hi => ?_) ho, fun c1 => by omega⟩
      rw [hz i hi, if_pos (by omega)]
    | succ m ih =>
      intro v Z1 hv hm hz ho
      have e1 : Z1 a 0 = Z a 0 := by rw [ho a (by omega)]
      have e2 : Z1 fl 0 = p := by rw [ho fl (fun e => hfa (Or.inr e))]; exact hfl
      have e4 : Z1 (a + 1) v.toNat = f v.toNat := by rw [hz _ (by omega), if_neg (by omega)]
      have d2 := hf.dgr
      have r1 := hf.2.2.1 v.toNat
      have r3 := mulb hc.1 hc.2 r1.1 (show f v.toNat ≤ 13 by omega)
      have r4 : f v.toNat * c = c * f v.toNat := Int.mul_comm _ _
      refine b_X7_scale_2 o ofl ⟨⟨by omega, by omega⟩, ⟨by omega, by omega⟩, fun c1 => fin Z1 (fun i hi => ?_) ho, fun c1 => ⟨fun c2 => by omega, fun c2 => ⟨hv, ?_⟩⟩⟩
      · rw [hz i hi]
        by_cases c2 : (i : Int) < v
        · rw [if_pos c2]
        · rw [if_neg c2]; unfold pscl; rw [hf.hi i (by omega)]; simp
      · rw [e2, e4]
        refine ⟨⟨by omega, by omega⟩, by omega, by omega, fun Z2 e5 => ih (v + 1) Z2 (by omega) (by omega) (fun i hi => ?_) ?_⟩
        · rw [e5, up_at]
          by_cases c3 : i = v.toNat
          · rw [if_pos c3, if_pos (by omega), c3]; rfl
          · rw [if_neg c3, hz i hi]
            by_cases c4 : (i : Int) < v
            · rw [if_pos c4, if_pos (by omega)]
            · rw [if_neg c4, if_neg (by omega)]
        · rw [e5]; exact ho.up rfl
  exact b_X7_scale_0 (lp 10 0 Z (by omega) (by omega) (fun i hi => by rw [if_neg (by omega)]; exact hf.1 i hi) Oth.rf)
theorem dX7_slope_0 : decode cX7_slope 0 = .ok (.aload_n 0, 1) := by decide +kernel
theorem dX7_slope_1 : decode cX7_slope 1 = .ok (.invokevirtual 41, 3) := by decide +kernel
theorem dX7_slope_4 : decode cX7_slope 4 = .ok (.iconst 1, 1) := by decide +kernel
theorem dX7_slope_5 : decode cX7_slope 5 = .ok (.istore_n 3, 1) := by decide +kernel
theorem dX7_slope_6 : decode cX7_slope 6 = .ok (.iload_n 3, 1) := by decide +kernel
theorem dX7_slope_7 : decode cX7_slope 7 = .ok (.aload_n 2, 1) := by decide +kernel
theorem dX7_slope_8 : decode cX7_slope 8 = .ok (.getfield 9, 3) := by decide +kernel
theorem dX7_slope_11 : decode cX7_slope 11 = .ok (.if_icmp .gt 35, 3) := by decide +kernel
theorem dX7_slope_14 : decode cX7_slope 14 = .ok (.iload_n 3, 1) := by decide +kernel
theorem dX7_slope_15 : decode cX7_slope 15 = .ok (.bipush 10, 2) := by decide +kernel
theorem dX7_slope_17 : decode cX7_slope 17 = .ok (.if_icmp .ge 29, 3) := by decide +kernel
theorem dX7_slope_20 : decode cX7_slope 20 = .ok (.aload_n 0, 1) := by decide +kernel
theorem dX7_slope_21 : decode cX7_slope 21 = .ok (.getfield 15, 3) := by decide +kernel
theorem dX7_slope_24 : decode cX7_slope 24 = .ok (.iload_n 3, 1) := by decide +kernel
theorem dX7_slope_25 : decode cX7_slope 25 = .ok (.iconst 1, 1) := by decide +kernel
theorem dX7_slope_26 : decode cX7_slope 26 = .ok (.isub, 1) := by decide +kernel
theorem dX7_slope_27 : decode cX7_slope 27 = .ok (.aload_n 1, 1) := by decide +kernel
theorem dX7_slope_28 : decode cX7_slope 28 = .ok (.iload_n 3, 1) := by decide +kernel
theorem dX7_slope_29 : decode cX7_slope 29 = .ok (.aload_n 2, 1) := by decide +kernel
theorem dX7_slope_30 : decode cX7_slope 30 = .ok (.getfield 15, 3) := by decide +kernel
theorem dX7_slope_33 : decode cX7_slope 33 = .ok (.iload_n 3, 1) := by decide +kernel
theorem dX7_slope_34 : decode cX7_slope 34 = .ok (.iaload, 1) := by decide +kernel
theorem dX7_slope_35 : decode cX7_slope 35 = .ok (.imul, 1) := by decide +kernel
theorem dX7_slope_36 : decode cX7_slope 36 = .ok (.invokevirtual 44, 3) := by decide +kernel
theorem dX7_slope_39 : decode cX7_slope 39 = .ok (.iastore, 1) := by decide +kernel
theorem dX7_slope_40 : decode cX7_slope 40 = .ok (.iinc 3 1, 3) := by decide +kernel
theorem dX7_slope_43 : decode cX7_slope 43 = .ok (.goto (-37), 3) := by decide +kernel
theorem dX7_slope_46 : decode cX7_slope 46 = .ok (.aload_n 0, 1) := by decide +kernel
theorem dX7_slope_47 : decode cX7_slope 47 = .ok (.aload_n 2, 1) := by decide +kernel
theorem dX7_slope_48 : decode cX7_slope 48 = .ok (.getfield 9, 3) := by decide +kernel
theorem dX7_slope_51 : decode cX7_slope 51 = .ok (.invokevirtual 31, 3) := by decide +kernel
theorem dX7_slope_54 : decode cX7_slope 54 = .ok (.return_, 1) := by decide +kernel
set_option maxRecDepth 20000 in
theorem b_X7_slope_0 {k n : Nat} {x : Wx} {Z : Zt} {Q : Option Value → Wx → Zt → Prop} {a0 : Nat} {a1 : Nat} {a2 : Nat} (o_a0 : Is7 x a0)
    (h : ∀ (Z'1 : Zt), (PA Z'1 a0 1 (fun _ => 0) ∧ Oth Z Z'1 (At2 a0)) → (V mX7_slope k n 6 [some (r_ a0), some (r_ a1), some (r_ a2), some (i_ 1)] [] x Z'1 Q)) :
    V mX7_slope k n 0 [some (r_ a0), some (r_ a1), some (r_ a2), none] [] x Z Q :=
  V_aload_n dX7_slope_0 rfl (V_callV (k' := 0) (n' := 0) (t := 7) (q := (RX7, TX7, 2)) [] [] okX7_clear o_a0.1 rfl rfl lm_7_41 liX7_clear lqX7_clear (Nat.le_of_ble_eq_true rfl) (Nat.le_of_ble_eq_true rfl) (Nat.le_of_ble_eq_true rfl) (cat_of rfl) (Nat.le_of_ble_eq_true rfl) (Nat.zero_le _) (Nat.zero_le _) rfl dX7_slope_1 (sp_X7_clear o_a0  (fun Z'1 p1 => V_iconst dX7_slope_4 (V_istore_n (lv' := [some (r_ a0), some (r_ a1), some (r_ a2), some (i_ 1)]) dX7_slope_5 (Nat.le_of_ble_eq_true rfl) rfl (V_msk [true, true, true, true] rfl (h Z'1 p1))))))
set_option maxRecDepth 20000 in
theorem b_X7_slope_6 {k n : Nat} {x : Wx} {Z : Zt} {Q : Option Value → Wx → Zt → Prop} {a0 : Nat} {a1 : Nat} {a2 : Nat} {v3 : Int} (o_a2 : Is7 x a2) (o_a0 : Is7 x a0) (o_a1 : Is4 x a1)
    (h : Rg v3 ∧ Rg (Z a2 0) ∧ (((Z a2 0 < v3) → (V mX7_slope k n 46 [some (r_ a0), none, some (r_ a2), none] [] x Z Q)) ∧ ((v3 ≤ Z a2 0) → (((10 ≤ v3) → (V mX7_slope k n 46 [some (r_ a0), none, some (r_ a2), none] [] x Z Q)) ∧ ((v3 < 10) → (0 ≤ v3 ∧ (Rg (v3 * (Z (a2 + 1) v3.toNat)) ∧ 2 ≤ Z a1 0 ∧ Z a1 0 ≤ 13 ∧ (0 ≤ v3 - 1 ∧ v3 - 1 < 10 ∧ (∀ Z1 : Zt, Z1 = up Z (a0 + 1) (v3 - 1).toNat ((v3 * (Z (a2 + 1) v3.toNat)) % Z a1 0) → (V mX7_slope k n 6 [some (r_ a0), some (r_ a1), some (r_ a2), some (i_ (v3 + 1))] [] x Z1 Q)))))))))) :
    V mX7_slope k n 6 [some (r_ a0), some (r_ a1), some (r_ a2), some (i_ v3)] [] x Z Q :=
  V_iload_n dX7_slope_6 rfl (V_aload_n dX7_slope_7 rfl (G_7_0 o_a2.1 lf_7_9 dX7_slope_8 (V_icmp_gt (tgt := 46) dX7_slope_11 rfl h.1 h.2.1 (fun c1 => V_msk [true, false, true, false] rfl (h.2.2.1 c1)) (fun c1 => V_iload_n dX7_slope_14 rfl (V_bipush dX7_slope_15 rfl (V_icmp_ge (tgt := 46) dX7_slope_17 rfl h.1 (rg_c rfl) (fun c2 => V_msk [true, false, true, false] rfl ((h.2.2.2 c1).1 c2)) (fun c2 => V_aload_n dX7_slope_20 rfl (G_7_1 o_a0.1 o_a0.2.1 lf_7_15 dX7_slope_21 (V_iload_n dX7_slope_24 rfl (V_iconst dX7_slope_25 (V_isub dX7_slope_26 (V_aload_n dX7_slope_27 rfl (V_iload_n dX7_slope_28 rfl (V_aload_n dX7_slope_29 rfl (G_7_1 o_a2.1 o_a2.2.1 lf_7_15 dX7_slope_30 (V_iload_n dX7_slope_33 rfl (V_iald (t := 100) o_a2.2.2 (by decide) rfl ((h.2.2.2 c1).2 c2).1 c2 (Nat.le_of_ble_eq_true rfl) dX7_slope_34 (V_imul dX7_slope_35 (V_callV (k' := 0) (n' := 0) (t := 4) (q := (RX4, TX4, 4)) [i_ (v3 * (Z (a2 + 1) v3.toNat))] [i_ (v3 - 1), r_ (a0 + 1)] okX4_rem o_a1.1 rfl rfl lm_7_44 liX4_rem lqX4_rem (Nat.le_of_ble_eq_true rfl) (Nat.le_of_ble_eq_true rfl) (Nat.le_of_ble_eq_true rfl) (cat_of rfl) (Nat.le_of_ble_eq_true rfl) (Nat.zero_le _) (Nat.zero_le _) rfl dX7_slope_36 (sp_X4_rem o_a1 ((h.2.2.2 c1).2 c2).2.1 ((h.2.2.2 c1).2 c2).2.2.1 ((h.2.2.2 c1).2 c2).2.2.2.1 (V_iast (t := 100) o_a0.2.2 (by decide) (by decide) rfl ((h.2.2.2 c1).2 c2).2.2.2.2.1 ((h.2.2.2 c1).2 c2).2.2.2.2.2.1 (Nat.le_of_ble_eq_true rfl) dX7_slope_39 (V_nmZ (fun Z1 eZ1 => V_iinc (lv' := [some (r_ a0), some (r_ a1), some (r_ a2), some (i_ (v3 + 1))]) dX7_slope_40 rfl (Nat.le_of_ble_eq_true rfl) rfl (V_goto (tgt := 6) dX7_slope_43 rfl (V_msk [true, true, true, true] rfl (((h.2.2.2 c1).2 c2).2.2.2.2.2.2 Z1 eZ1))))))))))))))))))))))))))
set_option maxRecDepth 20000 in
theorem b_X7_slope_46 {k n : Nat} {x : Wx} {Z : Zt} {Q : Option Value → Wx → Zt → Prop} {a0 : Nat} {a2 : Nat} (o_a2 : Is7 x a2) (o_a0 : Is7 x a0)
    (h : (-1000) ≤ (Z a2 0) ∧ (Z a2 0) < 1000 ∧ (∀ i : Nat, i < 10 → Rg (Z (a0 + 1) i)) ∧ (∀ Z1 : Zt, Z1 = up Z a0 0 (dg (Z (a0 + 1)) ((min (Z a2 0) 9) + 1).toNat) → (Q none x Z1))) :
    V mX7_slope k n 46 [some (r_ a0), none, some (r_ a2), none] [] x Z Q :=
  V_aload_n dX7_slope_46 rfl (V_aload_n dX7_slope_47 rfl (G_7_0 o_a2.1 lf_7_9 dX7_slope_48 (V_callV (k' := 0) (n' := 0) (t := 7) (q := (RX7, TX7, 2)) [i_ (Z a2 0)] [] okX7_settle o_a0.1 rfl rfl lm_7_31 liX7_settle lqX7_settle (Nat.le_of_ble_eq_true rfl) (Nat.le_of_ble_eq_true rfl) (Nat.le_of_ble_eq_true rfl) (cat_of rfl) (Nat.le_of_ble_eq_true rfl) (Nat.zero_le _) (Nat.zero_le _) rfl dX7_slope_51 (sp_X7_settle o_a0 h.1 h.2.1 h.2.2.1 (V_nmZ (fun Z1 eZ1 => V_ret dX7_slope_54 rfl (h.2.2.2 Z1 eZ1)))))))
theorem sp_X7_slope {k n : Nat} {x : Wx} {Z : Zt} {Q : Option Value → Wx → Zt → Prop} {a fl b : Nat} (o : Is7 x a) (ofl : Is4 x fl) (ob : Is7 x b) {p : Int} {g : Nat → Int} (hab : a ≠ b) (hg : PA Z b p g) (hfl : Z fl 0 = p) (hp : 2 ≤ p ∧ p ≤ 13) (h : ∀ Z' : Zt, (PA Z' a p (pslo p g) ∧ Oth Z Z' (At2 a)) → Q none x Z') : V mX7_slope k n 0 [some (r_ a), some (r_ fl), some (r_ b), none] [] x Z Q := by
  have hfa := (Is47 ofl o).1
  have n1 := o.ne ob
  have n2 := ob.ne o
  have d2 := hg.dgr
  refine b_X7_slope_0 o (fun Z0 hh => ?_)
  obtain ⟨hz0, ho0⟩ := hh
  have fin : ∀ Z1 : Zt, (∀ i : Nat, i < 10 → Z1 (a + 1) i = pslo p g i) → Oth Z Z1 (At2 a) → V mX7_slope k n 46 [some (r_ a), none, some (r_ b), none] [] x Z1 Q := by
    intro Z1 hz ho
    have e1 : Z1 b 0 = Z b 0 := by rw [ho b (by omega)]
    refine b_X7_slope_46 ob o ?_
    rw [e1]
    refine ⟨by omega, by omega, fun i hi => ?_, fun Z2 e2 => h Z2 ⟨?_, fun q hq => ?_⟩⟩
    · rw [hz i hi]; have := emr (((i + 1 : Nat) : Int) * g (i + 1)) (show 0 < p by omega); exact ⟨by show _ ≤ _ % p; omega, by show _ % p < _; omega⟩
    · rw [e2]
      refine PA.settled hz (fun i hi => ?_) (fun i => emr _ (by omega)) (fun i hi => ?_)
      · unfold pslo; rw [hg.2.1 (i + 1) (by omega)]; simp
      · unfold pslo; rw [hg.hi (i + 1) (by omega)]; simp
    · rw [e2, up_row _ _ _ _ _ (fun e => hq (Or.inl e)), ho q hq]
  have lp : ∀ (m : Nat) (v : Int) (Z1 : Zt), 1 ≤ v → v + m = 10 → (∀ i : Nat, i < 10 → Z1 (a + 1) i = if (i : Int) + 1 < v then pslo p g i else 0) → Oth Z Z1 (At2 a) → V mX7_slope k n 6 [some (r_ a), some (r_ fl), some (r_ b), some (i_ v)] [] x Z1 Q := by
    intro m
    induction m with
    | zero =>
      intro v Z1 hv hm hz ho
      have e1 : Z1 b 0 = Z b 0 := by rw [ho b (by omega)]
      refine b_X7_slope_6 ob o ofl ⟨⟨by omega, by omega⟩, ⟨by omega, by omega⟩, fun _ => fin Z1 (fun i hi => ?_) ho, fun c1 => by omega⟩
      rw [hz i hi]
      by_cases c2 : (i : Int) + 1 < v
      · rw [if_pos c2]
      · rw [if_neg c2]; unfold pslo; rw [hg.2.1 (i + 1) (by omega)]; simp
    | succ m ih =>
      intro v Z1 hv hm hz ho
      have e1 : Z1 b 0 = Z b 0 := by rw [ho b (by omega)]
      have e2 : Z1 fl 0 = p := by rw [ho fl hfa]; exact hfl
      have e3 : Z1 (b + 1) v.toNat = g v.toNat := by rw [ho (b + 1) (by omega)]; exact hg.1 _ (by omega)
      have r2 := hg.2.2.1 v.toNat
      have r3 := mulb (A := 10) (show -10 ≤ v by omega) (by omega) r2.1 (show g v.toNat ≤ 13 by omega)
      refine b_X7_slope_6 ob o ofl ⟨⟨by omega, by omega⟩, ⟨by omega, by omega⟩, fun c1 => fin Z1 (fun i hi => ?_) ho, fun c1 => ⟨fun c2 => by omega, fun c2 => ⟨by omega, ?_⟩⟩⟩
      · rw [hz i hi]
        by_cases c2 : (i : Int) + 1 < v
        · rw [if_pos c2]
        · rw [if_neg c2]; unfold pslo; rw [hg.hi (i + 1) (by omega)]; simp
      · rw [e2, e3]
        refine ⟨⟨by omega, by omega⟩, by omega, by omega, by omega, by omega, fun Z2 e5 => ih (v + 1) Z2 (by omega) (by omega) (fun i hi => ?_) ?_⟩
        · rw [e5, up_at]
          by_cases c3 : i = (v - 1).toNat
          · rw [if_pos c3, if_pos (by omega), c3]; unfold pslo
            rw [show (v - 1).toNat + 1 = v.toNat by omega, show ((v.toNat : Nat) : Int) = v by omega]
          · rw [if_neg c3, hz i hi]
            by_cases c4 : (i : Int) + 1 < v
            · rw [if_pos c4, if_pos (by omega)]
            · rw [if_neg c4, if_neg (by omega)]
        · rw [e5]; exact ho.up (Or.inr rfl)
  exact lp 9 1 Z0 (by omega) (by omega) (fun i hi => by rw [if_neg (by omega)]; exact hz0.1 i hi) ho0
theorem dX7_take_0 : decode cX7_take 0 = .ok (.aload_n 0, 1) := by decide +kernel
theorem dX7_take_1 : decode cX7_take 1 = .ok (.invokevirtual 41, 3) := by decide +kernel
theorem dX7_take_4 : decode cX7_take 4 = .ok (.iconst 0, 1) := by decide +kernel
theorem dX7_take_5 : decode cX7_take 5 = .ok (.istore 5, 2) := by decide +kernel
theorem dX7_take_7 : decode cX7_take 7 = .ok (.iload 5, 2) := by decide +kernel
theorem dX7_take_9 : decode cX7_take 9 = .ok (.iload_n 3, 1) := by decide +kernel
theorem dX7_take_10 : decode cX7_take 10 = .ok (.if_icmp .gt 43, 3) := by decide +kernel
theorem dX7_take_13 : decode cX7_take 13 = .ok (.iload 5, 2) := by decide +kernel
theorem dX7_take_15 : decode cX7_take 15 = .ok (.bipush 10, 2) := by decide +kernel
theorem dX7_take_17 : decode cX7_take 17 = .ok (.if_icmp .ge 36, 3) := by decide +kernel
theorem dX7_take_20 : decode cX7_take 20 = .ok (.iload_n 2, 1) := by decide +kernel
theorem dX7_take_21 : decode cX7_take 21 = .ok (.iload 5, 2) := by decide +kernel
theorem dX7_take_23 : decode cX7_take 23 = .ok (.iadd, 1) := by decide +kernel
theorem dX7_take_24 : decode cX7_take 24 = .ok (.aload_n 1, 1) := by decide +kernel
theorem dX7_take_25 : decode cX7_take 25 = .ok (.arraylength, 1) := by decide +kernel
theorem dX7_take_26 : decode cX7_take 26 = .ok (.if_icmp .ge 27, 3) := by decide +kernel
theorem dX7_take_29 : decode cX7_take 29 = .ok (.aload_n 0, 1) := by decide +kernel
theorem dX7_take_30 : decode cX7_take 30 = .ok (.getfield 15, 3) := by decide +kernel
theorem dX7_take_33 : decode cX7_take 33 = .ok (.iload 5, 2) := by decide +kernel
theorem dX7_take_35 : decode cX7_take 35 = .ok (.aload 4, 2) := by decide +kernel
theorem dX7_take_37 : decode cX7_take 37 = .ok (.aload_n 1, 1) := by decide +kernel
theorem dX7_take_38 : decode cX7_take 38 = .ok (.iload_n 2, 1) := by decide +kernel
theorem dX7_take_39 : decode cX7_take 39 = .ok (.iload 5, 2) := by decide +kernel
theorem dX7_take_41 : decode cX7_take 41 = .ok (.iadd, 1) := by decide +kernel
theorem dX7_take_42 : decode cX7_take 42 = .ok (.iaload, 1) := by decide +kernel
theorem dX7_take_43 : decode cX7_take 43 = .ok (.invokevirtual 44, 3) := by decide +kernel
theorem dX7_take_46 : decode cX7_take 46 = .ok (.iastore, 1) := by decide +kernel
theorem dX7_take_47 : decode cX7_take 47 = .ok (.iinc 5 1, 3) := by decide +kernel
theorem dX7_take_50 : decode cX7_take 50 = .ok (.goto (-43), 3) := by decide +kernel
theorem dX7_take_53 : decode cX7_take 53 = .ok (.aload_n 0, 1) := by decide +kernel
theorem dX7_take_54 : decode cX7_take 54 = .ok (.iload_n 3, 1) := by decide +kernel
theorem dX7_take_55 : decode cX7_take 55 = .ok (.invokevirtual 31, 3) := by decide +kernel
theorem dX7_take_58 : decode cX7_take 58 = .ok (.return_, 1) := by decide +kernel
set_option maxRecDepth 20000 in
theorem b_X7_take_0 {k n : Nat} {x : Wx} {Z : Zt} {Q : Option Value → Wx → Zt → Prop} {a0 : Nat} {a1 : Nat} {v2 : Int} {v3 : Int} {a4 : Nat} (o_a0 : Is7 x a0)
    (h : ∀ (Z'1 : Zt), (PA Z'1 a0 1 (fun _ => 0) ∧ Oth Z Z'1 (At2 a0)) → (V mX7_take k n 7 [some (r_ a0), some (r_ a1), some (i_ v2), some (i_ v3), some (r_ a4), some (i_ 0)] [] x Z'1 Q)) :
    V mX7_take k n 0 [some (r_ a0), some (r_ a1), some (i_ v2), some (i_ v3), some (r_ a4), none] [] x Z Q :=
  V_aload_n dX7_take_0 rfl (V_callV (k' := 0) (n' := 0) (t := 7) (q := (RX7, TX7, 2)) [] [] okX7_clear o_a0.1 rfl rfl lm_7_41 liX7_clear lqX7_clear (Nat.le_of_ble_eq_true rfl) (Nat.le_of_ble_eq_true rfl) (Nat.le_of_ble_eq_true rfl) (cat_of rfl) (Nat.le_of_ble_eq_true rfl) (Nat.zero_le _) (Nat.zero_le _) rfl dX7_take_1 (sp_X7_clear o_a0  (fun Z'1 p1 => V_iconst dX7_take_4 (V_istore (lv' := [some (r_ a0), some (r_ a1), some (i_ v2), some (i_ v3), some (r_ a4), some (i_ 0)]) dX7_take_5 (Nat.le_of_ble_eq_true rfl) rfl (V_msk [true, true, true, true, true, true] rfl (h Z'1 p1))))))
set_option maxRecDepth 20000 in
theorem b_X7_take_7 {k n : Nat} {x : Wx} {Z : Zt} {Q : Option Value → Wx → Zt → Prop} {a0 : Nat} {a1 : Nat} {v2 : Int} {v3 : Int} {a4 : Nat} {v5 : Int} {N : Nat} (o_a0 : Is7 x a0) (o_a4 : Is4 x a4) (s_a1 : x.1 a1 = some (100, N)) (l_N : N ≤ 2147483647)
    (h : Rg v5 ∧ Rg v3 ∧ (((v3 < v5) → (V mX7_take k n 53 [some (r_ a0), none, none, some (i_ v3), none, none] [] x Z Q)) ∧ ((v5 ≤ v3) → (((10 ≤ v5) → (V mX7_take k n 53 [some (r_ a0), none, none, some (i_ v3), none, none] [] x Z Q)) ∧ ((v5 < 10) → (Rg (v2 + v5) ∧ Rg (N : Int) ∧ ((((N : Int) ≤ v2 + v5) → (V mX7_take k n 53 [some (r_ a0), none, none, some (i_ v3), none, none] [] x Z Q)) ∧ ((v2 + v5 < (N : Int)) → (0 ≤ v2 + v5 ∧ v2 + v5 < N ∧ (Rg (Z a1 (v2 + v5).toNat) ∧ 2 ≤ Z a4 0 ∧ Z a4 0 ≤ 13 ∧ (0 ≤ v5 ∧ (∀ Z1 : Zt, Z1 = up Z (a0 + 1) v5.toNat ((Z a1 (v2 + v5).toNat) % Z a4 0) → (V mX7_take k n 7 [some (r_ a0), some (r_ a1), some (i_ v2), some (i_ v3), some (r_ a4), some (i_ (v5 + 1))] [] x Z1 Q))))))))))))) :
    V mX7_take k n 7 [some (r_ a0), some (r_ a1), some (i_ v2), some (i_ v3), some (r_ a4), some (i_ v5)] [] x Z Q :=
  V_iload dX7_take_7 rfl (V_iload_n dX7_take_9 rfl (V_icmp_gt (tgt := 53) dX7_take_10 rfl h.1 h.2.1 (fun c1 => V_msk [true, false, false, true, false, false] rfl (h.2.2.1 c1)) (fun c1 => V_iload dX7_take_13 rfl (V_bipush dX7_take_15 rfl (V_icmp_ge (tgt := 53) dX7_take_17 rfl h.1 (rg_c rfl) (fun c2 => V_msk [true, false, false, true, false, false] rfl ((h.2.2.2 c1).1 c2)) (fun c2 => V_iload_n dX7_take_20 rfl (V_iload dX7_take_21 rfl (V_iadd dX7_take_23 (V_aload_n dX7_take_24 rfl (V_alen (t := 100) s_a1 (by decide) l_N dX7_take_25 (V_icmp_ge (tgt := 53) dX7_take_26 rfl ((h.2.2.2 c1).2 c2).1 ((h.2.2.2 c1).2 c2).2.1 (fun c3 => V_msk [true, false, false, true, false, false] rfl (((h.2.2.2 c1).2 c2).2.2.1 c3)) (fun c3 => V_aload_n dX7_take_29 rfl (G_7_1 o_a0.1 o_a0.2.1 lf_7_15 dX7_take_30 (V_iload dX7_take_33 rfl (V_aload dX7_take_35 rfl (V_aload_n dX7_take_37 rfl (V_iload_n dX7_take_38 rfl (V_iload dX7_take_39 rfl (V_iadd dX7_take_41 (V_iald (t := 100) s_a1 (by decide) rfl (((h.2.2.2 c1).2 c2).2.2.2 c3).1 (((h.2.2.2 c1).2 c2).2.2.2 c3).2.1 l_N dX7_take_42 (V_callV (k' := 0) (n' := 0) (t := 4) (q := (RX4, TX4, 4)) [i_ (Z a1 (v2 + v5).toNat)] [i_ v5, r_ (a0 + 1)] okX4_rem o_a4.1 rfl rfl lm_7_44 liX4_rem lqX4_rem (Nat.le_of_ble_eq_true rfl) (Nat.le_of_ble_eq_true rfl) (Nat.le_of_ble_eq_true rfl) (cat_of rfl) (Nat.le_of_ble_eq_true rfl) (Nat.zero_le _) (Nat.zero_le _) rfl dX7_take_43 (sp_X4_rem o_a4 (((h.2.2.2 c1).2 c2).2.2.2 c3).2.2.1 (((h.2.2.2 c1).2 c2).2.2.2 c3).2.2.2.1 (((h.2.2.2 c1).2 c2).2.2.2 c3).2.2.2.2.1 (V_iast (t := 100) o_a0.2.2 (by decide) (by decide) rfl (((h.2.2.2 c1).2 c2).2.2.2 c3).2.2.2.2.2.1 c2 (Nat.le_of_ble_eq_true rfl) dX7_take_46 (V_nmZ (fun Z1 eZ1 => V_iinc (lv' := [some (r_ a0), some (r_ a1), some (i_ v2), some (i_ v3), some (r_ a4), some (i_ (v5 + 1))]) dX7_take_47 rfl (Nat.le_of_ble_eq_true rfl) rfl (V_goto (tgt := 7) dX7_take_50 rfl (V_msk [true, true, true, true, true, true] rfl ((((h.2.2.2 c1).2 c2).2.2.2 c3).2.2.2.2.2.2 Z1 eZ1))))))))))))))))))))))))))))
set_option maxRecDepth 20000 in
theorem b_X7_take_53 {k n : Nat} {x : Wx} {Z : Zt} {Q : Option Value → Wx → Zt → Prop} {a0 : Nat} {v3 : Int} (o_a0 : Is7 x a0)
    (h : (-1000) ≤ v3 ∧ v3 < 1000 ∧ (∀ i : Nat, i < 10 → Rg (Z (a0 + 1) i)) ∧ (∀ Z1 : Zt, Z1 = up Z a0 0 (dg (Z (a0 + 1)) ((min v3 9) + 1).toNat) → (Q none x Z1))) :
    V mX7_take k n 53 [some (r_ a0), none, none, some (i_ v3), none, none] [] x Z Q :=
  V_aload_n dX7_take_53 rfl (V_iload_n dX7_take_54 rfl (V_callV (k' := 0) (n' := 0) (t := 7) (q := (RX7, TX7, 2)) [i_ v3] [] okX7_settle o_a0.1 rfl rfl lm_7_31 liX7_settle lqX7_settle (Nat.le_of_ble_eq_true rfl) (Nat.le_of_ble_eq_true rfl) (Nat.le_of_ble_eq_true rfl) (cat_of rfl) (Nat.le_of_ble_eq_true rfl) (Nat.zero_le _) (Nat.zero_le _) rfl dX7_take_55 (sp_X7_settle o_a0 h.1 h.2.1 h.2.2.1 (V_nmZ (fun Z1 eZ1 => V_ret dX7_take_58 rfl (h.2.2.2 Z1 eZ1))))))
def ptak (p : Int) (r : Nat → Int) (s t : Nat) : Nat → Int := fun i => if i ≤ t then r (s + i) % p else 0
theorem sp_X7_take {k n : Nat} {x : Wx} {Z : Zt} {Q : Option Value → Wx → Zt → Prop} {a r fl N : Nat} {s t : Int} (o : Is7 x a) (sr : x.1 r = some (100, N)) (hN : N ≤ 2147483647) (ofl : Is4 x fl) {p : Int} (hra : r ≠ a + 1) (hs : 0 ≤ s) (ht : 0 ≤ t ∧ t ≤ 9) (hst : s + t < N) (hrg : ∀ i : Nat, i < N → Rg (Z r i)) (hfl : Z fl 0 = p) (hp : 2 ≤ p ∧ p ≤ 13) (h : ∀ Z' : Zt, (PA Z' a p (ptak p (Z r) s.toNat t.toNat) ∧ Oth Z Z' (At2 a)) → Q none x Z') : V mX7_take k n 0 [some (r_ a), some (r_ r), some (i_ s), some (i_ t), some (r_ fl), none] [] x Z Q := by
  have hfa := (Is47 ofl o).1
  have hra2 : r ≠ a := fun e => by rw [e, o.1] at sr; cases sr
  refine b_X7_take_0 o (fun Z0 hh => ?_)
  obtain ⟨hz0, ho0⟩ := hh
  have fin : ∀ Z1 : Zt, (∀ i : Nat, i < 10 → Z1 (a + 1) i = ptak p (Z r) s.toNat t.toNat i) → Oth Z Z1 (At2 a) → V mX7_take k n 53 [some (r_ a), none, none, some (i_ t), none, none] [] x Z1 Q := by
    intro Z1 hz ho
    have rr : ∀ i, 0 ≤ ptak p (Z r) s.toNat t.toNat i ∧ ptak p (Z r) s.toNat t.toNat i < p := fun i => by
      unfold ptak
      split
      · exact emr _ (by omega)
      · omega
    refine b_X7_take_53 o ⟨by omega, by omega, fun i hi => ?_, fun Z2 e2 => h Z2 ⟨?_, fun q hq => ?_⟩⟩
    · rw [hz i hi]; have := rr i; exact ⟨by omega, by omega⟩
    · rw [e2]
      refine PA.settled hz (fun i hi => ?_) rr (fun i hi => ?_)
      · unfold ptak; rw [if_neg (by omega)]
      · unfold ptak; rw [if_neg (by omega)]
    · rw [e2, up_row _ _ _ _ _ (fun e => hq (Or.inl e)), ho q hq]
  have lp : ∀ (m : Nat) (v : Int) (Z1 : Zt), 0 ≤ v → v + m = t + 1 → (∀ i : Nat, i < 10 → Z1 (a + 1) i = if (i : Int) < v then ptak p (Z r) s.toNat t.toNat i else 0) → Oth Z Z1 (At2 a) → V mX7_take k n 7 [some (r_ a), some (r_ r), some (i_ s), some (i_ t), some (r_ fl), some (i_ v)] [] x Z1 Q := by
    intro m
    induction m with
    | zero =>
      intro v Z1 hv hm hz ho
      refine b_X7_take_7 o ofl sr hN ⟨⟨by omega, by omega⟩, ⟨by omega, by omega⟩, fun _ => fin Z1 (fun i hi => ?_) ho, fun c1 => by omega⟩
      rw [hz i hi]
      by_cases c2 : (i : Int) < v
      · rw [if_pos c2]
      · rw [if_neg c2]; unfold ptak; rw [if_neg (by omega)]
    | succ m ih =>
      intro v Z1 hv hm hz ho
      have e2 : Z1 fl 0 = p := by rw [ho fl hfa]; exact hfl
      have e3 : Z1 r = Z r := ho r (fun e => e.elim hra2 hra)
      refine b_X7_take_7 o ofl sr hN ⟨⟨by omega, by omega⟩, ⟨by omega, by omega⟩, fun c1 => by omega, fun c1 => ⟨fun c2 => by omega, fun c2 => ⟨⟨by omega, by omega⟩, ⟨by omega, by omega⟩, fun c3 => by omega, fun c3 => ⟨by omega, by omega, ?_⟩⟩⟩⟩
      rw [e2, e3]
      refine ⟨hrg _ (by omega), by omega, by omega, by omega, fun Z2 e5 => ih (v + 1) Z2 (by omega) (by omega) (fun i hi => ?_) ?_⟩
      · rw [e5, up_at]
        by_cases c3 : i = v.toNat
        · rw [if_pos c3, if_pos (by omega), c3]; unfold ptak
          rw [if_pos (by omega), show (s + v).toNat = s.toNat + v.toNat by omega]
        · rw [if_neg c3, hz i hi]
          by_cases c4 : (i : Int) < v
          · rw [if_pos c4, if_pos (by omega)]
          · rw [if_neg c4, if_neg (by omega)]
      · rw [e5]; exact ho.up (Or.inr rfl)
  exact lp (t + 1).toNat 0 Z0 (by omega) (by omega) (fun i hi => by rw [if_neg (by omega)]; exact hz0.1 i hi) ho0
def csum (f g : Nat → Int) (t : Nat) : Nat → Int
  | 0 => 0
  | m + 1 => csum f g t m + (if m ≤ t then f m * g (t - m) else 0)
def pmul (p : Int) (f g : Nat → Int) : Nat → Int := fun t => csum f g t (t + 1) % p
theorem csum_over (f g : Nat → Int) (t : Nat) : ∀ n, t + 1 ≤ n → csum f g t n = csum f g t (t + 1)
  | 0, h => by omega
  | n + 1, h => by
    by_cases e : n = t
    · subst e; rfl
    · show csum f g t n + _ = _
      rw [if_neg (by omega), csum_over f g t n (by omega)]; omega
theorem csum_stop (f g : Nat → Int) (t m : Nat) (hz : ∀ i, m ≤ i → f i = 0) : ∀ n, m ≤ n → csum f g t n = csum f g t m
  | 0, h => by rw [show m = 0 by omega]
  | n + 1, h => by
    by_cases e : m = n + 1
    · subst e; rfl
    · show csum f g t n + _ = _
      rw [hz n (by omega), csum_stop f g t m hz n (by omega)]
      simp
theorem csum_zero (f g : Nat → Int) (t : Nat) (h : ∀ i, i ≤ t → f i * g (t - i) = 0) : ∀ n, csum f g t n = 0
  | 0 => rfl
  | n + 1 => by
    show csum f g t n + _ = 0
    rw [csum_zero f g t h n]
    split
    · rename_i c; rw [h n c]; rfl
    · rfl
theorem pmul_hi {p : Int} {f g : Nat → Int} {u v : Int} (hf : ∀ i : Nat, u < i → f i = 0) (hg : ∀ i : Nat, v < i → g i = 0) (t : Nat) (h : u + v < t) : pmul p f g t = 0 := by
  unfold pmul
  rw [csum_zero f g t (fun i hi => ?_)]
  · simp
  · by_cases c : u < i
    · rw [hf i c]; simp
    · rw [hg (t - i) (by omega)]; simp
theorem add_em (u v p : Int) : (u % p + v) % p = (u + v) % p := Int.emod_add_emod u p v
theorem dX7_product_0 : decode cX7_product 0 = .ok (.aload_n 0, 1) := by decide +kernel
theorem dX7_product_1 : decode cX7_product 1 = .ok (.getfield 15, 3) := by decide +kernel
theorem dX7_product_4 : decode cX7_product 4 = .ok (.iconst 0, 1) := by decide +kernel
theorem dX7_product_5 : decode cX7_product 5 = .ok (.invokestatic 19, 3) := by decide +kernel
theorem dX7_product_8 : decode cX7_product 8 = .ok (.iconst 0, 1) := by decide +kernel
theorem dX7_product_9 : decode cX7_product 9 = .ok (.istore 4, 2) := by decide +kernel
theorem dX7_product_11 : decode cX7_product 11 = .ok (.iload 4, 2) := by decide +kernel
theorem dX7_product_13 : decode cX7_product 13 = .ok (.aload_n 2, 1) := by decide +kernel
theorem dX7_product_14 : decode cX7_product 14 = .ok (.getfield 9, 3) := by decide +kernel
theorem dX7_product_17 : decode cX7_product 17 = .ok (.if_icmp .gt 77, 3) := by decide +kernel
theorem dX7_product_20 : decode cX7_product 20 = .ok (.iconst 0, 1) := by decide +kernel
theorem dX7_product_21 : decode cX7_product 21 = .ok (.istore 5, 2) := by decide +kernel
theorem dX7_product_23 : decode cX7_product 23 = .ok (.iload 5, 2) := by decide +kernel
theorem dX7_product_25 : decode cX7_product 25 = .ok (.aload_n 3, 1) := by decide +kernel
theorem dX7_product_26 : decode cX7_product 26 = .ok (.getfield 9, 3) := by decide +kernel
theorem dX7_product_29 : decode cX7_product 29 = .ok (.if_icmp .gt 59, 3) := by decide +kernel
theorem dX7_product_32 : decode cX7_product 32 = .ok (.iload 4, 2) := by decide +kernel
theorem dX7_product_34 : decode cX7_product 34 = .ok (.iload 5, 2) := by decide +kernel
theorem dX7_product_36 : decode cX7_product 36 = .ok (.iadd, 1) := by decide +kernel
theorem dX7_product_37 : decode cX7_product 37 = .ok (.bipush 10, 2) := by decide +kernel
theorem dX7_product_39 : decode cX7_product 39 = .ok (.if_icmp .ge 49, 3) := by decide +kernel
theorem dX7_product_42 : decode cX7_product 42 = .ok (.aload_n 0, 1) := by decide +kernel
theorem dX7_product_43 : decode cX7_product 43 = .ok (.getfield 15, 3) := by decide +kernel
theorem dX7_product_46 : decode cX7_product 46 = .ok (.iload 4, 2) := by decide +kernel
theorem dX7_product_48 : decode cX7_product 48 = .ok (.iload 5, 2) := by decide +kernel
theorem dX7_product_50 : decode cX7_product 50 = .ok (.iadd, 1) := by decide +kernel
theorem dX7_product_51 : decode cX7_product 51 = .ok (.aload_n 1, 1) := by decide +kernel
theorem dX7_product_52 : decode cX7_product 52 = .ok (.aload_n 0, 1) := by decide +kernel
theorem dX7_product_53 : decode cX7_product 53 = .ok (.getfield 15, 3) := by decide +kernel
theorem dX7_product_56 : decode cX7_product 56 = .ok (.iload 4, 2) := by decide +kernel
theorem dX7_product_58 : decode cX7_product 58 = .ok (.iload 5, 2) := by decide +kernel
theorem dX7_product_60 : decode cX7_product 60 = .ok (.iadd, 1) := by decide +kernel
theorem dX7_product_61 : decode cX7_product 61 = .ok (.iaload, 1) := by decide +kernel
theorem dX7_product_62 : decode cX7_product 62 = .ok (.aload_n 2, 1) := by decide +kernel
theorem dX7_product_63 : decode cX7_product 63 = .ok (.getfield 15, 3) := by decide +kernel
theorem dX7_product_66 : decode cX7_product 66 = .ok (.iload 4, 2) := by decide +kernel
theorem dX7_product_68 : decode cX7_product 68 = .ok (.iaload, 1) := by decide +kernel
theorem dX7_product_69 : decode cX7_product 69 = .ok (.aload_n 3, 1) := by decide +kernel
theorem dX7_product_70 : decode cX7_product 70 = .ok (.getfield 15, 3) := by decide +kernel
theorem dX7_product_73 : decode cX7_product 73 = .ok (.iload 5, 2) := by decide +kernel
theorem dX7_product_75 : decode cX7_product 75 = .ok (.iaload, 1) := by decide +kernel
theorem dX7_product_76 : decode cX7_product 76 = .ok (.imul, 1) := by decide +kernel
theorem dX7_product_77 : decode cX7_product 77 = .ok (.iadd, 1) := by decide +kernel
theorem dX7_product_78 : decode cX7_product 78 = .ok (.invokevirtual 44, 3) := by decide +kernel
theorem dX7_product_81 : decode cX7_product 81 = .ok (.iastore, 1) := by decide +kernel
theorem dX7_product_82 : decode cX7_product 82 = .ok (.iinc 5 1, 3) := by decide +kernel
theorem dX7_product_85 : decode cX7_product 85 = .ok (.goto (-62), 3) := by decide +kernel
theorem dX7_product_88 : decode cX7_product 88 = .ok (.iinc 4 1, 3) := by decide +kernel
theorem dX7_product_91 : decode cX7_product 91 = .ok (.goto (-80), 3) := by decide +kernel
theorem dX7_product_94 : decode cX7_product 94 = .ok (.aload_n 0, 1) := by decide +kernel
theorem dX7_product_95 : decode cX7_product 95 = .ok (.aload_n 2, 1) := by decide +kernel
theorem dX7_product_96 : decode cX7_product 96 = .ok (.getfield 9, 3) := by decide +kernel
theorem dX7_product_99 : decode cX7_product 99 = .ok (.aload_n 3, 1) := by decide +kernel
theorem dX7_product_100 : decode cX7_product 100 = .ok (.getfield 9, 3) := by decide +kernel
theorem dX7_product_103 : decode cX7_product 103 = .ok (.iadd, 1) := by decide +kernel
theorem dX7_product_104 : decode cX7_product 104 = .ok (.invokevirtual 31, 3) := by decide +kernel
theorem dX7_product_107 : decode cX7_product 107 = .ok (.return_, 1) := by decide +kernel
set_option maxRecDepth 20000 in
theorem b_X7_product_0 {k n : Nat} {x : Wx} {Z : Zt} {Q : Option Value → Wx → Zt → Prop} {a0 : Nat} {a1 : Nat} {a2 : Nat} {a3 : Nat} (o_a0 : Is7 x a0)
    (h : ∀ Z1 : Zt, Z1 = fillZ Z (a0 + 1) 10 (0 : Int) → (V mX7_product k n 11 [some (r_ a0), some (r_ a1), some (r_ a2), some (r_ a3), some (i_ 0), none] [] x Z1 Q)) :
    V mX7_product k n 0 [some (r_ a0), some (r_ a1), some (r_ a2), some (r_ a3), none, none] [] x Z Q :=
  V_aload_n dX7_product_0 rfl (G_7_1 o_a0.1 o_a0.2.1 lf_7_15 dX7_product_1 (V_iconst dX7_product_4 (V_callS (k' := 0) (n' := 0) [r_ (a0 + 1), i_ 0] [] okJ7_fill_53178 lm_7_19 lsJ7_fill_53178 (Nat.le_of_ble_eq_true rfl) (Nat.le_of_ble_eq_true rfl) (Nat.le_of_ble_eq_true rfl) (cat_of rfl) (Nat.le_of_ble_eq_true rfl) (Nat.zero_le _) (Nat.zero_le _) rfl dX7_product_5 (sp_J7_fill_53178 o_a0.2.2 (Nat.le_of_ble_eq_true rfl)  (V_nmZ (fun Z1 eZ1 => V_iconst dX7_product_8 (V_istore (lv' := [some (r_ a0), some (r_ a1), some (r_ a2), some (r_ a3), some (i_ 0), none]) dX7_product_9 (Nat.le_of_ble_eq_true rfl) rfl (V_msk [true, true, true, true, true, false] rfl (h Z1 eZ1)))))))))
set_option maxRecDepth 20000 in
theorem b_X7_product_11 {k n : Nat} {x : Wx} {Z : Zt} {Q : Option Value → Wx → Zt → Prop} {a0 : Nat} {a1 : Nat} {a2 : Nat} {a3 : Nat} {v4 : Int} (o_a2 : Is7 x a2) (o_a3 : Is7 x a3) (o_a0 : Is7 x a0)
    (h : Rg v4 ∧ Rg (Z a2 0) ∧ (((Z a2 0 < v4) → ((-1000) ≤ ((Z a2 0) + (Z a3 0)) ∧ ((Z a2 0) + (Z a3 0)) < 1000 ∧ (∀ i : Nat, i < 10 → Rg (Z (a0 + 1) i)) ∧ (∀ Z1 : Zt, Z1 = up Z a0 0 (dg (Z (a0 + 1)) ((min ((Z a2 0) + (Z a3 0)) 9) + 1).toNat) → (Q none x Z1)))) ∧ ((v4 ≤ Z a2 0) → (V mX7_product k n 23 [some (r_ a0), some (r_ a1), some (r_ a2), some (r_ a3), some (i_ v4), some (i_ 0)] [] x Z Q)))) :
    V mX7_product k n 11 [some (r_ a0), some (r_ a1), some (r_ a2), some (r_ a3), some (i_ v4), none] [] x Z Q :=
  V_iload dX7_product_11 rfl (V_aload_n dX7_product_13 rfl (G_7_0 o_a2.1 lf_7_9 dX7_product_14 (V_icmp_gt (tgt := 94) dX7_product_17 rfl h.1 h.2.1 (fun c1 => V_aload_n dX7_product_94 rfl (V_aload_n dX7_product_95 rfl (G_7_0 o_a2.1 lf_7_9 dX7_product_96 (V_aload_n dX7_product_99 rfl (G_7_0 o_a3.1 lf_7_9 dX7_product_100 (V_iadd dX7_product_103 (V_callV (k' := 0) (n' := 0) (t := 7) (q := (RX7, TX7, 2)) [i_ ((Z a2 0) + (Z a3 0))] [] okX7_settle o_a0.1 rfl rfl lm_7_31 liX7_settle lqX7_settle (Nat.le_of_ble_eq_true rfl) (Nat.le_of_ble_eq_true rfl) (Nat.le_of_ble_eq_true rfl) (cat_of rfl) (Nat.le_of_ble_eq_true rfl) (Nat.zero_le _) (Nat.zero_le _) rfl dX7_product_104 (sp_X7_settle o_a0 (h.2.2.1 c1).1 (h.2.2.1 c1).2.1 (h.2.2.1 c1).2.2.1 (V_nmZ (fun Z1 eZ1 => V_ret dX7_product_107 rfl ((h.2.2.1 c1).2.2.2 Z1 eZ1))))))))))) (fun c1 => V_iconst dX7_product_20 (V_istore (lv' := [some (r_ a0), some (r_ a1), some (r_ a2), some (r_ a3), some (i_ v4), some (i_ 0)]) dX7_product_21 (Nat.le_of_ble_eq_true rfl) rfl (V_msk [true, true, true, true, true, true] rfl (h.2.2.2 c1)))))))
set_option maxRecDepth 20000 in
theorem b_X7_product_23 {k n : Nat} {x : Wx} {Z : Zt} {Q : Option Value → Wx → Zt → Prop} {a0 : Nat} {a1 : Nat} {a2 : Nat} {a3 : Nat} {v4 : Int} {v5 : Int} (o_a3 : Is7 x a3) (o_a0 : Is7 x a0) (o_a2 : Is7 x a2) (o_a1 : Is4 x a1)
    (h : Rg v5 ∧ Rg (Z a3 0) ∧ (((Z a3 0 < v5) → (V mX7_product k n 88 [some (r_ a0), some (r_ a1), some (r_ a2), some (r_ a3), some (i_ v4), none] [] x Z Q)) ∧ ((v5 ≤ Z a3 0) → (Rg (v4 + v5) ∧ (((10 ≤ v4 + v5) → (V mX7_product k n 88 [some (r_ a0), some (r_ a1), some (r_ a2), some (r_ a3), some (i_ v4), none] [] x Z Q)) ∧ ((v4 + v5 < 10) → (0 ≤ v4 + v5 ∧ (0 ≤ v4 ∧ v4 < 10 ∧ (0 ≤ v5 ∧ v5 < 10 ∧ (Rg ((Z (a0 + 1) (v4 + v5).toNat) + ((Z (a2 + 1) v4.toNat) * (Z (a3 + 1) v5.toNat))) ∧ 2 ≤ Z a1 0 ∧ Z a1 0 ≤ 13 ∧ (∀ Z1 : Zt, Z1 = up Z (a0 + 1) (v4 + v5).toNat (((Z (a0 + 1) (v4 + v5).toNat) + ((Z (a2 + 1) v4.toNat) * (Z (a3 + 1) v5.toNat))) % Z a1 0) → (V mX7_product k n 23 [some (r_ a0), some (r_ a1), some (r_ a2), some (r_ a3), some (i_ v4), some (i_ (v5 + 1))] [] x Z1 Q)))))))))))) :
    V mX7_product k n 23 [some (r_ a0), some (r_ a1), some (r_ a2), some (r_ a3), some (i_ v4), some (i_ v5)] [] x Z Q :=
  V_iload dX7_product_23 rfl (V_aload_n dX7_product_25 rfl (G_7_0 o_a3.1 lf_7_9 dX7_product_26 (V_icmp_gt (tgt := 88) dX7_product_29 rfl h.1 h.2.1 (fun c1 => V_msk [true, true, true, true, true, false] rfl (h.2.2.1 c1)) (fun c1 => V_iload dX7_product_32 rfl (V_iload dX7_product_34 rfl (V_iadd dX7_product_36 (V_bipush dX7_product_37 rfl (V_icmp_ge (tgt := 88) dX7_product_39 rfl (h.2.2.2 c1).1 (rg_c rfl) (fun c2 => V_msk [true, true, true, true, true, false] rfl ((h.2.2.2 c1).2.1 c2)) (fun c2 => V_aload_n dX7_product_42 rfl (G_7_1 o_a0.1 o_a0.2.1 lf_7_15 dX7_product_43 (V_iload dX7_product_46 rfl (V_iload dX7_product_48 rfl (V_iadd dX7_product_50 (V_aload_n dX7_product_51 rfl (V_aload_n dX7_product_52 rfl (G_7_1 o_a0.1 o_a0.2.1 lf_7_15 dX7_product_53 (V_iload dX7_product_56 rfl (V_iload dX7_product_58 rfl (V_iadd dX7_product_60 (V_iald (t := 100) o_a0.2.2 (by decide) rfl ((h.2.2.2 c1).2.2 c2).1 c2 (Nat.le_of_ble_eq_true rfl) dX7_product_61 (V_aload_n dX7_product_62 rfl (G_7_1 o_a2.1 o_a2.2.1 lf_7_15 dX7_product_63 (V_iload dX7_product_66 rfl (V_iald (t := 100) o_a2.2.2 (by decide) rfl ((h.2.2.2 c1).2.2 c2).2.1 ((h.2.2.2 c1).2.2 c2).2.2.1 (Nat.le_of_ble_eq_true rfl) dX7_product_68 (V_aload_n dX7_product_69 rfl (G_7_1 o_a3.1 o_a3.2.1 lf_7_15 dX7_product_70 (V_iload dX7_product_73 rfl (V_iald (t := 100) o_a3.2.2 (by decide) rfl ((h.2.2.2 c1).2.2 c2).2.2.2.1 ((h.2.2.2 c1).2.2 c2).2.2.2.2.1 (Nat.le_of_ble_eq_true rfl) dX7_product_75 (V_imul dX7_product_76 (V_iadd dX7_product_77 (V_callV (k' := 0) (n' := 0) (t := 4) (q := (RX4, TX4, 4)) [i_ ((Z (a0 + 1) (v4 + v5).toNat) + ((Z (a2 + 1) v4.toNat) * (Z (a3 + 1) v5.toNat)))] [i_ (v4 + v5), r_ (a0 + 1)] okX4_rem o_a1.1 rfl rfl lm_7_44 liX4_rem lqX4_rem (Nat.le_of_ble_eq_true rfl) (Nat.le_of_ble_eq_true rfl) (Nat.le_of_ble_eq_true rfl) (cat_of rfl) (Nat.le_of_ble_eq_true rfl) (Nat.zero_le _) (Nat.zero_le _) rfl dX7_product_78 (sp_X4_rem o_a1 ((h.2.2.2 c1).2.2 c2).2.2.2.2.2.1 ((h.2.2.2 c1).2.2 c2).2.2.2.2.2.2.1 ((h.2.2.2 c1).2.2 c2).2.2.2.2.2.2.2.1 (V_iast (t := 100) o_a0.2.2 (by decide) (by decide) rfl ((h.2.2.2 c1).2.2 c2).1 c2 (Nat.le_of_ble_eq_true rfl) dX7_product_81 (V_nmZ (fun Z1 eZ1 => V_iinc (lv' := [some (r_ a0), some (r_ a1), some (r_ a2), some (r_ a3), some (i_ v4), some (i_ (v5 + 1))]) dX7_product_82 rfl (Nat.le_of_ble_eq_true rfl) rfl (V_goto (tgt := 23) dX7_product_85 rfl (V_msk [true, true, true, true, true, true] rfl (((h.2.2.2 c1).2.2 c2).2.2.2.2.2.2.2.2 Z1 eZ1))))))))))))))))))))))))))))))))))))))
set_option maxRecDepth 20000 in
theorem b_X7_product_88 {k n : Nat} {x : Wx} {Z : Zt} {Q : Option Value → Wx → Zt → Prop} {a0 : Nat} {a1 : Nat} {a2 : Nat} {a3 : Nat} {v4 : Int} 
    (h : V mX7_product k n 11 [some (r_ a0), some (r_ a1), some (r_ a2), some (r_ a3), some (i_ (v4 + 1)), none] [] x Z Q) :
    V mX7_product k n 88 [some (r_ a0), some (r_ a1), some (r_ a2), some (r_ a3), some (i_ v4), none] [] x Z Q :=
  V_iinc (lv' := [some (r_ a0), some (r_ a1), some (r_ a2), some (r_ a3), some (i_ (v4 + 1)), none]) dX7_product_88 rfl (Nat.le_of_ble_eq_true rfl) rfl (V_goto (tgt := 11) dX7_product_91 rfl (V_msk [true, true, true, true, true, false] rfl h))
theorem sp_X7_product {k n : Nat} {x : Wx} {Z : Zt} {Q : Option Value → Wx → Zt → Prop} {a fl b c : Nat} (o : Is7 x a) (ofl : Is4 x fl) (ob : Is7 x b) (oc : Is7 x c) {p : Int} {f g : Nat → Int} (hab : a ≠ b) (hac : a ≠ c) (hf : PA Z b p f) (hg : PA Z c p g) (hfl : Z fl 0 = p) (hp : 2 ≤ p ∧ p ≤ 13) (hdd : dg f 10 + dg g 10 ≤ 9) (h : ∀ Z' : Zt, (PA Z' a p (pmul p f g) ∧ Oth Z Z' (At2 a)) → Q none x Z') : V mX7_product k n 0 [some (r_ a), some (r_ fl), some (r_ b), some (r_ c), none, none] [] x Z Q := by
  have hfa := (Is47 ofl o).1
  have n1 := o.ne ob
  have n2 := ob.ne o
  have n3 := o.ne oc
  have n4 := oc.ne o
  have d1 := hf.dgr
  have d2 := hg.dgr
  have hfd := hf.2.2.2
  have hgd := hg.2.2.2
  have hfh := hf.hi
  have hgh := hg.hi
  have rw1 : ∀ Z1 : Zt, Oth Z Z1 (fun q => q = a + 1) → Z1 b = Z b ∧ Z1 (b + 1) = Z (b + 1) ∧ Z1 c = Z c ∧ Z1 (c + 1) = Z (c + 1) ∧ Z1 fl 0 = p := fun Z1 ho => ⟨ho b (by omega), ho (b + 1) (by omega), ho c (by omega), ho (c + 1) (by omega), by rw [ho fl (fun e => hfa (Or.inr e))]; exact hfl⟩
  -- the inner loop
  have inn : ∀ (i : Int), 0 ≤ i → i ≤ Z b 0 → (∀ Z1 : Zt, (∀ t : Nat, t < 10 → Z1 (a + 1) t = csum f g t (i.toNat + 1) % p) → Oth Z Z1 (fun q => q = a + 1) → V mX7_product k n 11 [some (r_ a), some (r_ fl), some (r_ b), some (r_ c), some (i_ (i + 1)), none] [] x Z1 Q) → ∀ (m : Nat) (j : Int) (Z1 : Zt), 0 ≤ j → j + m = 10 → (∀ t : Nat, t < 10 → Z1 (a + 1) t = (if (t : Int) < i + j then csum f g t (i.toNat + 1) else csum f g t i.toNat) % p) → Oth Z Z1 (fun q => q = a + 1) → V mX7_product k n 23 [some (r_ a), some (r_ fl), some (r_ b), some (r_ c), some (i_ i), some (i_ j)] [] x Z1 Q := by
    intro i hi0 hi1 hk m
    have st : ∀ t : Nat, csum f g t (i.toNat + 1) = csum f g t i.toNat + (if i.toNat ≤ t then f i.toNat * g (t - i.toNat) else 0) := fun t => rfl
    have done : ∀ (j : Int) (Z1 : Zt), 0 ≤ j → (Z c 0 < j ∨ 10 ≤ i + j) → (∀ t : Nat, t < 10 → Z1 (a + 1) t = (if (t : Int) < i + j then csum f g t (i.toNat + 1) else csum f g t i.toNat) % p) → Oth Z Z1 (fun q => q = a + 1) → V mX7_product k n 88 [some (r_ a), some (r_ fl), some (r_ b), some (r_ c), some (i_ i), none] [] x Z1 Q := by
      intro j Z1 hj hd hz ho
      refine b_X7_product_88 (hk Z1 (fun t ht => ?_) ho)
      rw [hz t ht]
      by_cases c1 : (t : Int) < i + j
      · rw [if_pos c1]
      · rw [if_neg c1, st t]
        rw [hgh (t - i.toNat) (by omega)]
        simp
    induction m with
    | zero =>
      intro j Z1 hj hm hz ho
      obtain ⟨e1, e2, e3, e4, e5⟩ := rw1 Z1 ho
      refine b_X7_product_23 oc o ob ofl ?_
      rw [e3]
      refine ⟨⟨by omega, by omega⟩, ⟨by omega, by omega⟩, fun c1 => done j Z1 hj (Or.inl c1) hz ho, fun c1 => ⟨⟨by omega, by omega⟩, fun c2 => done j Z1 hj (Or.inr c2) hz ho, fun c2 => by omega⟩⟩
    | succ m ih =>
      intro j Z1 hj hm hz ho
      obtain ⟨e1, e2, e3, e4, e5⟩ := rw1 Z1 ho
      refine b_X7_product_23 oc o ob ofl ?_
      rw [e3]
      refine ⟨⟨by omega, by omega⟩, ⟨by omega, by omega⟩, fun c1 => done j Z1 hj (Or.inl c1) hz ho, fun c1 => ⟨⟨by omega, by omega⟩, fun c2 => done j Z1 hj (Or.inr c2) hz ho, fun c2 => ⟨by omega, by omega, by omega, by omega, by omega, ?_⟩⟩⟩
      have ez : Z1 (a + 1) (i + j).toNat = csum f g (i + j).toNat i.toNat % p := by rw [hz _ (by omega), if_neg (by omega)]
      have ef : Z1 (b + 1) i.toNat = f i.toNat := by rw [e2]; exact hf.1 _ (by omega)
      have eg : Z1 (c + 1) j.toNat = g j.toNat := by rw [e4]; exact hg.1 _ (by omega)
      rw [e5, ez, ef, eg]
      have r0 := emr (csum f g (i + j).toNat i.toNat) (show 0 < p by omega)
      have r1 := hf.2.2.1 i.toNat
      have r2 := hg.2.2.1 j.toNat
      have r3 := mulb (A := 13) (show -13 ≤ f i.toNat by omega) (by omega) r2.1 (show g j.toNat ≤ 13 by omega)
      refine ⟨⟨by omega, by omega⟩, by omega, by omega, fun Z2 e6 => ih (j + 1) Z2 (by omega) (by omega) (fun t ht => ?_) ?_⟩
      · rw [e6, up_at]
        by_cases c3 : t = (i + j).toNat
        · rw [if_pos c3, if_pos (by omega), st t, if_pos (by omega), add_em, c3, show (i + j).toNat - i.toNat = j.toNat by omega]
        · rw [if_neg c3, hz t ht]
          by_cases c4 : (t : Int) < i + j
          · rw [if_pos c4, if_pos (by omega)]
          · rw [if_neg c4, if_neg (by omega)]
      · rw [e6]; exact ho.up rfl
  -- the outer loop
  have out : ∀ (m : Nat) (i : Int) (Z1 : Zt), 0 ≤ i → i + m = Z b 0 + 1 → (∀ t : Nat, t < 10 → Z1 (a + 1) t = csum f g t i.toNat % p) → Oth Z Z1 (fun q => q = a + 1) → V mX7_product k n 11 [some (r_ a), some (r_ fl), some (r_ b), some (r_ c), some (i_ i), none] [] x Z1 Q := by
    intro m
    induction m with
    | zero =>
      intro i Z1 hi hm hz ho
      obtain ⟨e1, e2, e3, e4, e5⟩ := rw1 Z1 ho
      refine b_X7_product_11 ob oc o ?_
      rw [e1, e3]
      have hz2 : ∀ t : Nat, t < 10 → Z1 (a + 1) t = pmul p f g t := fun t ht => by
        rw [hz t ht]
        unfold pmul
        by_cases c1 : t + 1 ≤ i.toNat
        · rw [csum_over f g t _ c1]
        · rw [csum_stop f g t i.toNat (fun q hq => hfh q (by omega)) (t + 1) (by omega)]
      refine ⟨⟨by omega, by omega⟩, ⟨by omega, by omega⟩, fun _ => ⟨by omega, by omega, fun t ht => ?_, fun Z2 e6 => h Z2 ⟨?_, fun q hq => ?_⟩⟩, fun c1 => by omega⟩
      · rw [hz t ht]; have := emr (csum f g t i.toNat) (show 0 < p by omega); exact ⟨by omega, by omega⟩
      · rw [e6]
        refine PA.settled hz2 (fun t ht => pmul_hi hfh hgh t (by omega)) (fun t => emr _ (by omega)) (fun t ht => pmul_hi hfh hgh t ht)
      · rw [e6, up_row _ _ _ _ _ (fun e => hq (Or.inl e)), ho q (fun e => hq (Or.inr e))]
    | succ m ih =>
      intro i Z1 hi hm hz ho
      obtain ⟨e1, e2, e3, e4, e5⟩ := rw1 Z1 ho
      refine b_X7_product_11 ob oc o ?_
      rw [e1]
      refine ⟨⟨by omega, by omega⟩, ⟨by omega, by omega⟩, fun c1 => by omega, fun c1 => ?_⟩
      refine inn i hi (by omega) (fun Z2 hz2 ho2 => ih (i + 1) Z2 (by omega) (by omega) (fun t ht => ?_) ho2) 10 0 Z1 (by omega) (by omega) (fun t ht => ?_) ho
      · rw [hz2 t ht, show (i + 1).toNat = i.toNat + 1 by omega]
      · rw [hz t ht]
        by_cases c4 : (t : Int) < i + 0
        · rw [if_pos c4]
          show _ = (csum f g t i.toNat + (if i.toNat ≤ t then f i.toNat * g (t - i.toNat) else 0)) % p
          rw [if_neg (by omega)]; simp
        · rw [if_neg c4]
  refine b_X7_product_0 o (fun Z1 e1 => out (Z b 0 + 1).toNat 0 Z1 (by omega) (by omega) (fun t ht => ?_) (fun q hq => ?_))
  · rw [e1]; unfold fillZ; rw [if_pos ⟨rfl, ht⟩]; simp [csum]
  · rw [e1]; funext i; unfold fillZ; rw [if_neg (fun e => hq e.1)]
