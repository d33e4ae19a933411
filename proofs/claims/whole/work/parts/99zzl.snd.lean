/-! ===== p = 13: what the run shows ===== -/
theorem al13_at {f : Nat → Bool} (h : al13 f = true) {i : Nat} (hi : i < 13) : f i = true := by
  unfold al13 at h
  simp only [Bool.and_eq_true] at h
  obtain ⟨h0, h1, h2, h3, h4, h5, h6, h7, h8, h9, h10, h11, h12⟩ := h
  rcases (show i = 0 ∨ i = 1 ∨ i = 2 ∨ i = 3 ∨ i = 4 ∨ i = 5 ∨ i = 6 ∨ i = 7 ∨ i = 8 ∨ i = 9 ∨ i = 10 ∨ i = 11 ∨ i = 12 by omega) with rfl | rfl | rfl | rfl | rfl | rfl | rfl | rfl | rfl | rfl | rfl | rfl | rfl <;> assumption
theorem st13_at {df v : Nat} {f : Nat → Bool} (h : st13 df v f = true) (h3 : df + dz v < 3) : f (df + dz v) = true := by
  unfold st13 at h
  rw [frc_eq, if_neg (by omega)] at h
  exact h
theorem ext13_at {leaf : Nat → Bool} {k a0 a1 a2 a3 a4 a5 df : Nat} (h : ext13 leaf (k + 1) a0 a1 a2 a3 a4 a5 df = true) {v : Nat} (hv : nx13 a0 a1 a2 a3 a4 a5 = v) (h3 : df + dz v < 3) : ext13 leaf k a1 a2 a3 a4 a5 v (df + dz v) = true := by
  unfold ext13 at h
  rw [frc_eq, frc_eq, hv, if_neg (by omega)] at h
  exact h
theorem hn13_rest (s t c0 c1 c2 c3 c4 u v : Nat) : ∃ a b : Nat, hn13 s t c0 c1 c2 c3 c4 u v = dz ((a * a + 11 * (b * b)) % 13) := ⟨_, _, rfl⟩
theorem sm13_at {need c0 c1 c2 c3 c4 c5 : Nat} : ∀ (k i acc : Nat), sm13 need c0 c1 c2 c3 c4 c5 k i acc = true → (need : Int) ≤ acc + smT k (fun j => (hn13 ((i + j) / 13) ((i + j) % 13) c0 c1 c2 c3 c4 c5 0 : Int))
  | 0, i, acc, h => by
    have := Nat.le_of_ble_eq_true h
    show (need : Int) ≤ acc + 0
    omega
  | k + 1, i, acc, h => by
    unfold sm13 at h
    have nn : ∀ (k i : Nat), 0 ≤ smT k (fun j => (hn13 ((i + j) / 13) ((i + j) % 13) c0 c1 c2 c3 c4 c5 0 : Int)) := fun k i => smT_nn (fun j _ => by omega)
    by_cases c : Nat.ble need acc = true
    · have := Nat.le_of_ble_eq_true c
      have := nn (k + 1) i
      omega
    · rw [if_neg c, frc_eq, frc_eq] at h
      have ih := sm13_at k (i + 1) _ h
      rw [smT_fst, smT_ext (f := fun j => (hn13 ((i + (j + 1)) / 13) ((i + (j + 1)) % 13) c0 c1 c2 c3 c4 c5 0 : Int)) (g := fun j => (hn13 ((i + 1 + j) / 13) ((i + 1 + j) % 13) c0 c1 c2 c3 c4 c5 0 : Int)) (fun j _ => by rw [show i + (j + 1) = i + 1 + j by omega]), Nat.add_zero]
      omega
theorem dz_nY : ∀ v : Nat, v < 13 → (dz v : Int) = 2 - nY 13 v := by decide +kernel
theorem dz_pv : ∀ u : Nat, u < 13 → ∀ v : Nat, v < 13 → (dz ((u * u + 11 * (v * v)) % 13) : Int) = 2 - pvV 13 2 u v := by decide +kernel
theorem in13_0 {f0 f1 f2 f3 f4 f5 v0 v1 v2 v3 v4 v5 : Nat} (h0 : f0 < 13) (h1 : f1 < 13) (h2 : f2 < 13) (h3 : f3 < 13) (h4 : f4 < 13) (h5 : f5 < 13) (e0 : v0 = (f0 + 0 * f1 + 0 * f2 + 0 * f3 + 0 * f4 + 0 * f5) % 13) (e1 : v1 = (f0 + f1 + f2 + f3 + f4 + f5) % 13) (e2 : v2 = (f0 + 2 * f1 + 4 * f2 + 8 * f3 + 3 * f4 + 6 * f5) % 13) (e3 : v3 = (f0 + 3 * f1 + 9 * f2 + f3 + 3 * f4 + 9 * f5) % 13) (e4 : v4 = (f0 + 4 * f1 + 3 * f2 + 12 * f3 + 9 * f4 + 10 * f5) % 13) (e5 : v5 = (f0 + 5 * f1 + 12 * f2 + 8 * f3 + f4 + 5 * f5) % 13) : (1 * v0) % 13 = f0 := by omega
theorem in13_1 {f0 f1 f2 f3 f4 f5 v0 v1 v2 v3 v4 v5 : Nat} (h0 : f0 < 13) (h1 : f1 < 13) (h2 : f2 < 13) (h3 : f3 < 13) (h4 : f4 < 13) (h5 : f5 < 13) (e0 : v0 = (f0 + 0 * f1 + 0 * f2 + 0 * f3 + 0 * f4 + 0 * f5) % 13) (e1 : v1 = (f0 + f1 + f2 + f3 + f4 + f5) % 13) (e2 : v2 = (f0 + 2 * f1 + 4 * f2 + 8 * f3 + 3 * f4 + 6 * f5) % 13) (e3 : v3 = (f0 + 3 * f1 + 9 * f2 + f3 + 3 * f4 + 9 * f5) % 13) (e4 : v4 = (f0 + 4 * f1 + 3 * f2 + 12 * f3 + 9 * f4 + 10 * f5) % 13) (e5 : v5 = (f0 + 5 * f1 + 12 * f2 + 8 * f3 + f4 + 5 * f5) % 13) : (4 * v0 + 5 * v1 + 8 * v2 + 12 * v3 + 2 * v4 + 8 * v5) % 13 = f1 := by omega
theorem in13_2 {f0 f1 f2 f3 f4 f5 v0 v1 v2 v3 v4 v5 : Nat} (h0 : f0 < 13) (h1 : f1 < 13) (h2 : f2 < 13) (h3 : f3 < 13) (h4 : f4 < 13) (h5 : f5 < 13) (e0 : v0 = (f0 + 0 * f1 + 0 * f2 + 0 * f3 + 0 * f4 + 0 * f5) % 13) (e1 : v1 = (f0 + f1 + f2 + f3 + f4 + f5) % 13) (e2 : v2 = (f0 + 2 * f1 + 4 * f2 + 8 * f3 + 3 * f4 + 6 * f5) % 13) (e3 : v3 = (f0 + 3 * f1 + 9 * f2 + f3 + 3 * f4 + 9 * f5) % 13) (e4 : v4 = (f0 + 4 * f1 + 3 * f2 + 12 * f3 + 9 * f4 + 10 * f5) % 13) (e5 : v5 = (f0 + 5 * f1 + 12 * f2 + 8 * f3 + f4 + 5 * f5) % 13) : (10 * v0 + 12 * v1 + 10 * v2 + 2 * v4 + 5 * v5) % 13 = f2 := by omega
theorem in13_3 {f0 f1 f2 f3 f4 f5 v0 v1 v2 v3 v4 v5 : Nat} (h0 : f0 < 13) (h1 : f1 < 13) (h2 : f2 < 13) (h3 : f3 < 13) (h4 : f4 < 13) (h5 : f5 < 13) (e0 : v0 = (f0 + 0 * f1 + 0 * f2 + 0 * f3 + 0 * f4 + 0 * f5) % 13) (e1 : v1 = (f0 + f1 + f2 + f3 + f4 + f5) % 13) (e2 : v2 = (f0 + 2 * f1 + 4 * f2 + 8 * f3 + 3 * f4 + 6 * f5) % 13) (e3 : v3 = (f0 + 3 * f1 + 9 * f2 + f3 + 3 * f4 + 9 * f5) % 13) (e4 : v4 = (f0 + 4 * f1 + 3 * f2 + 12 * f3 + 9 * f4 + 10 * f5) % 13) (e5 : v5 = (f0 + 5 * f1 + 12 * f2 + 8 * f3 + f4 + 5 * f5) % 13) : (2 * v0 + 10 * v1 + 7 * v2 + 3 * v3 + 1 * v4 + 3 * v5) % 13 = f3 := by omega
theorem in13_4 {f0 f1 f2 f3 f4 f5 v0 v1 v2 v3 v4 v5 : Nat} (h0 : f0 < 13) (h1 : f1 < 13) (h2 : f2 < 13) (h3 : f3 < 13) (h4 : f4 < 13) (h5 : f5 < 13) (e0 : v0 = (f0 + 0 * f1 + 0 * f2 + 0 * f3 + 0 * f4 + 0 * f5) % 13) (e1 : v1 = (f0 + f1 + f2 + f3 + f4 + f5) % 13) (e2 : v2 = (f0 + 2 * f1 + 4 * f2 + 8 * f3 + 3 * f4 + 6 * f5) % 13) (e3 : v3 = (f0 + 3 * f1 + 9 * f2 + f3 + 3 * f4 + 9 * f5) % 13) (e4 : v4 = (f0 + 4 * f1 + 3 * f2 + 12 * f3 + 9 * f4 + 10 * f5) % 13) (e5 : v5 = (f0 + 5 * f1 + 12 * f2 + 8 * f3 + f4 + 5 * f5) % 13) : (5 * v0 + 7 * v1 + 12 * v3 + 1 * v4 + 1 * v5) % 13 = f4 := by omega
theorem in13_5 {f0 f1 f2 f3 f4 f5 v0 v1 v2 v3 v4 v5 : Nat} (h0 : f0 < 13) (h1 : f1 < 13) (h2 : f2 < 13) (h3 : f3 < 13) (h4 : f4 < 13) (h5 : f5 < 13) (e0 : v0 = (f0 + 0 * f1 + 0 * f2 + 0 * f3 + 0 * f4 + 0 * f5) % 13) (e1 : v1 = (f0 + f1 + f2 + f3 + f4 + f5) % 13) (e2 : v2 = (f0 + 2 * f1 + 4 * f2 + 8 * f3 + 3 * f4 + 6 * f5) % 13) (e3 : v3 = (f0 + 3 * f1 + 9 * f2 + f3 + 3 * f4 + 9 * f5) % 13) (e4 : v4 = (f0 + 4 * f1 + 3 * f2 + 12 * f3 + 9 * f4 + 10 * f5) % 13) (e5 : v5 = (f0 + 5 * f1 + 12 * f2 + 8 * f3 + f4 + 5 * f5) % 13) : (4 * v0 + 6 * v1 + 1 * v2 + 12 * v3 + 7 * v4 + 9 * v5) % 13 = f5 := by omega
theorem nx13_0 {f0 f1 f2 f3 f4 f5 v0 v1 v2 v3 v4 v5 v6 : Nat} (e0 : v0 = (f0 + 0 * f1 + 0 * f2 + 0 * f3 + 0 * f4 + 0 * f5) % 13) (e1 : v1 = (f0 + f1 + f2 + f3 + f4 + f5) % 13) (e2 : v2 = (f0 + 2 * f1 + 4 * f2 + 8 * f3 + 3 * f4 + 6 * f5) % 13) (e3 : v3 = (f0 + 3 * f1 + 9 * f2 + f3 + 3 * f4 + 9 * f5) % 13) (e4 : v4 = (f0 + 4 * f1 + 3 * f2 + 12 * f3 + 9 * f4 + 10 * f5) % 13) (e5 : v5 = (f0 + 5 * f1 + 12 * f2 + 8 * f3 + f4 + 5 * f5) % 13) (e6 : v6 = (f0 + 6 * f1 + 10 * f2 + 8 * f3 + 9 * f4 + 2 * f5) % 13) : nx13 v0 v1 v2 v3 v4 v5 = v6 := by unfold nx13; omega
theorem nx13_1 {f0 f1 f2 f3 f4 f5 v0 v1 v2 v3 v4 v5 v6 : Nat} (e0 : v0 = (f0 + f1 + f2 + f3 + f4 + f5) % 13) (e1 : v1 = (f0 + 2 * f1 + 4 * f2 + 8 * f3 + 3 * f4 + 6 * f5) % 13) (e2 : v2 = (f0 + 3 * f1 + 9 * f2 + f3 + 3 * f4 + 9 * f5) % 13) (e3 : v3 = (f0 + 4 * f1 + 3 * f2 + 12 * f3 + 9 * f4 + 10 * f5) % 13) (e4 : v4 = (f0 + 5 * f1 + 12 * f2 + 8 * f3 + f4 + 5 * f5) % 13) (e5 : v5 = (f0 + 6 * f1 + 10 * f2 + 8 * f3 + 9 * f4 + 2 * f5) % 13) (e6 : v6 = (f0 + 7 * f1 + 10 * f2 + 5 * f3 + 9 * f4 + 11 * f5) % 13) : nx13 v0 v1 v2 v3 v4 v5 = v6 := by unfold nx13; omega
theorem nx13_2 {f0 f1 f2 f3 f4 f5 v0 v1 v2 v3 v4 v5 v6 : Nat} (e0 : v0 = (f0 + 2 * f1 + 4 * f2 + 8 * f3 + 3 * f4 + 6 * f5) % 13) (e1 : v1 = (f0 + 3 * f1 + 9 * f2 + f3 + 3 * f4 + 9 * f5) % 13) (e2 : v2 = (f0 + 4 * f1 + 3 * f2 + 12 * f3 + 9 * f4 + 10 * f5) % 13) (e3 : v3 = (f0 + 5 * f1 + 12 * f2 + 8 * f3 + f4 + 5 * f5) % 13) (e4 : v4 = (f0 + 6 * f1 + 10 * f2 + 8 * f3 + 9 * f4 + 2 * f5) % 13) (e5 : v5 = (f0 + 7 * f1 + 10 * f2 + 5 * f3 + 9 * f4 + 11 * f5) % 13) (e6 : v6 = (f0 + 8 * f1 + 12 * f2 + 5 * f3 + f4 + 8 * f5) % 13) : nx13 v0 v1 v2 v3 v4 v5 = v6 := by unfold nx13; omega
theorem nx13_3 {f0 f1 f2 f3 f4 f5 v0 v1 v2 v3 v4 v5 v6 : Nat} (e0 : v0 = (f0 + 3 * f1 + 9 * f2 + f3 + 3 * f4 + 9 * f5) % 13) (e1 : v1 = (f0 + 4 * f1 + 3 * f2 + 12 * f3 + 9 * f4 + 10 * f5) % 13) (e2 : v2 = (f0 + 5 * f1 + 12 * f2 + 8 * f3 + f4 + 5 * f5) % 13) (e3 : v3 = (f0 + 6 * f1 + 10 * f2 + 8 * f3 + 9 * f4 + 2 * f5) % 13) (e4 : v4 = (f0 + 7 * f1 + 10 * f2 + 5 * f3 + 9 * f4 + 11 * f5) % 13) (e5 : v5 = (f0 + 8 * f1 + 12 * f2 + 5 * f3 + f4 + 8 * f5) % 13) (e6 : v6 = (f0 + 9 * f1 + 3 * f2 + f3 + 9 * f4 + 3 * f5) % 13) : nx13 v0 v1 v2 v3 v4 v5 = v6 := by unfold nx13; omega
theorem nx13_4 {f0 f1 f2 f3 f4 f5 v0 v1 v2 v3 v4 v5 v6 : Nat} (e0 : v0 = (f0 + 4 * f1 + 3 * f2 + 12 * f3 + 9 * f4 + 10 * f5) % 13) (e1 : v1 = (f0 + 5 * f1 + 12 * f2 + 8 * f3 + f4 + 5 * f5) % 13) (e2 : v2 = (f0 + 6 * f1 + 10 * f2 + 8 * f3 + 9 * f4 + 2 * f5) % 13) (e3 : v3 = (f0 + 7 * f1 + 10 * f2 + 5 * f3 + 9 * f4 + 11 * f5) % 13) (e4 : v4 = (f0 + 8 * f1 + 12 * f2 + 5 * f3 + f4 + 8 * f5) % 13) (e5 : v5 = (f0 + 9 * f1 + 3 * f2 + f3 + 9 * f4 + 3 * f5) % 13) (e6 : v6 = (f0 + 10 * f1 + 9 * f2 + 12 * f3 + 3 * f4 + 4 * f5) % 13) : nx13 v0 v1 v2 v3 v4 v5 = v6 := by unfold nx13; omega
theorem nx13_5 {f0 f1 f2 f3 f4 f5 v0 v1 v2 v3 v4 v5 v6 : Nat} (e0 : v0 = (f0 + 5 * f1 + 12 * f2 + 8 * f3 + f4 + 5 * f5) % 13) (e1 : v1 = (f0 + 6 * f1 + 10 * f2 + 8 * f3 + 9 * f4 + 2 * f5) % 13) (e2 : v2 = (f0 + 7 * f1 + 10 * f2 + 5 * f3 + 9 * f4 + 11 * f5) % 13) (e3 : v3 = (f0 + 8 * f1 + 12 * f2 + 5 * f3 + f4 + 8 * f5) % 13) (e4 : v4 = (f0 + 9 * f1 + 3 * f2 + f3 + 9 * f4 + 3 * f5) % 13) (e5 : v5 = (f0 + 10 * f1 + 9 * f2 + 12 * f3 + 3 * f4 + 4 * f5) % 13) (e6 : v6 = (f0 + 11 * f1 + 4 * f2 + 5 * f3 + 3 * f4 + 7 * f5) % 13) : nx13 v0 v1 v2 v3 v4 v5 = v6 := by unfold nx13; omega
theorem nx13_6 {f0 f1 f2 f3 f4 f5 v0 v1 v2 v3 v4 v5 v6 : Nat} (e0 : v0 = (f0 + 6 * f1 + 10 * f2 + 8 * f3 + 9 * f4 + 2 * f5) % 13) (e1 : v1 = (f0 + 7 * f1 + 10 * f2 + 5 * f3 + 9 * f4 + 11 * f5) % 13) (e2 : v2 = (f0 + 8 * f1 + 12 * f2 + 5 * f3 + f4 + 8 * f5) % 13) (e3 : v3 = (f0 + 9 * f1 + 3 * f2 + f3 + 9 * f4 + 3 * f5) % 13) (e4 : v4 = (f0 + 10 * f1 + 9 * f2 + 12 * f3 + 3 * f4 + 4 * f5) % 13) (e5 : v5 = (f0 + 11 * f1 + 4 * f2 + 5 * f3 + 3 * f4 + 7 * f5) % 13) (e6 : v6 = (f0 + 12 * f1 + f2 + 12 * f3 + f4 + 12 * f5) % 13) : nx13 v0 v1 v2 v3 v4 v5 = v6 := by unfold nx13; omega
theorem run13 {f0 f1 f2 f3 f4 f5 v0 v1 v2 v3 v4 v5 v6 v7 v8 v9 v10 v11 v12 : Nat} (h0 : f0 < 13) (h1 : f1 < 13) (h2 : f2 < 13) (h3 : f3 < 13) (h4 : f4 < 13) (h5 : f5 < 13) (hf : f5 ≠ 0) (e0 : v0 = (f0 + 0 * f1 + 0 * f2 + 0 * f3 + 0 * f4 + 0 * f5) % 13) (e1 : v1 = (f0 + f1 + f2 + f3 + f4 + f5) % 13) (e2 : v2 = (f0 + 2 * f1 + 4 * f2 + 8 * f3 + 3 * f4 + 6 * f5) % 13) (e3 : v3 = (f0 + 3 * f1 + 9 * f2 + f3 + 3 * f4 + 9 * f5) % 13) (e4 : v4 = (f0 + 4 * f1 + 3 * f2 + 12 * f3 + 9 * f4 + 10 * f5) % 13) (e5 : v5 = (f0 + 5 * f1 + 12 * f2 + 8 * f3 + f4 + 5 * f5) % 13) (e6 : v6 = (f0 + 6 * f1 + 10 * f2 + 8 * f3 + 9 * f4 + 2 * f5) % 13) (e7 : v7 = (f0 + 7 * f1 + 10 * f2 + 5 * f3 + 9 * f4 + 11 * f5) % 13) (e8 : v8 = (f0 + 8 * f1 + 12 * f2 + 5 * f3 + f4 + 8 * f5) % 13) (e9 : v9 = (f0 + 9 * f1 + 3 * f2 + f3 + 9 * f4 + 3 * f5) % 13) (e10 : v10 = (f0 + 10 * f1 + 9 * f2 + 12 * f3 + 3 * f4 + 4 * f5) % 13) (e11 : v11 = (f0 + 11 * f1 + 4 * f2 + 5 * f3 + 3 * f4 + 7 * f5) % 13) (e12 : v12 = (f0 + 12 * f1 + f2 + 12 * f3 + f4 + 12 * f5) % 13) (hd : dz v0 + dz v1 + dz v2 + dz v3 + dz v4 + dz v5 + dz v6 + dz v7 + dz v8 + dz v9 + dz v10 + dz v11 + dz v12 ≤ 2) : sm13 ((27 - (dz v0 + dz v1 + dz v2 + dz v3 + dz v4 + dz v5 + dz v6 + dz v7 + dz v8 + dz v9 + dz v10 + dz v11 + dz v12)) * (27 - (dz v0 + dz v1 + dz v2 + dz v3 + dz v4 + dz v5 + dz v6 + dz v7 + dz v8 + dz v9 + dz v10 + dz v11 + dz v12)) - 588) f0 f1 f2 f3 f4 f5 169 0 0 = true := by
  have b0 : v0 < 13 := by rw [e0]; exact Nat.mod_lt _ (by decide)
  have b1 : v1 < 13 := by rw [e1]; exact Nat.mod_lt _ (by decide)
  have b2 : v2 < 13 := by rw [e2]; exact Nat.mod_lt _ (by decide)
  have b3 : v3 < 13 := by rw [e3]; exact Nat.mod_lt _ (by decide)
  have b4 : v4 < 13 := by rw [e4]; exact Nat.mod_lt _ (by decide)
  have b5 : v5 < 13 := by rw [e5]; exact Nat.mod_lt _ (by decide)
  have b6 : v6 < 13 := by rw [e6]; exact Nat.mod_lt _ (by decide)
  have b7 : v7 < 13 := by rw [e7]; exact Nat.mod_lt _ (by decide)
  have b8 : v8 < 13 := by rw [e8]; exact Nat.mod_lt _ (by decide)
  have b9 : v9 < 13 := by rw [e9]; exact Nat.mod_lt _ (by decide)
  have b10 : v10 < 13 := by rw [e10]; exact Nat.mod_lt _ (by decide)
  have b11 : v11 < 13 := by rw [e11]; exact Nat.mod_lt _ (by decide)
  have b12 : v12 < 13 := by rw [e12]; exact Nat.mod_lt _ (by decide)
  have g := la_all v0 b0 v1 b1
  unfold lvA at g
  have g := st13_at g (by omega)
  have g := st13_at g (by omega)
  unfold lv2 at g
  have g := st13_at (al13_at g b2) (by omega)
  unfold lv3 at g
  have g := st13_at (al13_at g b3) (by omega)
  unfold lv4 at g
  have g := st13_at (al13_at g b4) (by omega)
  unfold lv5 at g
  have g := st13_at (al13_at g b5) (by omega)
  have g := ext13_at g (nx13_0 e0 e1 e2 e3 e4 e5 e6) (by omega)
  have g := ext13_at g (nx13_1 e1 e2 e3 e4 e5 e6 e7) (by omega)
  have g := ext13_at g (nx13_2 e2 e3 e4 e5 e6 e7 e8) (by omega)
  have g := ext13_at g (nx13_3 e3 e4 e5 e6 e7 e8 e9) (by omega)
  have g := ext13_at g (nx13_4 e4 e5 e6 e7 e8 e9 e10) (by omega)
  have g := ext13_at g (nx13_5 e5 e6 e7 e8 e9 e10 e11) (by omega)
  have g := ext13_at g (nx13_6 e6 e7 e8 e9 e10 e11 e12) (by omega)
  have g : leaf13 v0 v1 v2 v3 v4 v5 _ = true := g
  unfold leaf13 at g
  rw [frc_eq, in13_5 h0 h1 h2 h3 h4 h5 e0 e1 e2 e3 e4 e5, if_neg hf, frc_eq, in13_4 h0 h1 h2 h3 h4 h5 e0 e1 e2 e3 e4 e5, frc_eq, in13_3 h0 h1 h2 h3 h4 h5 e0 e1 e2 e3 e4 e5, frc_eq, in13_2 h0 h1 h2 h3 h4 h5 e0 e1 e2 e3 e4 e5, frc_eq, in13_1 h0 h1 h2 h3 h4 h5 e0 e1 e2 e3 e4 e5, frc_eq] at g
  have v0f : v0 = f0 := by rw [e0]; omega
  rw [v0f] at g
  rw [v0f, show dz f0 + dz v1 + dz v2 + dz v3 + dz v4 + dz v5 + dz v6 + dz v7 + dz v8 + dz v9 + dz v10 + dz v11 + dz v12 = 0 + dz f0 + dz v1 + dz v2 + dz v3 + dz v4 + dz v5 + dz v6 + dz v7 + dz v8 + dz v9 + dz v10 + dz v11 + dz v12 by omega]
  exact g
