/-! ===== Curve: PLACES, and the whole of load ===== -/
def bS (n : Nat) : Nat → Nat → Nat
  | 0, _ => 0
  | m + 1, i => if i < n ∧ i ≤ 4 then 13 ^ i * 28 ^ (n - i) + bS n m (i + 1) else 0
theorem bS_ok : ∀ n : Nat, n < 13 → 1 ≤ n → (if n ≤ 4 then n * 13 ^ n else 0) + bS n n 1 ≤ 28 ^ n := by decide +kernel
def ShB (s : Nat → Int) : Prop := ∀ i : Nat, 1 ≤ i → i ≤ 4 → (s i).natAbs ≤ 13 ^ i
theorem cSum_bd {s : Nat → Int} {g : Int} (hs : ShB s) (hg : g ≤ 2) {P : Nat → Int} {n : Nat} (hP : ∀ j : Nat, 1 ≤ j → j < n → (P j).natAbs ≤ 28 ^ j) : ∀ (m i : Nat) (v : Int), 1 ≤ i → (cSum s g P n m i v).natAbs ≤ v.natAbs + bS n m i
  | 0, i, v, _ => Nat.le_add_right _ _
  | m + 1, i, v, hi => by
    unfold cSum bS
    by_cases c : i < n ∧ (i : Int) ≤ 2 * g
    · rw [if_pos c, if_pos ⟨c.1, by omega⟩]
      have h1 := cSum_bd hs hg hP m (i + 1) (v + s i * P (n - i)) (by omega)
      have h2 := Int.natAbs_add_le v (s i * P (n - i))
      have h3 : (s i * P (n - i)).natAbs ≤ 13 ^ i * 28 ^ (n - i) := by
        rw [Int.natAbs_mul]
        exact Nat.mul_le_mul (hs i hi (by omega)) (hP (n - i) (by omega) (by omega))
      omega
    · rw [if_neg c]
      exact Nat.le_add_right _ _
theorem ctS_bd {s : Nat → Int} {g : Int} (hs : ShB s) (hg : g ≤ 2) {P : Nat → Int} {n : Nat} (h1 : 1 ≤ n) (hn : n ≤ 12) (hP : ∀ j : Nat, 1 ≤ j → j < n → (P j).natAbs ≤ 28 ^ j) : (ctS s g P n).natAbs ≤ 28 ^ n := by
  unfold ctS
  have h2 := cSum_bd hs hg hP n 1 (if (n : Int) ≤ 2 * g then (n : Int) * s n else 0) (Nat.le_refl 1)
  have h3 := bS_ok n (by omega) h1
  have h4 : (if (n : Int) ≤ 2 * g then (n : Int) * s n else 0).natAbs ≤ if n ≤ 4 then n * 13 ^ n else 0 := by
    by_cases c : (n : Int) ≤ 2 * g
    · rw [if_pos c, if_pos (by omega), Int.natAbs_mul, Int.natAbs_natCast]
      exact Nat.mul_le_mul (Nat.le_refl n) (hs n h1 (by omega))
    · rw [if_neg c]
      exact Nat.zero_le _
  omega
theorem psT_bd {s : Nat → Int} {g : Int} (hs : ShB s) (hg : g ≤ 2) : ∀ m : Nat, m ≤ 12 → ∀ j : Nat, 1 ≤ j → j ≤ m → (psT s g m j).natAbs ≤ 28 ^ j
  | 0, _, j, h1, h2 => by omega
  | m + 1, hm, j, h1, h2 => by
    have ih := psT_bd hs hg m (by omega)
    show (upf (psT s g m) (m + 1) (-(ctS s g (psT s g m) (m + 1))) j).natAbs ≤ 28 ^ j
    unfold upf
    by_cases c : j = m + 1
    · rw [if_pos c, Int.natAbs_neg, c]
      exact ctS_bd hs hg (by omega) hm (fun i hi1 hi2 => ih i hi1 (by omega))
    · rw [if_neg c]
      exact ih j h1 (by omega)
theorem ctV_bd {p : Int} (hp : IsP p) {s : Nat → Int} {g : Int} (hs : ShB s) (hg : g ≤ 2) {n : Nat} (h1 : 1 ≤ n) (hn : n ≤ 12) : (ctV p s g n).natAbs ≤ 3 * 28 ^ n := by
  unfold ctV
  have hpr := hp.rg
  have h2 := ctS_bd hs hg h1 hn (P := psT s g (n - 1)) (fun j hj1 hj2 => psT_bd hs hg (n - 1) (by omega) j hj1 (by omega))
  have h3 : (p ^ n).natAbs ≤ 28 ^ n := by
    rw [Int.natAbs_pow]
    exact Nat.pow_le_pow_left (by omega) n
  have h4 : 1 ≤ 28 ^ n := Nat.pos_of_ne_zero (by exact Nat.ne_of_gt (Nat.pow_pos (by decide)))
  have h5 := Int.natAbs_add_le (p ^ n + 1) (ctS s g (psT s g (n - 1)) n)
  have h6 := Int.natAbs_add_le (p ^ n) 1
  have h7 : (1 : Int).natAbs = 1 := rfl
  omega
def plS (P : Nat → Int) (n : Nat) : Nat → Nat → Int → Int
  | 0, _, v => v
  | m + 1, d, v => plS P n m (d + 1) (if Int.tmod (n : Int) (d : Int) = 0 then v - (d : Int) * P d else v)
/-- PLACES, told up to m, of the COUNTS C -/
def plT (C : Nat → Int) : Nat → Nat → Int
  | 0 => fun _ => 0
  | m + 1 => upf (plT C m) (m + 1) (Int.tdiv (plS (plT C m) (m + 1) m 1 (C (m + 1))) ((m + 1 : Nat) : Int))
theorem plS_ext {P P' : Nat → Int} {n : Nat} : ∀ (m d : Nat) (v : Int), (∀ j : Nat, d ≤ j → j < d + m → P j = P' j) → plS P n m d v = plS P' n m d v
  | 0, _, _, _ => rfl
  | m + 1, d, v, h => by
    unfold plS
    rw [h d (Nat.le_refl d) (by omega)]
    exact plS_ext m (d + 1) _ (fun j h1 h2 => h j (by omega) (by omega))
theorem plT_ext {C C' : Nat → Int} : ∀ (m : Nat), (∀ j : Nat, 1 ≤ j → j ≤ m → C j = C' j) → plT C m = plT C' m
  | 0, _ => rfl
  | m + 1, h => by
    unfold plT
    rw [plT_ext m (fun j h1 h2 => h j h1 (by omega)), h (m + 1) (by omega) (by omega)]
def qS : Nat → Nat → Nat
  | 0, _ => 0
  | m + 1, d => 4 * 28 ^ d + qS m (d + 1)
theorem qS_ok : ∀ n : Nat, n < 13 → 1 ≤ n → 3 * 28 ^ n + qS (n - 1) 1 ≤ 4 * 28 ^ n ∧ 4 * 28 ^ n < 9223372036854775808 := by decide +kernel
theorem plS_bd {P : Nat → Int} {n : Nat} : ∀ (m d : Nat) (v : Int), (∀ j : Nat, d ≤ j → j < d + m → ((j : Int) * P j).natAbs ≤ 4 * 28 ^ j) → (plS P n m d v).natAbs ≤ v.natAbs + qS m d
  | 0, _, v, _ => Nat.le_add_right _ _
  | m + 1, d, v, h => by
    unfold plS qS
    have h1 := plS_bd (n := n) m (d + 1) (if Int.tmod (n : Int) (d : Int) = 0 then v - (d : Int) * P d else v) (fun j h1 h2 => h j (by omega) (by omega))
    have h2 := h d (Nat.le_refl d) (by omega)
    have h3 : (if Int.tmod (n : Int) (d : Int) = 0 then v - (d : Int) * P d else v).natAbs ≤ v.natAbs + 4 * 28 ^ d := by
      split
      · have := Int.natAbs_sub_le v ((d : Int) * P d)
        omega
      · omega
    omega
theorem plT_bd {C : Nat → Int} (hC : ∀ j : Nat, 1 ≤ j → j ≤ 12 → (C j).natAbs ≤ 3 * 28 ^ j) : ∀ m : Nat, m ≤ 12 → ∀ j : Nat, 1 ≤ j → j ≤ m → ((j : Int) * plT C m j).natAbs ≤ 4 * 28 ^ j
  | 0, _, j, h1, h2 => by omega
  | m + 1, hm, j, h1, h2 => by
    have ih := plT_bd hC m (by omega)
    show ((j : Int) * upf (plT C m) (m + 1) _ j).natAbs ≤ 4 * 28 ^ j
    unfold upf
    by_cases c : j = m + 1
    · rw [if_pos c, c, Int.natAbs_mul, Int.natAbs_tdiv, Int.natAbs_natCast]
      have h3 := plS_bd (n := m + 1) m 1 (C (m + 1)) (P := plT C m) (fun i hi1 hi2 => ih i hi1 (by omega))
      have h4 := hC (m + 1) (by omega) hm
      have h5 := (qS_ok (m + 1) (by omega) (by omega)).1
      rw [Nat.add_sub_cancel] at h5
      have h6 : (m + 1) * ((plS (plT C m) (m + 1) m 1 (C (m + 1))).natAbs / (m + 1)) ≤ (plS (plT C m) (m + 1) m 1 (C (m + 1))).natAbs := Nat.mul_div_le _ _
      exact Nat.le_trans h6 (by omega)
    · rw [if_neg c]
      exact ih j h1 (by omega)
theorem sp_X2_findPlaces {k n : Nat} {x : Wx} {Z : Zt} {Q : Option Value → Wx → Zt → Prop} {a : Nat} (o : Is2 x a) (hC : ∀ j : Nat, 1 ≤ j → j ≤ 12 → (Z (a + 9) j).natAbs ≤ 3 * 28 ^ j) (h : ∀ Z' : Zt, ((∀ j : Nat, 1 ≤ j → j ≤ 12 → Z' (a + 10) j = plT (Z (a + 9)) 12 j) ∧ Oth Z Z' (fun b => b = a + 10)) → Q none x Z') : V mX2_findPlaces k n 0 [some (r_ a), none, none, none, none] [] x Z Q := by
  have lp2 : ∀ (m d c : Nat) (v w : Int) (Z1 : Zt), w = d → 1 ≤ d → d + m = c → c ≤ 12 → V mX2_findPlaces k n 18 [some (r_ a), some (i_ c), some (l_ (plS (Z1 (a + 10)) c m d v)), none, some (i_ c)] [] x Z1 Q → V mX2_findPlaces k n 18 [some (r_ a), some (i_ c), some (l_ v), none, some (i_ w)] [] x Z1 Q := by
    intro m
    induction m with
    | zero =>
      intro d c v w Z1 hw hd hm hc hn
      rw [hw, show d = c by omega]
      exact hn
    | succ m ih =>
      intro d c v w Z1 hw hd hm hc hn
      have htm : 0 ≤ Int.tmod (c : Int) w ∧ Int.tmod (c : Int) w < w := ⟨Int.tmod_nonneg _ (by omega), Int.tmod_lt_of_pos _ (by omega)⟩
      unfold plS at hn
      refine b_X2_findPlaces_18 o ⟨⟨by omega, by omega⟩, ⟨by omega, by omega⟩, fun c2 => by omega, fun _ => ⟨by omega, ⟨by omega, by omega⟩, fun c3 => b_X2_findPlaces_45 (ih (d + 1) c _ _ Z1 (by omega) (by omega) (by omega) hc ?_), fun c3 => ⟨by omega, by omega, b_X2_findPlaces_45 (ih (d + 1) c _ _ Z1 (by omega) (by omega) (by omega) hc ?_)⟩⟩⟩
      · rw [hw] at c3
        rw [if_neg c3] at hn; exact hn
      · rw [hw] at c3
        rw [if_pos c3] at hn
        rw [hw, Int.toNat_natCast]; exact hn
  have lp1 : ∀ (m c : Nat) (w : Int) (Z1 : Zt), w = (c + 1 : Nat) → c + m = 12 → (∀ j : Nat, 1 ≤ j → j ≤ c → Z1 (a + 10) j = plT (Z (a + 9)) c j) → Oth Z Z1 (fun b => b = a + 10) → V mX2_findPlaces k n 2 [some (r_ a), some (i_ w), none, none, none] [] x Z1 Q := by
    intro m
    induction m with
    | zero =>
      intro c w Z1 hw hm h1 h3
      refine b_X2_findPlaces_2 o ⟨⟨by omega, by omega⟩, fun _ => h Z1 ⟨fun j hj hj2 => ?_, h3⟩, fun c2 => by omega⟩
      rw [h1 j hj (by omega), show c = 12 by omega]
    | succ m ih =>
      intro c w Z1 hw hm h1 h3
      have h9 : Z1 (a + 9) = Z (a + 9) := h3 _ (by omega)
      have ht : (((c + 1 : Nat) : Int)).toNat = c + 1 := by omega
      have eS : plS (Z1 (a + 10)) (c + 1) c 1 (Z (a + 9) (c + 1)) = plS (plT (Z (a + 9)) c) (c + 1) c 1 (Z (a + 9) (c + 1)) := plS_ext c 1 _ (fun j hj1 hj2 => h1 j hj1 (by omega))
      have hb1 := plS_bd (n := c + 1) c 1 (Z (a + 9) (c + 1)) (P := plT (Z (a + 9)) c) (fun i hi1 hi2 => plT_bd hC c (by omega) i hi1 (by omega))
      have hb2 := hC (c + 1) (by omega) (by omega)
      have hb3 := qS_ok (c + 1) (by omega) (by omega)
      rw [Nat.add_sub_cancel] at hb3
      refine b_X2_findPlaces_2 o ⟨⟨by omega, by omega⟩, fun c2 => by omega, fun _ => ⟨by omega, by omega, ?_⟩⟩
      rw [hw, ht, h9]
      refine lp2 c 1 (c + 1) _ 1 Z1 rfl (by omega) (by omega) (by omega) ?_
      rw [eS]
      generalize hS : plS (plT (Z (a + 9)) c) (c + 1) c 1 (Z (a + 9) (c + 1)) = S at hb1
      refine b_X2_findPlaces_18 o ⟨⟨by omega, by omega⟩, ⟨by omega, by omega⟩, fun _ => ⟨⟨by omega, by omega⟩, ⟨by omega, by omega⟩, by omega, by omega, by omega, fun Z2 e2 => ih (c + 1) _ Z2 (by omega) (by omega) (fun j hj1 hj2 => ?_) (fun b hb => ?_)⟩, fun c2 => by omega⟩
      · rw [e2, ht, up_at]
        show _ = upf (plT (Z (a + 9)) c) (c + 1) _ j
        unfold upf
        rw [hS]
        by_cases c2 : j = c + 1
        · rw [if_pos c2, if_pos c2]
        · rw [if_neg c2, if_neg c2]; exact h1 j hj1 (by omega)
      · rw [e2, up_row _ _ _ _ _ hb]; exact h3 b hb
  exact b_X2_findPlaces_0 (lp1 12 0 1 Z rfl rfl (fun j h1 h2 => by omega) (fun b _ => rfl))
theorem dX2_load_0 : decode cX2_load 0 = .ok (.aload_n 0, 1) := by decide +kernel
theorem dX2_load_1 : decode cX2_load 1 = .ok (.getfield 12, 3) := by decide +kernel
theorem dX2_load_4 : decode cX2_load 4 = .ok (.aload_n 1, 1) := by decide +kernel
theorem dX2_load_5 : decode cX2_load 5 = .ok (.iconst 0, 1) := by decide +kernel
theorem dX2_load_6 : decode cX2_load 6 = .ok (.iaload, 1) := by decide +kernel
theorem dX2_load_7 : decode cX2_load 7 = .ok (.invokevirtual 57, 3) := by decide +kernel
theorem dX2_load_10 : decode cX2_load 10 = .ok (.pop, 1) := by decide +kernel
theorem dX2_load_11 : decode cX2_load 11 = .ok (.aload_n 0, 1) := by decide +kernel
theorem dX2_load_12 : decode cX2_load 12 = .ok (.getfield 21, 3) := by decide +kernel
theorem dX2_load_15 : decode cX2_load 15 = .ok (.aload_n 1, 1) := by decide +kernel
theorem dX2_load_16 : decode cX2_load 16 = .ok (.iconst 2, 1) := by decide +kernel
theorem dX2_load_17 : decode cX2_load 17 = .ok (.aload_n 1, 1) := by decide +kernel
theorem dX2_load_18 : decode cX2_load 18 = .ok (.iconst 1, 1) := by decide +kernel
theorem dX2_load_19 : decode cX2_load 19 = .ok (.iaload, 1) := by decide +kernel
theorem dX2_load_20 : decode cX2_load 20 = .ok (.aload_n 0, 1) := by decide +kernel
theorem dX2_load_21 : decode cX2_load 21 = .ok (.getfield 12, 3) := by decide +kernel
theorem dX2_load_24 : decode cX2_load 24 = .ok (.invokevirtual 61, 3) := by decide +kernel
theorem dX2_load_27 : decode cX2_load 27 = .ok (.aload_n 0, 1) := by decide +kernel
theorem dX2_load_28 : decode cX2_load 28 = .ok (.aload_n 0, 1) := by decide +kernel
theorem dX2_load_29 : decode cX2_load 29 = .ok (.getfield 21, 3) := by decide +kernel
theorem dX2_load_32 : decode cX2_load 32 = .ok (.getfield 65, 3) := by decide +kernel
theorem dX2_load_35 : decode cX2_load 35 = .ok (.iconst 3, 1) := by decide +kernel
theorem dX2_load_36 : decode cX2_load 36 = .ok (.if_icmp .le 7, 3) := by decide +kernel
theorem dX2_load_39 : decode cX2_load 39 = .ok (.iconst 2, 1) := by decide +kernel
theorem dX2_load_40 : decode cX2_load 40 = .ok (.goto 4, 3) := by decide +kernel
theorem dX2_load_43 : decode cX2_load 43 = .ok (.iconst 1, 1) := by decide +kernel
theorem dX2_load_44 : decode cX2_load 44 = .ok (.putfield 69, 3) := by decide +kernel
theorem dX2_load_47 : decode cX2_load 47 = .ok (.aload_n 0, 1) := by decide +kernel
theorem dX2_load_48 : decode cX2_load 48 = .ok (.invokevirtual 72, 3) := by decide +kernel
theorem dX2_load_51 : decode cX2_load 51 = .ok (.aload_n 0, 1) := by decide +kernel
theorem dX2_load_52 : decode cX2_load 52 = .ok (.aload_n 0, 1) := by decide +kernel
theorem dX2_load_53 : decode cX2_load 53 = .ok (.getfield 69, 3) := by decide +kernel
theorem dX2_load_56 : decode cX2_load 56 = .ok (.iconst 1, 1) := by decide +kernel
theorem dX2_load_57 : decode cX2_load 57 = .ok (.if_icmp .ne 7, 3) := by decide +kernel
theorem dX2_load_60 : decode cX2_load 60 = .ok (.iconst 0, 1) := by decide +kernel
theorem dX2_load_61 : decode cX2_load 61 = .ok (.goto 7, 3) := by decide +kernel
theorem dX2_load_64 : decode cX2_load 64 = .ok (.aload_n 0, 1) := by decide +kernel
theorem dX2_load_65 : decode cX2_load 65 = .ok (.invokevirtual 75, 3) := by decide +kernel
theorem dX2_load_68 : decode cX2_load 68 = .ok (.invokevirtual 79, 3) := by decide +kernel
theorem dX2_load_71 : decode cX2_load 71 = .ok (.aload_n 0, 1) := by decide +kernel
theorem dX2_load_72 : decode cX2_load 72 = .ok (.invokevirtual 83, 3) := by decide +kernel
theorem dX2_load_75 : decode cX2_load 75 = .ok (.aload_n 0, 1) := by decide +kernel
theorem dX2_load_76 : decode cX2_load 76 = .ok (.invokevirtual 86, 3) := by decide +kernel
theorem dX2_load_79 : decode cX2_load 79 = .ok (.return_, 1) := by decide +kernel
set_option maxRecDepth 20000 in
theorem b_X2_load_0 {k n : Nat} {x : Wx} {Z : Zt} {Q : Option Value → Wx → Zt → Prop} {a0 : Nat} {a1 : Nat} (o_a0 : Is2 x a0) (s_a1 : x.1 a1 = some (100, 26))
    (h : (3 ≤ (Z a1 0) ∧ (Z a1 0) ≤ 13) ∧ (∀ (Z'1 : Zt), (FA Z'1 (a0 + 1) (Z a1 0) ∧ Oth Z Z'1 (fun b => b = (a0 + 1) ∨ b = (a0 + 1) + 1 ∨ b = (a0 + 1) + 2)) → (∃ g1 : Int, (a1 ≠ (a0 + 4) + 1 ∧ 0 ≤ (2 : Int) ∧ (0 ≤ (Z'1 a1 1) ∧ (Z'1 a1 1) ≤ 9) ∧ (2 : Int) + (Z'1 a1 1) < 26 ∧ (∀ i : Nat, i < 26 → Rg (Z'1 a1 i)) ∧ Z'1 (a0 + 1) 0 = g1 ∧ (2 ≤ g1 ∧ g1 ≤ 13) ∧ (∀ (Z'2 : Zt), (PA Z'2 (a0 + 4) g1 (ptak g1 (Z'1 a1) (Int.toNat (2 : Int)) (Int.toNat (Z'1 a1 1))) ∧ Oth Z'1 Z'2 (At2 (a0 + 4))) → (Rg (Z'2 (a0 + 4) 0) ∧ (((Z'2 (a0 + 4) 0 ≤ 3) → (V mX2_load k n 44 [some (r_ a0), none] [i_ 1, r_ a0] x Z'2 Q)) ∧ ((3 < Z'2 (a0 + 4) 0) → (V mX2_load k n 44 [some (r_ a0), none] [i_ 2, r_ a0] x Z'2 Q))))))))) :
    V mX2_load k n 0 [some (r_ a0), some (r_ a1)] [] x Z Q :=
  V_aload_n dX2_load_0 rfl (G_2_0 o_a0.1 o_a0.2.1 lf_2_12 dX2_load_1 (V_aload_n dX2_load_4 rfl (V_iconst dX2_load_5 (V_iald (t := 100) s_a1 (by decide) rfl (by decide) (by decide) (Nat.le_of_ble_eq_true rfl) dX2_load_6 (V_callV (k' := 0) (n' := 0) (t := 4) (q := (RX4, TX4, 4)) [i_ (Z a1 0)] [] okX4_choose o_a0.2.2.1.1 rfl rfl lm_2_57 liX4_choose lqX4_choose (Nat.le_of_ble_eq_true rfl) (Nat.le_of_ble_eq_true rfl) (Nat.le_of_ble_eq_true rfl) (cat_of rfl) (Nat.le_of_ble_eq_true rfl) (Nat.zero_le _) (Nat.zero_le _) rfl dX2_load_7 (sp_X4_choose o_a0.2.2.1 h.1 (fun Z'1 p1 => V_pop dX2_load_10 rfl (V_aload_n dX2_load_11 rfl (G_2_1 o_a0.1 o_a0.2.2.2.1 lf_2_21 dX2_load_12 (V_aload_n dX2_load_15 rfl (V_iconst dX2_load_16 (V_aload_n dX2_load_17 rfl (V_iconst dX2_load_18 (V_iald (t := 100) s_a1 (by decide) rfl (by decide) (by decide) (Nat.le_of_ble_eq_true rfl) dX2_load_19 (V_aload_n dX2_load_20 rfl (G_2_0 o_a0.1 o_a0.2.1 lf_2_12 dX2_load_21 (Exists.elim (h.2 Z'1 p1) (fun g1 w1 => V_callV (k' := 0) (n' := 0) (t := 7) (q := (RX7, TX7, 2)) [r_ a1, i_ 2, i_ (Z'1 a1 1), r_ (a0 + 1)] [] okX7_take o_a0.2.2.2.2.1.1 rfl rfl lm_2_61 liX7_take lqX7_take (Nat.le_of_ble_eq_true rfl) (Nat.le_of_ble_eq_true rfl) (Nat.le_of_ble_eq_true rfl) (cat_of rfl) (Nat.le_of_ble_eq_true rfl) (Nat.zero_le _) (Nat.zero_le _) rfl dX2_load_24 (sp_X7_take o_a0.2.2.2.2.1 s_a1 (Nat.le_of_ble_eq_true rfl) o_a0.2.2.1 w1.1 w1.2.1 w1.2.2.1 w1.2.2.2.1 w1.2.2.2.2.1 w1.2.2.2.2.2.1 w1.2.2.2.2.2.2.1 (fun Z'2 p2 => V_aload_n dX2_load_27 rfl (V_aload_n dX2_load_28 rfl (G_2_1 o_a0.1 o_a0.2.2.2.1 lf_2_21 dX2_load_29 (G_7_0 o_a0.2.2.2.2.1.1 lf_2_65 dX2_load_32 (V_iconst dX2_load_35 (V_icmp_le (tgt := 43) dX2_load_36 rfl (w1.2.2.2.2.2.2.2 Z'2 p2).1 (rg_c rfl) (fun c1 => V_iconst dX2_load_43 (V_msk [true, false] rfl ((w1.2.2.2.2.2.2.2 Z'2 p2).2.1 c1))) (fun c1 => V_iconst dX2_load_39 (V_goto (tgt := 44) dX2_load_40 rfl (V_msk [true, false] rfl ((w1.2.2.2.2.2.2.2 Z'2 p2).2.2 c1)))))))))))))))))))))))))))))
set_option maxRecDepth 20000 in
theorem b_X2_load_44 {k n : Nat} {x : Wx} {Z : Zt} {Q : Option Value → Wx → Zt → Prop} {a0 : Nat} {b0_ : Nat} {t1 : Int} (o_b0 : Is2 x b0_) (o_a0 : Is2 x a0)
    (h : ∀ Z1 : Zt, Z1 = up Z b0_ 2 t1 → (∃ g1 : Int, (∃ g2 : Nat → Int, (IsP g1 ∧ Z1 (a0 + 1) 0 = g1 ∧ PA Z1 (a0 + 4) g1 g2 ∧ (∀ (Z'1 : Zt), (FS Z1 Z'1 a0 (pall g1 g2)) → (Rg (Z'1 a0 2) ∧ (((Z'1 a0 2 ≠ 1) → (∃ g3 : Int, (∃ g4 : Nat → Int, (IsP g3 ∧ FA Z'1 (a0 + 1) g3 ∧ PA Z'1 (a0 + 4) g3 g4 ∧ (V mX2_load k n 68 [some (r_ a0), none] [i_ (sqf g3 g4), r_ a0] x Z'1 Q))))) ∧ ((Z'1 a0 2 = 1) → (V mX2_load k n 68 [some (r_ a0), none] [i_ 0, r_ a0] x Z'1 Q))))))))) :
    V mX2_load k n 44 [some (r_ a0), none] [i_ t1, r_ b0_] x Z Q :=
  P_2_2 o_b0.1 lf_2_69 dX2_load_44 (V_nmZ (fun Z1 eZ1 => V_aload_n dX2_load_47 rfl (Exists.elim (h Z1 eZ1) (fun g1 w1 => Exists.elim w1 (fun g2 w2 => V_callV (k' := 0) (n' := 0) (t := 2) (q := (RX2, TX2, 17)) [] [] okX2_findPoints o_a0.1 rfl rfl lm_2_72 liX2_findPoints lqX2_findPoints (Nat.le_of_ble_eq_true rfl) (Nat.le_of_ble_eq_true rfl) (Nat.le_of_ble_eq_true rfl) (cat_of rfl) (Nat.le_of_ble_eq_true rfl) (Nat.zero_le _) (Nat.zero_le _) rfl dX2_load_48 (sp_X2_findPoints o_a0 w2.1 w2.2.1 w2.2.2.1 (fun Z'1 p1 => V_aload_n dX2_load_51 rfl (V_aload_n dX2_load_52 rfl (G_2_2 o_a0.1 lf_2_69 dX2_load_53 (V_iconst dX2_load_56 (V_icmp_ne (tgt := 64) dX2_load_57 rfl (w2.2.2.2 Z'1 p1).1 (rg_c rfl) (fun c1 => V_aload_n dX2_load_64 rfl (Exists.elim ((w2.2.2.2 Z'1 p1).2.1 c1) (fun g3 w3 => Exists.elim w3 (fun g4 w4 => V_callV (k' := 0) (n' := 0) (t := 2) (q := (RX2, TX2, 17)) [] [r_ a0] okX2_pointsOfSquareField o_a0.1 rfl rfl lm_2_75 liX2_pointsOfSquareField lqX2_pointsOfSquareField (Nat.le_of_ble_eq_true rfl) (Nat.le_of_ble_eq_true rfl) (Nat.le_of_ble_eq_true rfl) (cat_of rfl) (Nat.le_of_ble_eq_true rfl) (Nat.zero_le _) (Nat.zero_le _) rfl dX2_load_65 (sp_X2_pointsOfSquareField o_a0 w4.1 w4.2.1 w4.2.2.1 (V_msk [true, false] rfl w4.2.2.2)))))) (fun c1 => V_iconst dX2_load_60 (V_goto (tgt := 68) dX2_load_61 rfl (V_msk [true, false] rfl ((w2.2.2.2 Z'1 p1).2.2 c1)))))))))))))))
set_option maxRecDepth 20000 in
theorem b_X2_load_68 {k n : Nat} {x : Wx} {Z : Zt} {Q : Option Value → Wx → Zt → Prop} {a0 : Nat} {b0_ : Nat} {t1 : Int} (o_b0 : Is2 x b0_) (o_a0 : Is2 x a0)
    (h : ∃ g1 : Int, (IsP g1 ∧ Z (b0_ + 1) 0 = g1 ∧ (1 ≤ Z b0_ 3 ∧ Z b0_ 3 ≤ 27) ∧ (1 ≤ Z b0_ 2 ∧ Z b0_ 2 ≤ 2) ∧ (0 ≤ t1 ∧ t1 ≤ 1000) ∧ (∀ (Z'1 : Zt), ((∀ i : Nat, i < 5 → Z'1 (b0_ + 8) i = shr g1 (Z b0_ 2) (Z b0_ 3) t1 i) ∧ Oth Z Z'1 (fun b => b = b0_ + 8)) → (∃ g2 : Int, (IsP g2 ∧ Z'1 (a0 + 1) 0 = g2 ∧ (1 ≤ Z'1 a0 2 ∧ Z'1 a0 2 ≤ 2) ∧ (∀ i : Nat, i < 5 → Rg (Z'1 (a0 + 8) i)) ∧ (∀ (Z'2 : Zt), ((∀ j : Nat, 1 ≤ j → j ≤ 12 → Z'2 (a0 + 9) j = ctV g2 (Z'1 (a0 + 8)) (Z'1 a0 2) j) ∧ Oth Z'1 Z'2 (fun b => b = a0 + 9 ∨ b = a0 + 11)) → ((∀ j : Nat, 1 ≤ j → j ≤ 12 → (Z'2 (a0 + 9) j).natAbs ≤ 3 * 28 ^ j) ∧ (∀ (Z'3 : Zt), ((∀ j : Nat, 1 ≤ j → j ≤ 12 → Z'3 (a0 + 10) j = plT (Z'2 (a0 + 9)) 12 j) ∧ Oth Z'2 Z'3 (fun b => b = a0 + 10)) → (Q none x Z'3))))))))) :
    V mX2_load k n 68 [some (r_ a0), none] [i_ t1, r_ b0_] x Z Q :=
  Exists.elim h (fun g1 w1 => V_callV (k' := 0) (n' := 0) (t := 2) (q := (RX2, TX2, 17)) [i_ t1] [] okX2_findShare o_b0.1 rfl rfl lm_2_79 liX2_findShare lqX2_findShare (Nat.le_of_ble_eq_true rfl) (Nat.le_of_ble_eq_true rfl) (Nat.le_of_ble_eq_true rfl) (cat_of rfl) (Nat.le_of_ble_eq_true rfl) (Nat.zero_le _) (Nat.zero_le _) rfl dX2_load_68 (sp_X2_findShare o_b0 w1.1 w1.2.1 w1.2.2.1 w1.2.2.2.1 w1.2.2.2.2.1 (fun Z'1 p1 => V_aload_n dX2_load_71 rfl (Exists.elim (w1.2.2.2.2.2 Z'1 p1) (fun g2 w2 => V_callV (k' := 0) (n' := 0) (t := 2) (q := (RX2, TX2, 17)) [] [] okX2_findCounts o_a0.1 rfl rfl lm_2_83 liX2_findCounts lqX2_findCounts (Nat.le_of_ble_eq_true rfl) (Nat.le_of_ble_eq_true rfl) (Nat.le_of_ble_eq_true rfl) (cat_of rfl) (Nat.le_of_ble_eq_true rfl) (Nat.zero_le _) (Nat.zero_le _) rfl dX2_load_72 (sp_X2_findCounts o_a0 w2.1 w2.2.1 w2.2.2.1 w2.2.2.2.1 (fun Z'2 p2 => V_aload_n dX2_load_75 rfl (V_callV (k' := 0) (n' := 0) (t := 2) (q := (RX2, TX2, 17)) [] [] okX2_findPlaces o_a0.1 rfl rfl lm_2_86 liX2_findPlaces lqX2_findPlaces (Nat.le_of_ble_eq_true rfl) (Nat.le_of_ble_eq_true rfl) (Nat.le_of_ble_eq_true rfl) (cat_of rfl) (Nat.le_of_ble_eq_true rfl) (Nat.zero_le _) (Nat.zero_le _) rfl dX2_load_76 (sp_X2_findPlaces o_a0 (w2.2.2.2.2 Z'2 p2).1 (fun Z'3 p3 => V_ret dX2_load_79 rfl ((w2.2.2.2.2 Z'2 p2).2 Z'3 p3)))))))))))
theorem sq_le {A p : Int} (h1 : -p ≤ A) (h2 : A ≤ p) : 0 ≤ A * A ∧ A * A ≤ p * p := by
  by_cases s : 0 ≤ A
  · have := mulb (a := A) (b := A) (A := p) (B := p) h1 h2 s h2
    exact ⟨Int.mul_nonneg s s, this.2⟩
  · have h3 := mulb (a := -A) (b := -A) (A := p) (B := p) (by omega) (by omega) (by omega) (by omega)
    have h4 := Int.mul_nonneg (show 0 ≤ -A by omega) (show 0 ≤ -A by omega)
    rw [Int.neg_mul_neg] at h3 h4
    exact ⟨h4, h3.2⟩
def gen (F : Nat → Int) : Int := if pd F ≤ 3 then 1 else 2
theorem gen_rg (F : Nat → Int) : 1 ≤ gen F ∧ gen F ≤ 2 := by
  unfold gen
  split <;> decide
def c2F (p : Int) (F : Nat → Int) : Int := if gen F = 1 then 0 else sqf p F
/-- SHARE's numbers -/
def shF (p : Int) (F : Nat → Int) : Nat → Int := shr p (gen F) (pall p F).length (c2F p F)
theorem pall_2p {p : Int} (hp : IsP p) (F : Nat → Int) : ((pall p F).length : Int) ≤ 2 * p + 1 := by
  have := colX_len hp F p.toNat 0
  have hpr := hp.rg
  unfold pall pts
  rw [List.length_append]
  show (((colX p F p.toNat 0).length + 1 : Nat) : Int) ≤ 2 * p + 1
  omega
theorem shF_bd {p : Int} (hp : IsP p) (F : Nat → Int) : ShB (shF p F) ∧ shF p F 0 = 1 := by
  have hpr := hp.rg
  have h1 := pall_2p hp F
  have h2 := (pall_len hp F).1
  have hpp := mul13 (a := p) (b := p) ⟨by omega, by omega⟩ ⟨by omega, by omega⟩
  refine ⟨fun i hi1 hi4 => ?_, rfl⟩
  have hA := sq_le (A := ((pall p F).length : Int) - p - 1) (p := p) (by omega) (by omega)
  have hpA := mulb (a := ((pall p F).length : Int) - p - 1) (b := p) (A := p) (B := p) (by omega) (by omega) (by omega) (by omega)
  unfold shF shr
  generalize hm : ((pall p F).length : Int) - p - 1 = A at hA hpA
  match i, hi1, hi4 with
  | 1, _, _ =>
    rw [if_neg (by decide), if_pos rfl]
    show A.natAbs ≤ 13
    omega
  | 2, _, _ =>
    rw [if_neg (by decide), if_neg (by decide)]
    show _ ≤ 169
    by_cases c : gen F = 1
    · rw [if_pos c, if_pos rfl]; omega
    · rw [if_neg c, if_pos rfl, Int.natAbs_tdiv]
      have hs := sqf_rg hp F
      have hc : c2F p F = sqf p F := by unfold c2F; rw [if_neg c]
      rw [hc]
      show (sqf p F - p * p - 1 + A * A).natAbs / 2 ≤ 169
      omega
  | 3, _, _ =>
    rw [if_neg (by decide), if_neg (by decide)]
    show _ ≤ 2197
    by_cases c : gen F = 1
    · rw [if_pos c, if_neg (by decide)]; decide
    · rw [if_neg c, if_neg (by decide), if_pos rfl, Int.mul_comm]
      omega
  | 4, _, _ =>
    rw [if_neg (by decide), if_neg (by decide)]
    show _ ≤ 28561
    by_cases c : gen F = 1
    · rw [if_pos c, if_neg (by decide)]; decide
    · rw [if_neg c, if_neg (by decide), if_neg (by decide), if_pos rfl]
      omega
theorem shF_rg {p : Int} (hp : IsP p) (F : Nat → Int) (i : Nat) (hi : i < 5) : Rg (shF p F i) := by
  have h := shF_bd hp F
  match i, hi with
  | 0, _ => rw [h.2]; exact ⟨by decide, by decide⟩
  | 1, _ => have := h.1 1 (by decide) (by decide); exact ⟨by omega, by omega⟩
  | 2, _ => have := h.1 2 (by decide) (by decide); exact ⟨by omega, by omega⟩
  | 3, _ => have := h.1 3 (by decide) (by decide); exact ⟨by omega, by omega⟩
  | 4, _ => have := h.1 4 (by decide) (by decide); exact ⟨by omega, by omega⟩
/-- the curve at a is loaded with p and F -/
def CvA (Z : Zt) (a : Nat) (p : Int) (F : Nat → Int) : Prop := FA Z (a + 1) p ∧ PA Z (a + 4) p F ∧ PtA Z a (pall p F) ∧ Z a 2 = gen F ∧ (∀ i : Nat, i < 5 → Z (a + 8) i = shF p F i) ∧ (∀ j : Nat, 1 ≤ j → j ≤ 12 → Z (a + 9) j = ctV p (shF p F) (gen F) j) ∧ (∀ j : Nat, 1 ≤ j → j ≤ 12 → Z (a + 10) j = plT (ctV p (shF p F) (gen F)) 12 j)
theorem sp_X2_load {k n : Nat} {x : Wx} {Z : Zt} {Q : Option Value → Wx → Zt → Prop} {a r : Nat} (o : Is2 x a) (sr : x.1 r = some (100, 26)) (hp : IsP (Z r 0)) (hd : 0 ≤ Z r 1 ∧ Z r 1 ≤ 9) (hg : ∀ i : Nat, i < 26 → Rg (Z r i)) (hra : r < a ∨ a + 16 ≤ r) (h : ∀ Z' : Zt, (CvA Z' a (Z r 0) (ptak (Z r 0) (Z r) 2 (Z r 1).toNat) ∧ Oth Z Z' (fun b => a ≤ b ∧ b < a + 16)) → Q none x Z') : V mX2_load k n 0 [some (r_ a), some (r_ r)] [] x Z Q := by
  have hpr := hp.rg
  generalize hpe : Z r 0 = p at hp hpr h
  refine b_X2_load_0 o sr ?_
  rw [hpe]
  refine ⟨hpr, fun Z1 hz1 => ?_⟩
  have hr1 : Z1 r = Z r := hz1.2 r (by omega)
  rw [hr1]
  refine ⟨p, by omega, by decide, hd, by omega, hg, hz1.1.1, by omega, fun Z2 hz2 => ?_⟩
  generalize hF : ptak p (Z r) 2 (Z r 1).toNat = F at h
  have hPA : PA Z2 (a + 4) p F := by rw [← hF]; exact hz2.1
  have hdg := hPA.deg
  have hdr := hPA.dgr
  have o2 : Oth Z Z2 (fun b => a ≤ b ∧ b < a + 16) := (hz1.2.wk (fun b hb => by omega)).tr (hz2.2.wk (fun b hb => by unfold At2 at hb; omega))
  have hFA : FA Z2 (a + 1) p := hz1.1.kept hz2.2 (by unfold At2; omega) (by unfold At2; omega) (by unfold At2; omega)
  have main : ∀ t : Int, t = gen F → V mX2_load k n 44 [some (r_ a), none] [i_ t, r_ a] x Z2 Q := by
    intro t ht
    refine b_X2_load_44 o o fun Z3 e3 => ?_
    have o3 : Oth Z2 Z3 (fun b => b = a) := fun b hb => by rw [e3, up_row _ _ _ _ _ hb]
    have hPA3 : PA Z3 (a + 4) p F := hPA.kept o3 (by omega) (by omega)
    have hFA3 : FA Z3 (a + 1) p := hFA.kept o3 (by omega) (by omega) (by omega)
    refine ⟨p, F, hp, hFA3.1, hPA3, fun Z4 hz4 => ?_⟩
    have o4 : Oth Z3 Z4 (fun b => b = a ∨ b = a + 6 ∨ b = a + 7) := fun b hb => hz4.2.1 b (fun e => hb (Or.inl e)) (fun e => hb (Or.inr (Or.inl e))) (fun e => hb (Or.inr (Or.inr e)))
    have hPA4 : PA Z4 (a + 4) p F := hPA3.kept o4 (by omega) (by omega)
    have hFA4 : FA Z4 (a + 1) p := hFA3.kept o4 (by omega) (by omega) (by omega)
    have hgen : Z4 a 2 = gen F := by rw [hz4.2.2 2 (by decide), e3, up_at, if_pos rfl, ht]
    have hgr := gen_rg F
    have hlen := pall_len hp F
    have tl : ∀ c : Int, c = c2F p F → V mX2_load k n 68 [some (r_ a), none] [i_ c, r_ a] x Z4 Q := by
      intro c hc
      have hcr : 0 ≤ c ∧ c ≤ 1000 := by
        rw [hc]; unfold c2F
        have := sqf_rg hp F
        have hpp := mul13 (a := p) (b := p) ⟨by omega, by omega⟩ ⟨by omega, by omega⟩
        split <;> omega
      refine b_X2_load_68 o o ?_
      rw [hgen, hz4.1.1]
      refine ⟨p, hp, hFA4.1, ⟨by omega, by omega⟩, hgr, hcr, fun Z5 hz5 => ⟨p, hp, ?_, ?_, fun i hi => ?_, fun Z6 hz6 => ⟨fun j hj1 hj2 => ?_, fun Z7 hz7 => h Z7 ⟨⟨?_, ?_, ?_, ?_, fun i hi => ?_, fun j hj1 hj2 => ?_, fun j hj1 hj2 => ?_⟩, ?_⟩⟩⟩⟩
      · rw [hz5.2 (a + 1) (by omega)]; exact hFA4.1
      · rw [hz5.2 a (by omega), hgen]; exact hgr
      · have := shF_rg hp F i hi
        rw [hz5.1 i hi, hc]; exact this
      · have hs8 : ∀ i : Nat, 1 ≤ i → (i : Int) ≤ 2 * gen F → Z5 (a + 8) i = shF p F i := fun i h1 h2 => by rw [hz5.1 i (by omega), hc]; rfl
        rw [hz6.1 j hj1 hj2, hz5.2 a (by omega), hgen, ctV_ext hs8 hj1]
        exact ctV_bd hp (shF_bd hp F).1 hgr.2 hj1 hj2
      · have f5 := hFA4.kept hz5.2 (by omega) (by omega) (by omega)
        exact (f5.kept hz6.2 (by omega) (by omega) (by omega)).kept hz7.2 (by omega) (by omega) (by omega)
      · have f5 := hPA4.kept hz5.2 (by omega) (by omega)
        exact (f5.kept hz6.2 (by omega) (by omega)).kept hz7.2 (by omega) (by omega)
      · have ea : ∀ b, b = a ∨ b = a + 6 ∨ b = a + 7 → Z7 b = Z4 b := fun b hb => by rw [hz7.2 b (by omega), hz6.2 b (by omega), hz5.2 b (by omega)]
        unfold PtA
        rw [ea a (Or.inl rfl), ea (a + 6) (Or.inr (Or.inl rfl)), ea (a + 7) (Or.inr (Or.inr rfl))]
        exact hz4.1
      · rw [hz7.2 a (by omega), hz6.2 a (by omega), hz5.2 a (by omega), hgen]
      · rw [hz7.2 (a + 8) (by omega), hz6.2 (a + 8) (by omega), hz5.1 i hi, hc]; rfl
      · have hs8 : ∀ i : Nat, 1 ≤ i → (i : Int) ≤ 2 * gen F → Z5 (a + 8) i = shF p F i := fun i h1 h2 => by rw [hz5.1 i (by omega), hc]; rfl
        rw [hz7.2 (a + 9) (by omega), hz6.1 j hj1 hj2, hz5.2 a (by omega), hgen, ctV_ext hs8 hj1]
      · have hs8 : ∀ i : Nat, 1 ≤ i → (i : Int) ≤ 2 * gen F → Z5 (a + 8) i = shF p F i := fun i h1 h2 => by rw [hz5.1 i (by omega), hc]; rfl
        rw [hz7.1 j hj1 hj2, plT_ext 12 (C' := ctV p (shF p F) (gen F)) (fun i hi1 hi2 => by rw [hz6.1 i hi1 hi2, hz5.2 a (by omega), hgen, ctV_ext hs8 hi1])]
      · intro b hb
        rw [hz7.2 b (by omega), hz6.2 b (by omega), hz5.2 b (by omega), o4 b (by omega), o3 b (by omega)]
        exact o2 b hb
    refine ⟨?_, fun c => ⟨p, F, hp, hFA4, hPA4, tl _ ?_⟩, fun c => tl _ ?_⟩
    · rw [hgen]; exact ⟨by omega, by omega⟩
    · rw [hgen] at c
      unfold c2F; rw [if_neg c]
    · rw [hgen] at c
      unfold c2F; rw [if_pos c]
  refine ⟨⟨by omega, by omega⟩, fun c => main 1 ?_, fun c => main 2 ?_⟩
  · unfold gen; rw [if_pos (by omega)]
  · unfold gen; rw [if_neg (by omega)]
