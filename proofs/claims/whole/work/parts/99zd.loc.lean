/-! ===== a polynomial at a point: x is X and a power of T more ===== -/
theorem co_c {R : Type} [Lean.Grind.CommRing R] {p : Int} {co : R → Nat → Int} {c : Int → R} {tp : Nat → R} (hS : SerR p co c tp) (a : Int) (g : R) (j : Nat) : co (c a * g) j = (a * co g j) % p := by
  obtain ⟨hp, hc, h1, h2, h3, h4, h5, h6, h7⟩ := hS
  rw [h3, show co (c a) = fun i => if i = 0 then a % p else 0 from funext (h4 a), cv_comm, cv_mono, if_pos (Nat.zero_le j), Nat.sub_zero, Int.mul_comm, mul_md]
theorem co_t {R : Type} [Lean.Grind.CommRing R] {p : Int} {co : R → Nat → Int} {c : Int → R} {tp : Nat → R} (hS : SerR p co c tp) (q : Nat) (g : R) (j : Nat) : co (tp q * g) j = if q ≤ j then co g (j - q) else 0 := by
  obtain ⟨hp, hc, h1, h2, h3, h4, h5, h6, h7⟩ := hS
  rw [h3, show co (tp q) = fun i => if i = q then 1 else 0 from funext (h5 q), cv_comm, cv_mono]
  split
  · rw [Int.mul_one, Int.emod_eq_of_lt (h1 g _).1 (h1 g _).2]
  · rfl
theorem co_th {R : Type} [Lean.Grind.CommRing R] {p : Int} {co : R → Nat → Int} {c : Int → R} {tp : Nat → R} (hS : SerR p co c tp) (X : Int) (sh : Nat) (g : R) (j : Nat) : co ((c X + tp sh) * g) j = npw p X sh (co g) j := by
  rw [show (c X + tp sh) * g = c X * g + tp sh * g by grind, hS.2.2.2.1, co_c hS, co_t hS, Int.emod_add_emod]
  unfold npw
  rw [Int.mul_comm]
theorem pwI_co {R : Type} [Lean.Grind.CommRing R] {p : Int} {co : R → Nat → Int} {c : Int → R} {tp : Nat → R} (hS : SerR p co c tp) {X : Int} {sh : Nat} {t : Int} {s : R} {f : Nat → Int} (hf : ∀ j : Nat, (j : Int) < t → f j = co s j) : ∀ (i j : Nat), (j : Int) < t → pwI p X sh t f i j = co ((c X + tp sh) ^ i * s) j
  | 0, j, hj => by rw [Lean.Grind.Semiring.pow_zero, Lean.Grind.Semiring.one_mul]; exact hf j hj
  | i + 1, j, hj => by
    show nxp p X sh t (pwI p X sh t f i) j = _
    unfold nxp
    rw [if_pos hj, Lean.Grind.Semiring.pow_succ, show (c X + tp sh) ^ i * (c X + tp sh) * s = (c X + tp sh) * ((c X + tp sh) ^ i * s) by grind, co_th hS]
    unfold npw
    rw [pwI_co hS hf i j hj]
    split
    · rw [pwI_co hS hf i (j - sh) (by omega)]
    · rfl
theorem md3 (a b c p : Int) : (a % p + (b % p + c % p) % p) % p = (a + (b + c)) % p := by rw [← Int.add_emod b c, ← Int.add_emod]
theorem bgn_co {R : Type} [Lean.Grind.CommRing R] {p : Int} {co : R → Nat → Int} {c : Int → R} {tp : Nat → R} (hS : SerR p co c tp) {θ s : R} {A B : Nat → Int} {P Y : Nat → Nat → Int} {j : Nat} (hP : ∀ i, P i j = co (θ ^ i * 1) j) (hY : ∀ i, Y i j = co (θ ^ i * s) j) : ∀ n : Nat, bgn A B P Y n j % p = co (EV c θ n A + EV c θ n B * s) j
  | 0 => by
    show (0 : Int) % p = co (0 + 0 * s) j
    rw [show (0 : R) + 0 * s = c 0 * 1 by rw [hS.2.1.2.2.2.1]; grind, co_c hS, Int.zero_mul]
  | n + 1 => by
    have ih := bgn_co (A := A) (B := B) hS hP hY n
    show (bgn A B P Y n j + (A n * P n j + B n * Y n j)) % p = _
    rw [EV_suc hS.2.1, EV_suc hS.2.1, show EV c θ n A + c (A n) * θ ^ n + (EV c θ n B + c (B n) * θ ^ n) * s = (EV c θ n A + EV c θ n B * s) + (c (A n) * (θ ^ n * 1) + c (B n) * (θ ^ n * s)) by grind, hS.2.2.2.1, ← ih, hS.2.2.2.1, co_c hS, co_c hS, hP, hY, md3]
theorem ordL_eq {p : Int} {g : Nat → Int} {k : Nat} (hk : g k % p ≠ 0) : ∀ (m j : Nat), j ≤ k → k < j + m → (∀ i : Nat, j ≤ i → i < k → g i % p = 0) → ordL p g m j = (k : Int)
  | 0, j, h1, h2, _ => by omega
  | m + 1, j, h1, h2, h3 => by
    unfold ordL
    by_cases c : j = k
    · rw [if_neg (by rw [c]; exact hk), c]
    · rw [if_pos (h3 j (Nat.le_refl j) (by omega))]
      exact ordL_eq hk m (j + 1) (by omega) (by omega) (fun i hi hi2 => h3 i (by omega) hi2)
/-- where x is a number -/
theorem hor_sum {p : Int} (hp : 0 < p) {f : Nat → Int} {X : Int} : ∀ (n : Nat) (v : Int), 0 ≤ v ∧ v < p → hor p f X n v = (v * X ^ n + smT n (fun i => f i * X ^ i)) % p
  | 0, v, hv => by
    show v = (v * X ^ 0 + 0) % p
    rw [Int.pow_zero, Int.mul_one, Int.add_zero, Int.emod_eq_of_lt hv.1 hv.2]
  | n + 1, v, hv => by
    show hor p f X n ((v * X + f n) % p) = (v * X ^ (n + 1) + (smT n (fun i => f i * X ^ i) + f n * X ^ n)) % p
    rw [hor_sum hp n _ (emr _ hp), Int.add_emod, mul_md, ← Int.add_emod]
    congr 1
    rw [Int.pow_succ, Int.add_mul, ← Int.mul_assoc v, Int.mul_assoc v X, Int.mul_comm X, ← Int.mul_assoc]
    omega
theorem co_pw {R : Type} [Lean.Grind.CommRing R] {p : Int} {co : R → Nat → Int} {c : Int → R} {tp : Nat → R} (hS : SerR p co c tp) {θ : R} {X : Int} (hX : co θ 0 = X % p) : ∀ n : Nat, co (θ ^ n) 0 = X ^ n % p
  | 0 => by rw [Lean.Grind.Semiring.pow_zero, ← hS.2.1.2.2.2.2, hS.2.2.2.2.2.1, if_pos rfl, Int.pow_zero]
  | n + 1 => by rw [Lean.Grind.Semiring.pow_succ, hS.2.2.2.2.1, cv_0, co_pw hS hX n, hX, ← Int.mul_emod, Int.pow_succ]
theorem co_sum {R : Type} [Lean.Grind.CommRing R] {p : Int} {co : R → Nat → Int} {c : Int → R} {tp : Nat → R} (hS : SerR p co c tp) {θ : R} {X : Int} (hX : co θ 0 = X % p) (f : Nat → Int) : ∀ n : Nat, co (EV c θ n f) 0 = smT n (fun i => f i * X ^ i) % p
  | 0 => by
    show co (0 : R) 0 = (0 : Int) % p
    rw [← hS.2.1.2.2.2.1, hS.2.2.2.2.2.1, if_pos rfl]
  | n + 1 => by
    show _ = (smT n (fun i => f i * X ^ i) + f n * X ^ n) % p
    rw [EV_suc hS.2.1, hS.2.2.2.1, co_sum hS hX f n, co_c hS, co_pw hS hX, Int.emod_add_emod, Int.add_emod_emod, Int.mul_comm (f n) (X ^ n % p), ← Int.emod_add_emod]
    rw [Int.add_emod, mul_md, ← Int.add_emod, Int.emod_add_emod, Int.mul_comm]
theorem ev_co {R : Type} [Lean.Grind.CommRing R] {p : Int} {co : R → Nat → Int} {c : Int → R} {tp : Nat → R} (hS : SerR p co c tp) {θ : R} {X : Int} (hX : co θ 0 = X % p) (f : Nat → Int) : ev p f X = co (EV c θ 24 f) 0 := by
  have hr := hS.1.rg
  rw [co_sum hS hX]
  unfold ev
  rw [hor_sum (by omega) 24 0 ⟨by omega, by omega⟩, Int.zero_mul, Int.zero_add]
theorem th_0 {R : Type} [Lean.Grind.CommRing R] {p : Int} {co : R → Nat → Int} {c : Int → R} {tp : Nat → R} (hS : SerR p co c tp) (X : Int) {sh : Nat} (hs : 1 ≤ sh) : co (c X + tp sh) 0 = X % p := by
  rw [hS.2.2.2.1, hS.2.2.2.2.2.1, hS.2.2.2.2.2.2.1, if_pos rfl, if_neg (by omega), Int.add_zero, Int.emod_emod]
theorem c_neg {R : Type} [Lean.Grind.CommRing R] {p : Int} {c : Int → R} (h : CM p c) (a : Int) : c (-a) = -(c a) := by
  have h1 := h.1 (-a) a
  rw [show -a + a = 0 from by omega, h.2.2.2.1] at h1
  grind
theorem EV_lin0 {R : Type} [Lean.Grind.CommRing R] {p : Int} {co : R → Nat → Int} {c : Int → R} {tp : Nat → R} (hS : SerR p co c tp) (X : Int) (sh : Nat) : EV c (c X + tp sh) 24 (lin p X) = tp sh := by
  have hc := hS.2.1
  have d : Dlt (lin p X) 2 := fun i hi => by unfold lin; rw [if_neg (by omega), if_neg (by omega)]
  rw [EV_bd hc _ (show 2 ≤ 24 by decide) d]
  show c (lin p X 0) + (c X + tp sh) * (c (shL (lin p X) 0) + (c X + tp sh) * 0) = tp sh
  rw [show lin p X 0 = (-X) % p from rfl, show shL (lin p X) 0 = 1 from rfl, hc.2.2.1, hc.2.2.2.2, c_neg hc]
  grind
theorem pd_lin {p : Int} (X : Int) : pd (lin p X) = 1 := pd_eq (m := 1) (by decide) (by show (1 : Int) ≠ 0; decide) (fun i hi => by unfold lin; rw [if_neg (by omega), if_neg (by omega)])
theorem Dlt_fin {f : Nat → Int} {n : Nat} (h : Dlt f n) (hn : n ≤ 24) : Fin f := fun i hi => h i (by omega)
theorem Dlt_pd {f : Nat → Int} {n : Nat} (h : Dlt f n) (hn : n ≤ 24) : pd f < n := by
  by_cases c : 0 ≤ pd f
  · have := dg_lead f 24 c
    by_cases c2 : (n : Int) ≤ dg f 24
    · exact absurd (h (dg f 24).toNat (by omega)) this
    · show dg f 24 < n; omega
  · show dg f 24 < n
    have : ¬ 0 ≤ dg f 24 := c
    omega
