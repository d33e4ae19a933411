/-! ===== polynomials as series that end; how often X is a root, and degrees ===== -/
def Dg {R : Type} (co : R → Nat → Int) (a : R) (n : Nat) : Prop := ∀ i : Nat, n ≤ i → co a i = 0
def VZ {R : Type} (co : R → Nat → Int) (a : R) (m : Nat) : Prop := ∀ t : Nat, t < m → co a t = 0
theorem co_0 {R : Type} [Lean.Grind.CommRing R] {p : Int} {co : R → Nat → Int} {c : Int → R} {tp : Nat → R} (hS : SerR p co c tp) (j : Nat) : co (0 : R) j = 0 := by
  rw [← hS.2.1.2.2.2.1, hS.2.2.2.2.2.1]
  split <;> rfl
theorem VZ.mul {R : Type} [Lean.Grind.CommRing R] {p : Int} {co : R → Nat → Int} {c : Int → R} {tp : Nat → R} (hS : SerR p co c tp) {a b : R} {m n : Nat} (ha : VZ co a m) (hb : VZ co b n) : VZ co (a * b) (m + n) := fun t ht => by
  rw [hS.2.2.2.2.1, (cv_low ha hb).1 t ht]; rfl
theorem VZ.add {R : Type} [Lean.Grind.CommRing R] {p : Int} {co : R → Nat → Int} {c : Int → R} {tp : Nat → R} (hS : SerR p co c tp) {a b : R} {m : Nat} (ha : VZ co a m) (hb : VZ co b m) : VZ co (a + b) m := fun t ht => by
  rw [hS.2.2.2.1, ha t ht, hb t ht]; rfl
theorem VZ.c {R : Type} [Lean.Grind.CommRing R] {p : Int} {co : R → Nat → Int} {c : Int → R} {tp : Nat → R} (hS : SerR p co c tp) {a : R} {m : Nat} (ha : VZ co a m) (k : Int) : VZ co (c k * a) m := fun t ht => by
  rw [co_c hS, ha t ht, Int.mul_zero]; rfl
theorem VZ.div {R : Type} [Lean.Grind.CommRing R] {p : Int} {co : R → Nat → Int} {c : Int → R} {tp : Nat → R} (hS : SerR p co c tp) {a b : R} {m : Nat} (h : VZ co (a * b) m) (hb : OrS co b 0) : VZ co a m := fun t ht => by
  rcases OrS.ex co a t with e | ⟨l, l1, l2⟩
  · exact e t (Nat.le_refl t)
  · have := OrS.mul hS l2 hb
    exact absurd (h (l + 0) (by omega)) this.2
theorem VZ.same {R : Type} {co : R → Nat → Int} {a b : R} {m n : Nat} (h : VZ co a m) (hs : SmS co a b n) (hm : m ≤ n) : VZ co b m := fun t ht => by rw [← hs t (by omega)]; exact h t ht
theorem Dg.mul {R : Type} [Lean.Grind.CommRing R] {p : Int} {co : R → Nat → Int} {c : Int → R} {tp : Nat → R} (hS : SerR p co c tp) {a b : R} {n m : Nat} (ha : Dg co a (n + 1)) (hb : Dg co b (m + 1)) : Dg co (a * b) (n + m + 1) ∧ co (a * b) (n + m) = (co a n * co b m) % p := by
  refine ⟨fun i hi => ?_, ?_⟩
  · rw [hS.2.2.2.2.1]
    unfold cv
    rw [smT_zero (fun j hj => by
      show co a j * co b (i - j) = 0
      by_cases c1 : n + 1 ≤ j
      · rw [ha j c1, Int.zero_mul]
      · rw [hb (i - j) (by omega), Int.mul_zero])]
    rfl
  · rw [hS.2.2.2.2.1, cv_top ha hb]
theorem Dg.add {R : Type} [Lean.Grind.CommRing R] {p : Int} {co : R → Nat → Int} {c : Int → R} {tp : Nat → R} (hS : SerR p co c tp) {a b : R} {n : Nat} (ha : Dg co a n) (hb : Dg co b n) : Dg co (a + b) n := fun i hi => by
  rw [hS.2.2.2.1, ha i hi, hb i hi]; rfl
theorem Dg.le {R : Type} {co : R → Nat → Int} {a : R} {n m : Nat} (h : Dg co a n) (hm : n ≤ m) : Dg co a m := fun i hi => h i (by omega)
/-- a polynomial where x is θ -/
def PH {R : Type} [Lean.Grind.CommRing R] (co : R → Nat → Int) (c : Int → R) (θ a : R) : R := EV c θ 400 (co a)
theorem PH_add {R : Type} [Lean.Grind.CommRing R] {p : Int} {co : R → Nat → Int} {c : Int → R} {tp : Nat → R} (hS : SerR p co c tp) (θ a b : R) : PH co c θ (a + b) = PH co c θ a + PH co c θ b := by
  unfold PH
  rw [show co (a + b) = padd p (co a) (co b) 1 from funext fun i => by rw [hS.2.2.2.1]; unfold padd; rw [Int.one_mul], EV_padd hS.2.1, hS.2.1.2.2.2.2]
  grind
theorem PH_mul {R : Type} [Lean.Grind.CommRing R] {p : Int} {co : R → Nat → Int} {c : Int → R} {tp : Nat → R} (hS : SerR p co c tp) (θ : R) {a b : R} {n m : Nat} (ha : Dg co a n) (hb : Dg co b m) (h : n + m ≤ 400) : PH co c θ (a * b) = PH co c θ a * PH co c θ b := by
  unfold PH
  rw [show co (a * b) = pmul p (co a) (co b) from funext fun i => by rw [hS.2.2.2.2.1, pmul_cv]]
  exact EV_pmul hS.2.1 θ ha hb h
theorem PH_c {R : Type} [Lean.Grind.CommRing R] {p : Int} {co : R → Nat → Int} {c : Int → R} {tp : Nat → R} (hS : SerR p co c tp) (θ : R) (k : Int) : PH co c θ (c k) = c k := by
  unfold PH
  have d : Dlt (co (c k)) 1 := fun i hi => by rw [hS.2.2.2.2.2.1, if_neg (by omega)]
  rw [EV_bd hS.2.1 θ (show 1 ≤ 400 by decide) d]
  show c (co (c k) 0) + θ * 0 = c k
  rw [hS.2.2.2.2.2.1, if_pos rfl, hS.2.1.2.2.1]
  grind
theorem PH_x {R : Type} [Lean.Grind.CommRing R] {p : Int} {co : R → Nat → Int} {c : Int → R} {tp : Nat → R} (hS : SerR p co c tp) (θ : R) : PH co c θ (tp 1) = θ := by
  unfold PH
  have d : Dlt (co (tp 1)) 2 := fun i hi => by rw [hS.2.2.2.2.2.2.1, if_neg (by omega)]
  rw [EV_bd hS.2.1 θ (show 2 ≤ 400 by decide) d]
  show c (co (tp 1) 0) + θ * (c (co (tp 1) 1) + θ * 0) = θ
  rw [hS.2.2.2.2.2.2.1, hS.2.2.2.2.2.2.1, if_neg (by decide), if_pos rfl, hS.2.1.2.2.2.1, hS.2.1.2.2.2.2]
  grind
theorem c_Dg {R : Type} [Lean.Grind.CommRing R] {p : Int} {co : R → Nat → Int} {c : Int → R} {tp : Nat → R} (hS : SerR p co c tp) (k : Int) : Dg co (c k) 1 := fun i hi => by rw [hS.2.2.2.2.2.1, if_neg (by omega)]
theorem lin_Dg {R : Type} [Lean.Grind.CommRing R] {p : Int} {co : R → Nat → Int} {c : Int → R} {tp : Nat → R} (hS : SerR p co c tp) (k : Int) : Dg co (tp 1 + c k) 2 := Dg.add hS (fun i hi => by rw [hS.2.2.2.2.2.2.1, if_neg (by omega)]) ((c_Dg hS k).le (by decide))
/-- division by x less X -/
theorem lin_dv {R : Type} [Lean.Grind.CommRing R] {p : Int} {co : R → Nat → Int} {c : Int → R} {tp : Nat → R} (hS : SerR p co c tp) (X : Int) : ∀ (n : Nat) (a : R), Dg co a (n + 1) → ∃ (q : R) (k : Int), Dg co q n ∧ a = (tp 1 + c (-X)) * q + c k
  | 0, a, h => ⟨0, co a 0, fun i _ => co_0 hS i, by
      have : a = c (co a 0) := hS.2.2.2.2.2.2.2.1 _ _ (fun i => by
        rw [hS.2.2.2.2.2.1]
        by_cases ci : i = 0
        · rw [if_pos ci, ci, Int.emod_eq_of_lt (hS.2.2.1 a 0).1 (hS.2.2.1 a 0).2]
        · rw [if_neg ci]; exact h i (by omega))
      rw [show (tp 1 + c (-X)) * (0 : R) + c (co a 0) = c (co a 0) by grind]
      exact this⟩
  | n + 1, a, h => by
    obtain ⟨b, hb⟩ := hS.2.2.2.2.2.2.2.2 (fun i => co a (i + 1)) (fun i => hS.2.2.1 a (i + 1))
    obtain ⟨q, k, q1, q2⟩ := lin_dv hS X n b (fun i hi => by rw [hb]; exact h (i + 1) (by omega))
    have ea : a = c (co a 0) + tp 1 * b := hS.2.2.2.2.2.2.2.1 _ _ (fun i => by
      rw [hS.2.2.2.1, hS.2.2.2.2.2.1, co_t hS]
      by_cases ci : i = 0
      · rw [if_pos ci, if_neg (by omega), Int.add_zero, Int.emod_emod, ci, Int.emod_eq_of_lt (hS.2.2.1 a 0).1 (hS.2.2.1 a 0).2]
      · rw [if_neg ci, if_pos (by omega), hb, Int.zero_add, show i - 1 + 1 = i from by omega, Int.emod_eq_of_lt (hS.2.2.1 a i).1 (hS.2.2.1 a i).2])
    refine ⟨tp 1 * q + c k, co a 0 + X * k, Dg.add hS ?_ ((c_Dg hS k).le (by omega)), ?_⟩
    · intro i hi
      rw [co_t hS, if_pos (by omega)]
      exact q1 (i - 1) (by omega)
    · conv => lhs; rw [ea, q2]
      rw [hS.2.1.1, hS.2.1.2.1, c_neg hS.2.1]
      grind
theorem lin_pw {R : Type} [Lean.Grind.CommRing R] {p : Int} {co : R → Nat → Int} {c : Int → R} {tp : Nat → R} (hS : SerR p co c tp) (X : Int) : ∀ (m n : Nat) (a : R), n ≤ 390 → Dg co a n → VZ co (PH co c (c X + tp 1) a) m → ∃ q : R, Dg co q (n - m) ∧ (q = 0 → a = 0) ∧ ∀ θ : R, PH co c θ a = (θ + c (-X)) ^ m * PH co c θ q
  | 0, n, a, _, h, _ => ⟨a, h, id, fun θ => by rw [Lean.Grind.Semiring.pow_zero]; grind⟩
  | m + 1, 0, a, _, h, _ => ⟨0, fun i _ => co_0 hS i, fun _ => hS.2.2.2.2.2.2.2.1 _ _ (fun i => by rw [h i (Nat.zero_le i), co_0 hS]), fun θ => by
      have z : ∀ b : R, (∀ i, co b i = 0) → PH co c θ b = 0 := fun b hb => EV_0 hS.2.1 θ 400 _ hb
      rw [z a (fun i => h i (Nat.zero_le i)), z 0 (co_0 hS)]
      grind⟩
  | m + 1, n + 1, a, hn, h, hv => by
    obtain ⟨q, k, q1, q2⟩ := lin_dv hS X n a h
    have hp : ∀ θ : R, PH co c θ a = (θ + c (-X)) * PH co c θ q + c k := fun θ => by
      rw [q2, PH_add hS, PH_mul hS θ (lin_Dg hS (-X)) q1 (by omega), PH_add hS, PH_x hS, PH_c hS, PH_c hS]
    have e0 : (c X + tp 1) + c (-X) = tp 1 := by rw [c_neg hS.2.1]; grind
    have k0 : c k = 0 := by
      have := hv 0 (by omega)
      rw [hp, e0, hS.2.2.2.1, co_t hS, if_neg (by omega), hS.2.2.2.2.2.1, if_pos rfl, Int.zero_add, Int.emod_emod] at this
      rw [← hS.2.1.2.2.1, this, hS.2.1.2.2.2.1]
    have hq : VZ co (PH co c (c X + tp 1) q) m := fun t ht => by
      have := hv (t + 1) (by omega)
      rw [hp, e0, k0, show tp 1 * PH co c (c X + tp 1) q + 0 = tp 1 * PH co c (c X + tp 1) q by grind, co_t hS, if_pos (by omega), Nat.add_sub_cancel] at this
      exact this
    obtain ⟨r, r1, r2, r3⟩ := lin_pw hS X m n q (by omega) q1 hq
    refine ⟨r, by rw [show n + 1 - (m + 1) = n - m from by omega]; exact r1, fun h0 => by rw [q2, k0, r2 h0]; grind, fun θ => ?_⟩
    rw [hp, k0, r3, Lean.Grind.Semiring.pow_succ]
    grind
/-- a polynomial that is not 0 has not more roots than its degree -/
theorem deg_roots {R : Type} [Lean.Grind.CommRing R] {p : Int} {co : R → Nat → Int} {c : Int → R} {tp : Nat → R} (hS : SerR p co c tp) {C : Nat → Nat} {N : Nat} {a : R} (hN : N ≤ 380) (ha : Dg co a (N + 1)) (h0 : a ≠ 0) (hv : ∀ x : Nat, (x : Int) < p → VZ co (PH co c (c x + tp 1) a) (C x)) : smT p.toNat (fun x => (C x : Int)) ≤ N := by
  have hr := hS.1.rg
  have key : ∀ k : Nat, k ≤ p.toNat → ∃ q : R, q ≠ 0 ∧ (∃ n : Nat, Dg co q n ∧ n ≤ N + 1 ∧ ((n : Int) + smT k (fun x => (C x : Int)) ≤ N + 1 ∨ n = 0)) ∧ ∀ x : Nat, k ≤ x → (x : Int) < p → VZ co (PH co c (c x + tp 1) q) (C x) := by
    intro k
    induction k with
    | zero => exact fun _ => ⟨a, h0, ⟨N + 1, ha, Nat.le_refl _, Or.inl (by show ((N + 1 : Nat) : Int) + 0 ≤ _; omega)⟩, fun x _ hx => hv x hx⟩
    | succ k ih =>
      intro hk
      obtain ⟨q, q0, ⟨n, n1, n2, n3⟩, q2⟩ := ih (by omega)
      obtain ⟨r, r1, r2, r3⟩ := lin_pw hS k (C k) n q (by omega) n1 (q2 k (Nat.le_refl k) (by omega))
      refine ⟨r, fun e => q0 (r2 e), ⟨n - C k, r1, by omega, ?_⟩, fun x hx hxp => ?_⟩
      · show ((n - C k : Nat) : Int) + (smT k (fun x => (C x : Int)) + (C k : Int)) ≤ N + 1 ∨ n - C k = 0
        omega
      · have h := q2 x (by omega) hxp
        rw [r3] at h
        have ho : OrS co ((c x + tp 1) + c (-(k : Int))) 0 := by
          refine ⟨fun j hj => by omega, ?_⟩
          rw [hS.2.2.2.1, th_0 hS x (Nat.le_refl 1), hS.2.2.2.2.2.1, if_pos rfl, ← Int.add_emod, Int.emod_eq_of_lt (by omega) (by omega)]
          omega
        have hop := OrS.pow hS ho (C k)
        rw [Nat.zero_mul] at hop
        rw [show ((c x + tp 1) + c (-(k : Int))) ^ C k * PH co c (c x + tp 1) r = PH co c (c x + tp 1) r * ((c x + tp 1) + c (-(k : Int))) ^ C k by grind] at h
        exact VZ.div hS h hop
  obtain ⟨q, q0, ⟨n, n1, n2, n3⟩, -⟩ := key p.toNat (Nat.le_refl _)
  rcases n3 with h | h
  · have : n ≠ 0 := fun e => q0 (hS.2.2.2.2.2.2.2.1 _ _ (fun i => by rw [n1 i (by omega), co_0 hS]))
    omega
  · exact absurd (hS.2.2.2.2.2.2.2.1 _ _ (fun i => by rw [n1 i (by omega), co_0 hS])) q0
