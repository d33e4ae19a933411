/-! ===== CLASSES: their number by counts ===== -/
theorem S2_val (Φ : Int → Int → Int) {p a b : Int} (ha : 0 ≤ a ∧ a < p) (hb : 0 ≤ b ∧ b < p) : S2 p (fun x y => (if a = x ∧ b = y then 1 else 0) * Φ x y) = Φ a b := by
  unfold S2
  rw [smT_ext (g := fun i : Nat => (if a = (i : Int) then 1 else 0) * Φ i b) (fun i _ => ?_)]
  · exact smT_val (fun x => Φ x b) ha
  · rw [smT_ext (g := fun j : Nat => (if b = (j : Int) then 1 else 0) * ((if a = (i : Int) then 1 else 0) * Φ i j)) (fun j _ => ?_)]
    · exact smT_val (fun y => (if a = (i : Int) then 1 else 0) * Φ i y) hb
    · show (if a = (i : Int) ∧ b = (j : Int) then (1 : Int) else 0) * Φ i j = (if b = (j : Int) then 1 else 0) * ((if a = (i : Int) then 1 else 0) * Φ i j)
      by_cases c1 : a = (i : Int)
      · by_cases c2 : b = (j : Int)
        · rw [if_pos ⟨c1, c2⟩, if_pos c1, if_pos c2, Int.one_mul, Int.one_mul]
        · rw [if_neg (fun e => c2 e.2), if_neg c2, Int.zero_mul, Int.zero_mul]
      · rw [if_neg (fun e => c1 e.1), if_neg c1, Int.zero_mul, Int.mul_zero]
theorem S2_ext {p : Int} {φ ψ : Int → Int → Int} (h : ∀ i j : Nat, i < p.toNat → j < p.toNat → φ i j = ψ i j) : S2 p φ = S2 p ψ := smT_ext (fun i hi => smT_ext (fun j hj => h i j hi hj))
theorem S2_swap (p : Int) (A : Int → Int → Int → Int → Int) : S2 p (fun i j => S2 p (fun x y => A i j x y)) = S2 p (fun x y => S2 p (fun i j => A i j x y)) := by
  unfold S2
  rw [smT_ext (f := fun i : Nat => smT p.toNat (fun j : Nat => smT p.toNat (fun x : Nat => smT p.toNat (fun y : Nat => A i j x y)))) (g := fun i : Nat => smT p.toNat (fun x : Nat => smT p.toNat (fun j : Nat => smT p.toNat (fun y : Nat => A i j x y)))) (fun i _ => smT_swap (fun j x : Nat => smT p.toNat (fun y : Nat => A i j x y)) p.toNat p.toNat)]
  rw [smT_swap (fun i x : Nat => smT p.toNat (fun j : Nat => smT p.toNat (fun y : Nat => A i j x y)))]
  refine smT_ext (fun x _ => ?_)
  rw [smT_ext (f := fun i : Nat => smT p.toNat (fun j : Nat => smT p.toNat (fun y : Nat => A i j x y))) (g := fun i : Nat => smT p.toNat (fun y : Nat => smT p.toNat (fun j : Nat => A i j x y))) (fun i _ => smT_swap (fun j y : Nat => A i j x y) p.toNat p.toNat)]
  exact smT_swap (fun i y : Nat => smT p.toNat (fun j : Nat => A i j x y)) p.toNat p.toNat
theorem S2_c (p : Int) (B : Int → Int → Int) (k : Int) : S2 p (fun i j => B i j * k) = S2 p B * k := by
  unfold S2
  rw [← smT_c]
  exact smT_ext (fun i _ => smT_c (fun j => B i j) k p.toNat)
theorem S2_add (p : Int) (B C : Int → Int → Int) : S2 p (fun i j => B i j + C i j) = S2 p B + S2 p C := by
  have one : ∀ (f h : Nat → Int) (n : Nat), smT n (fun i => f i + h i) = smT n f + smT n h := fun f h n => by
    have := smT_lin f h 1 1 n
    rw [Int.one_mul, Int.one_mul] at this
    rw [← this]
    exact smT_ext (fun i _ => by rw [Int.one_mul, Int.one_mul])
  unfold S2
  rw [← one]
  exact smT_ext (fun i _ => one _ _ _)
theorem regroup {p : Int} (Φ : Int → Int → Int) {h k : Int → Int → Int} (hh : ∀ i j : Nat, i < p.toNat → j < p.toNat → (0 ≤ h i j ∧ h i j < p) ∧ (0 ≤ k i j ∧ k i j < p)) : S2 p (fun i j => Φ (h i j) (k i j)) = S2 p (fun x y => S2 p (fun i j => if h i j = x ∧ k i j = y then 1 else 0) * Φ x y) := by
  rw [S2_ext (φ := fun i j => Φ (h i j) (k i j)) (ψ := fun i j => S2 p (fun x y => (if h i j = x ∧ k i j = y then 1 else 0) * Φ x y)) (fun i j hi hj => (S2_val Φ (hh i j hi hj).1 (hh i j hi hj).2).symm)]
  rw [S2_swap p (fun i j x y => (if h i j = x ∧ k i j = y then 1 else 0) * Φ x y)]
  exact S2_ext (fun x y _ _ => S2_c p (fun i j => if h i j = x ∧ k i j = y then 1 else 0) (Φ x y))
theorem tR_p {p : Int} (hp : IsP p) {x y : Nat} (hx : x < p.toNat) (hy : y < p.toNat) : S2 p (fun s t => if (s * s - nsq p * (t * t)) % p = (x : Int) ∧ (-2 * s) % p = (y : Int) then 1 else 0) + S2 p (fun a b => if (a * b) % p = (x : Int) ∧ (-(a + b)) % p = (y : Int) then 1 else 0) = 2 := by
  rcases hp with rfl | rfl | rfl | rfl | rfl
  · rw [nsq_3]; exact tR_3 x hx y hy
  · rw [nsq_5]; exact tR_5 x hx y hy
  · rw [nsq_7]; exact tR_7 x hx y hy
  · rw [nsq_11]; exact tR_11 x hx y hy
  · rw [nsq_13]; exact tR_13 x hx y hy
theorem tI_p {p : Int} (hp : IsP p) {u v : Int} (hu : 0 ≤ u ∧ u < p) (hv : 0 ≤ v ∧ v < p) : NS p (nsq p) u v = if u = 0 ∧ v = 0 then 1 else if sq p ((u * u - nsq p * (v * v % p)) % p) = 0 then 0 else 2 := by
  obtain ⟨a, rfl⟩ := Int.eq_ofNat_of_zero_le hu.1
  obtain ⟨b, rfl⟩ := Int.eq_ofNat_of_zero_le hv.1
  rcases hp with rfl | rfl | rfl | rfl | rfl
  · rw [nsq_3]; exact tI_3 a (by omega) b (by omega)
  · rw [nsq_5]; exact tI_5 a (by omega) b (by omega)
  · rw [nsq_7]; exact tI_7 a (by omega) b (by omega)
  · rw [nsq_11]; exact tI_11 a (by omega) b (by omega)
  · rw [nsq_13]; exact tI_13 a (by omega) b (by omega)
theorem tD_p {p : Int} (hp : IsP p) {u v : Int} (hu : 0 ≤ u ∧ u < p) (hv : 0 ≤ v ∧ v < p) : ND p u v = if u = 0 then (if v = 0 then p else 0) else nY p u := by
  obtain ⟨a, rfl⟩ := Int.eq_ofNat_of_zero_le hu.1
  obtain ⟨b, rfl⟩ := Int.eq_ofNat_of_zero_le hv.1
  rcases hp with rfl | rfl | rfl | rfl | rfl
  · exact tD_3 a (by omega) b (by omega)
  · exact tD_5 a (by omega) b (by omega)
  · exact tD_7 a (by omega) b (by omega)
  · exact tD_11 a (by omega) b (by omega)
  · exact tD_13 a (by omega) b (by omega)
def Dv (p e : Int) : Int := if e = 0 then 0 else nY p e
def pvV (p d u v : Int) : Int := if u = 0 ∧ v = 0 then 1 else if sq p ((u * u - d * (v * v % p)) % p) = 0 then 0 else 2
theorem t0_3 : ∀ e : Nat, e < 3 → 2 * Dv 3 e - pvV 3 2 e 0 - nY 3 e * nY 3 e = -2 := by decide +kernel
theorem t0_5 : ∀ e : Nat, e < 5 → 2 * Dv 5 e - pvV 5 2 e 0 - nY 5 e * nY 5 e = -2 := by decide +kernel
theorem t0_7 : ∀ e : Nat, e < 7 → 2 * Dv 7 e - pvV 7 3 e 0 - nY 7 e * nY 7 e = -2 := by decide +kernel
theorem t0_11 : ∀ e : Nat, e < 11 → 2 * Dv 11 e - pvV 11 2 e 0 - nY 11 e * nY 11 e = -2 := by decide +kernel
theorem t0_13 : ∀ e : Nat, e < 13 → 2 * Dv 13 e - pvV 13 2 e 0 - nY 13 e * nY 13 e = -2 := by decide +kernel
theorem t0_p {p : Int} (hp : IsP p) {e : Int} (he : 0 ≤ e ∧ e < p) : 2 * Dv p e - pvV p (nsq p) e 0 - nY p e * nY p e = -2 := by
  obtain ⟨a, rfl⟩ := Int.eq_ofNat_of_zero_le he.1
  rcases hp with rfl | rfl | rfl | rfl | rfl
  · rw [nsq_3]; exact t0_3 a (by omega)
  · rw [nsq_5]; exact t0_5 a (by omega)
  · rw [nsq_7]; exact t0_7 a (by omega)
  · rw [nsq_11]; exact t0_11 a (by omega)
  · rw [nsq_13]; exact t0_13 a (by omega)
/-- V of U, F's rest by it -/
def Ph (p : Int) (F : Nat → Int) (u0 u1 : Int) : Int := NV p (dvR p F (uqd u0 u1) 0) (dvR p F (uqd u0 u1) 1) u0 u1
theorem lgX_len {p : Int} {F : Nat → Int} (hC : CF p (gen F) F) {u0 : Nat} : ∀ m u1 : Nat, ((lgX p F u0 m u1).length : Int) = smT m (fun k => Ph p F u0 ((u1 + k : Nat) : Int))
  | 0, u1 => rfl
  | m + 1, u1 => by
    have hr := hC.1.rg
    unfold lgX
    rw [List.length_append, smT_fst, smT_ext (f := fun k => Ph p F u0 ((u1 + (k + 1) : Nat) : Int)) (g := fun k => Ph p F u0 ((u1 + 1 + k : Nat) : Int)) (fun k _ => by rw [show u1 + (k + 1) = u1 + 1 + k by omega]), ← lgX_len hC m (u1 + 1)]
    have := krA_len hC.1 (f0 := dvR p F (uqd u0 u1) 0) (f1 := dvR p F (uqd u0 u1) 1) (u0 := (u0 : Int)) (u1 := (u1 : Int)) (dvR_in (p := p) (by omega) hC.2.1 1)
    show ((_ + _ : Nat) : Int) = Ph p F u0 ((u1 : Nat) : Int) + _
    unfold Ph
    omega
theorem lgA_len {p : Int} {F : Nat → Int} (hC : CF p (gen F) F) : ∀ m u0 : Nat, ((lgA p F m u0).length : Int) = smT m (fun k => smT p.toNat (fun j => Ph p F ((u0 + k : Nat) : Int) j))
  | 0, u0 => rfl
  | m + 1, u0 => by
    unfold lgA
    rw [List.length_append, smT_fst, smT_ext (f := fun k => smT p.toNat (fun j : Nat => Ph p F ((u0 + (k + 1) : Nat) : Int) j)) (g := fun k => smT p.toNat (fun j : Nat => Ph p F ((u0 + 1 + k : Nat) : Int) j)) (fun k _ => by rw [show u0 + (k + 1) = u0 + 1 + k by omega]), ← lgA_len hC m (u0 + 1)]
    have := lgX_len hC (u0 := u0) p.toNat 0
    rw [smT_ext (g := fun j : Nat => Ph p F u0 j) (fun k _ => by rw [Nat.zero_add])] at this
    show ((_ + _ : Nat) : Int) = smT p.toNat (fun j : Nat => Ph p F ((u0 : Nat) : Int) j) + _
    omega
theorem rs_1 {R : Type} [Lean.Grind.CommRing R] {L Q : R} : L * L * Q + 0 = L * (L * Q) := by grind
/-- at a double root F's rest is not flat -/
theorem dbl_nz {p : Int} {F : Nat → Int} (hC : CS p (gen F) F) {a : Int} (h : ev p F a = 0) : dvR p F (uqd ((a * a) % p) ((-(a + a)) % p)) 1 ≠ 0 := fun e1 =>
  with_ring hC.1 (fun R _ co f hP ef => by
    subst ef
    have hp := hC.1.1
    have hr := hp.rg
    have er := ev_rest hC.1 a a
    rw [h, e1, Int.mul_zero, Int.add_zero] at er
    have g0 := dvR_in (p := p) (f := co f) (g := uqd ((a * a) % p) ((-(a + a)) % p)) (by omega) hC.1.2.1 0
    rw [Int.emod_eq_of_lt g0.1 g0.2] at er
    obtain ⟨q, q1, q2, q3⟩ := uqd_div hC.1 ((a * a) % p) ((-(a + a)) % p) (emr _ (by omega)) (emr _ (by omega))
    -- x - a, twice
    obtain ⟨L, hL, dL⟩ := hP.mk (f := fun i => if i = 0 then (-a) % p else if i = 1 then 1 else 0) (n := 2) (fun i => by
      show 0 ≤ (if i = 0 then (-a) % p else if i = 1 then 1 else 0) ∧ (if i = 0 then (-a) % p else if i = 1 then 1 else 0) < p
      split
      · exact emr _ (by omega)
      · split <;> omega) (fun i hi => by show (if i = 0 then (-a) % p else if i = 1 then 1 else 0) = 0; rw [if_neg (by omega), if_neg (by omega)])
    have LL : co (L * L) = uqd ((a * a) % p) ((-(a + a)) % p) := by
      rw [cR_mul hP, hL]
      funext i
      rw [pmul_cv]
      by_cases c0 : i = 0
      · rw [c0, cv_0]
        show ((-a) % p * ((-a) % p)) % p = (a * a) % p
        rw [mul_md, Int.mul_comm, mul_md]; congr 1; grind
      · by_cases c1 : i = 1
        · rw [c1]
          have : cv (fun i => if i = 0 then (-a) % p else if i = 1 then 1 else 0) (fun i => if i = 0 then (-a) % p else if i = 1 then 1 else 0) 1 = (-a) % p * 1 + 1 * ((-a) % p) := by
            show 0 + (-a) % p * 1 + 1 * ((-a) % p) = _
            rw [Int.zero_add]
          rw [this, Int.mul_one, Int.one_mul, ← Int.add_emod]
          show (-a + -a) % p = (-(a + a)) % p
          congr 1; omega
        · by_cases c2 : i = 2
          · rw [c2]
            have : cv (fun i => if i = 0 then (-a) % p else if i = 1 then 1 else 0) (fun i => if i = 0 then (-a) % p else if i = 1 then 1 else 0) 2 = 1 := by
              show 0 + (-a) % p * 0 + 1 * 1 + 0 * ((-a) % p) = 1
              rw [Int.mul_zero, Int.zero_mul]; rfl
            rw [this]
            show (1 : Int) % p = 1
            exact Int.emod_eq_of_lt (by decide) (by omega)
          · have d2 : Dlt (fun i : Nat => if i = 0 then (-a) % p else if i = 1 then (1 : Int) else 0) 2 := fun i hi => by show (if i = 0 then (-a) % p else if i = 1 then (1 : Int) else 0) = 0; rw [if_neg (by omega), if_neg (by omega)]
            rw [uqd_3 _ _ i (by omega)]
            by_cases c3 : 4 ≤ i
            · rw [← pmul_cv]; exact dlt_pmul d2 d2 i c3
            · have : i = 3 := by omega
              rw [this]
              have : cv (fun i => if i = 0 then (-a) % p else if i = 1 then 1 else 0) (fun i => if i = 0 then (-a) % p else if i = 1 then 1 else 0) 3 = 0 := by
                show 0 + (-a) % p * 0 + 1 * 0 + 0 * 1 + 0 * ((-a) % p) = 0
                generalize (-a) % p = z
                omega
              rw [this]; rfl
    obtain ⟨Q, r, k1, k2, k3⟩ := cR_div hP (f := f) (g := L * L) hC.1.2.2.1 (by rw [LL]; exact fun i hi => uqd_3 _ _ i (by omega)) (by rw [LL, uqd_pd]; decide)
    rw [LL] at k2
    have r0 : r = 0 := hP.z (fun i _ => by
      rw [k2]
      by_cases c0 : i = 0
      · rw [c0]; exact er.symm
      · by_cases c1 : i = 1
        · rw [c1]; exact e1
        · exact q2 i (by omega))
    have kf : f = L * (L * Q) := k3.trans (by rw [r0]; exact rs_1)
    obtain ⟨u, hu⟩ := sqFr hP (F := f) (q := L) (h := Q) (sqf_ring hP hC.1 hC.2) kf
    have L1 : DE co L 1 := ⟨dL, by rw [hL]; show (1 : Int) ≠ 0; decide⟩
    have u0 : u ≠ 0 := fun e => hP.one (by rw [← hu, e]; grind)
    obtain ⟨m, hm⟩ := DE.ex' hP u0
    have dd := L1.mul hP hm
    rw [hu] at dd
    exact dd.2 (by rw [hP.2.2.2.2.2.1, if_neg (by omega)]))
