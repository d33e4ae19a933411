/-! ===== values in the field of two ===== -/
def Pq (R : Type) : Type := R × R
def nC {R : Type} [Lean.Grind.CommRing R] (m : Nat) : R := @Nat.cast R Lean.Grind.Semiring.natCast m
def iC {R : Type} [Lean.Grind.CommRing R] (m : Int) : R := @Int.cast R Lean.Grind.Ring.intCast m
def prPow {R : Type} [Lean.Grind.CommRing R] (d : R) (a : R × R) : Nat → R × R
  | 0 => ((nC 1 : R), 0)
  | m + 1 => muS d (prPow d a m) a
theorem pr_0 {R : Type} [Lean.Grind.CommRing R] : (nC 0 : R) = 0 := Lean.Grind.Semiring.natCast_zero
theorem pr_1 {R : Type} [Lean.Grind.CommRing R] : (nC 1 : R) = 1 := Lean.Grind.Semiring.natCast_one
theorem pr_s {R : Type} [Lean.Grind.CommRing R] (m : Nat) : (nC (m + 1) : R) = nC m + nC 1 := by
  rw [pr_1]; exact Lean.Grind.Semiring.natCast_succ m
theorem pr_n {R : Type} [Lean.Grind.CommRing R] (m : Int) : (iC (-m) : R) = -(iC m) := Lean.Grind.Ring.intCast_neg m
theorem pr_i {R : Type} [Lean.Grind.CommRing R] (n : Nat) : (iC (n : Int) : R) = nC n := Lean.Grind.Ring.intCast_natCast n
def prRing {R : Type} [Lean.Grind.CommRing R] (d : R) : Lean.Grind.CommRing (Pq R) where
  add a b := adS a b
  mul a b := muS d a b
  neg a := (-a.1, -a.2)
  sub a b := (a.1 - b.1, a.2 - b.2)
  natCast := ⟨fun m => (nC m, 0)⟩
  ofNat m := ⟨(nC m, 0)⟩
  nsmul := ⟨fun m a => muS d (nC m, 0) a⟩
  npow := ⟨fun a m => prPow d a m⟩
  intCast := ⟨fun m => (iC m, 0)⟩
  zsmul := ⟨fun m a => muS d (iC m, 0) a⟩
  add_zero a := Prod.ext (by show a.1 + (nC 0 : R) = a.1; rw [pr_0]; grind) (by show a.2 + 0 = a.2; grind)
  add_comm a b := Prod.ext (by show a.1 + b.1 = b.1 + a.1; grind) (by show a.2 + b.2 = b.2 + a.2; grind)
  add_assoc a b c := Prod.ext (by show a.1 + b.1 + c.1 = a.1 + (b.1 + c.1); grind) (by show a.2 + b.2 + c.2 = a.2 + (b.2 + c.2); grind)
  mul_assoc a b c := muS_assoc d a b c
  mul_one a := Prod.ext (by show a.1 * (nC 1 : R) + d * (a.2 * 0) = a.1; rw [pr_1]; grind) (by show a.1 * 0 + a.2 * (nC 1 : R) = a.2; rw [pr_1]; grind)
  one_mul a := Prod.ext (by show (nC 1 : R) * a.1 + d * (0 * a.2) = a.1; rw [pr_1]; grind) (by show (nC 1 : R) * a.2 + 0 * a.1 = a.2; rw [pr_1]; grind)
  right_distrib a b c := muS_add' d c a b
  mul_zero a := Prod.ext (by show a.1 * (nC 0 : R) + d * (a.2 * 0) = (nC 0 : R); rw [pr_0]; grind) (by show a.1 * 0 + a.2 * (nC 0 : R) = 0; rw [pr_0]; grind)
  left_distrib a b c := muS_add d a b c
  zero_mul a := Prod.ext (by show (nC 0 : R) * a.1 + d * (0 * a.2) = (nC 0 : R); rw [pr_0]; grind) (by show (nC 0 : R) * a.2 + 0 * a.1 = 0; rw [pr_0]; grind)
  mul_comm a b := muS_comm d a b
  pow_zero a := rfl
  pow_succ a m := rfl
  ofNat_succ m := Prod.ext (by show (nC (m + 1) : R) = nC m + nC 1; exact pr_s m) (by show (0 : R) = 0 + 0; grind)
  neg_add_cancel a := Prod.ext (by show -a.1 + a.1 = (nC 0 : R); rw [pr_0]; grind) (by show -a.2 + a.2 = 0; grind)
  sub_eq_add_neg a b := Prod.ext (by show a.1 - b.1 = a.1 + -b.1; grind) (by show a.2 - b.2 = a.2 + -b.2; grind)
  neg_zsmul m a := Prod.ext (by show (iC (-m) : R) * a.1 + d * (0 * a.2) = -((iC m : R) * a.1 + d * (0 * a.2)); rw [pr_n]; grind) (by show (iC (-m) : R) * a.2 + 0 * a.1 = -((iC m : R) * a.2 + 0 * a.1); rw [pr_n]; grind)
  intCast_neg m := Prod.ext (by show (iC (-m) : R) = -(iC m : R); exact pr_n m) (by show (0 : R) = -0; grind)
  zsmul_natCast_eq_nsmul n a := by show muS d (iC (n : Int), 0) a = muS d (nC n, 0) a; rw [pr_i]
  intCast_ofNat n := Prod.ext (by show (iC (n : Int) : R) = nC n; exact pr_i n) rfl
theorem hqv {Q : Type} [Lean.Grind.CommRing Q] {p d : Int} {c : Int → Q} {w : Q} (h : CM p c) (hw : w * w = c d) {F : Nat → Int} {s t : Int} : ∀ (n : Nat) (u v : Int), c (hq p d F s t n (u, v)).1 + c (hq p d F s t n (u, v)).2 * w = (c s + c t * w) ^ n * (c u + c v * w) + EV c (c s + c t * w) n F
  | 0, u, v => by
    show c u + c v * w = (c s + c t * w) ^ 0 * (c u + c v * w) + 0
    rw [Lean.Grind.Semiring.pow_zero]; grind
  | n + 1, u, v => by
    have ih := hqv h hw (F := F) (s := s) (t := t) n ((u * s + d * (v * t % p) + F n) % p) ((u * t + v * s) % p)
    show c (hq p d F s t n ((u * s + d * (v * t % p) + F n) % p, (u * t + v * s) % p)).1 + c (hq p d F s t n ((u * s + d * (v * t % p) + F n) % p, (u * t + v * s) % p)).2 * w = _
    rw [ih, EV_suc h, Lean.Grind.Semiring.pow_succ, h.2.2.1, h.2.2.1, h.1, h.1, h.2.1, h.2.1, h.2.2.1, h.2.1, h.1, h.2.1, h.2.1]
    generalize EV c (c s + c t * w) n F = E
    generalize (c s + c t * w) ^ n = Θ
    have : Θ * (c s + c t * w) * (c u + c v * w) = Θ * (c u * c s + (w * w) * (c v * c t) + (c u * c t + c v * c s) * w) := by clear hw ih; grind
    rw [this, hw]
    clear hw ih this
    grind
/-- the rest by U tells the value at a root of U -/
theorem rest_ev {Q : Type} [Lean.Grind.CommRing Q] {p : Int} {c : Int → Q} (h : CM p c) {θ : Q} {F U q r : Nat → Int} (hU : Dlt U 3) (hq : Dlt q 21) (hr : Dlt r 2) (e : F = padd p (pmul p U q) r 1) (z : c (U 0) + θ * (c (U 1) + θ * c (U 2)) = 0) : EV c θ 24 F = c (r 0) + θ * c (r 1) := by
  rw [e, EV_padd h, EV_pmul h θ hU hq (by decide), EV_bd h θ (show 3 ≤ 24 by decide) hU, EV_bd h θ (show 2 ≤ 24 by decide) hr, h.2.2.2.2]
  have e1 : EV c θ 3 U = c (U 0) + θ * (c (U 1) + θ * c (U 2)) := by
    show c (U 0) + θ * (c (U 1) + θ * (c (U 2) + θ * 0)) = _
    clear z; grind
  have e2 : EV c θ 2 r = c (r 0) + θ * c (r 1) := by
    show c (r 0) + θ * (c (r 1) + θ * 0) = _
    clear z e1; grind
  rw [e1, e2, z]
  clear z e1 e2
  grind
theorem uqd_div {p : Int} {F : Nat → Int} (hC : CF p (gen F) F) (u0 u1 : Int) (h0 : 0 ≤ u0 ∧ u0 < p) (h1 : 0 ≤ u1 ∧ u1 < p) : ∃ q : Nat → Int, Dlt q 21 ∧ Dlt (dvR p F (uqd u0 u1)) 2 ∧ F = padd p (pmul p (uqd u0 u1) q) (dvR p F (uqd u0 u1)) 1 := by
  have hp := hC.1
  have hr := hp.rg
  have hpd := hC.2.2.2.1
  have hg := hC.2.2.2.2
  have pU := uqd_pd u0 u1
  have fU : Fin (uqd u0 u1) := fun i hi => by unfold uqd; rw [if_neg (by omega), if_neg (by omega), if_neg (by omega)]
  have iU : InP p (uqd u0 u1) := fun i => by
    unfold uqd
    split
    · exact h0
    · split
      · exact h1
      · split <;> omega
  refine ⟨dvQ p F (uqd u0 u1), fun i hi => ?_, fun i hi => ?_, dv_id hC.2.1 fU (by omega)⟩
  · have := pd_dvQ (p := p) (f := F) (g := uqd u0 u1)
    exact pd_hi (dvq_fin (by omega)) i (by omega)
  · have := pd_dvR_lt hp hC.2.2.1 iU (by omega)
    exact pd_hi (dvr_fin hC.2.2.1 (by omega)) i (by omega)
theorem c_up {Q : Type} [Lean.Grind.CommRing Q] {p : Int} {c : Int → Q} (h : CM p c) (s t d : Int) : c ((s * s - d * (t * t)) % p) = c s * c s - c d * (c t * c t) ∧ c ((-2 * s) % p) = -(c s + c s) := by
  constructor
  · rw [h.2.2.1, c_sub h, h.2.1, h.2.1, h.2.1]
  · rw [h.2.2.1, show -2 * s = -(s + s) by omega, c_neg h, h.1]
theorem uqd_3 (u0 u1 : Int) : Dlt (uqd u0 u1) 3 := fun i hi => by unfold uqd; rw [if_neg (by omega), if_neg (by omega), if_neg (by omega)]
theorem hq_rgz {p d : Int} (hp : 0 < p) {F : Nat → Int} {s t : Int} : ∀ (n : Nat) (w : Int × Int), (0 ≤ w.1 ∧ w.1 < p) ∧ (0 ≤ w.2 ∧ w.2 < p) → (0 ≤ (hq p d F s t n w).1 ∧ (hq p d F s t n w).1 < p) ∧ (0 ≤ (hq p d F s t n w).2 ∧ (hq p d F s t n w).2 < p)
  | 0, w, h => h
  | n + 1, w, _ => hq_rgz hp n _ ⟨emr _ hp, emr _ hp⟩
/-- the value at s + t w by the rest -/
theorem hq_rest {p d : Int} {F : Nat → Int} (hC : CF p (gen F) F) (s t : Int) : hq p d F s t 24 (0, 0) = ((dvR p F (uqd ((s * s - d * (t * t)) % p) ((-2 * s) % p)) 0 + s * dvR p F (uqd ((s * s - d * (t * t)) % p) ((-2 * s) % p)) 1) % p, (t * dvR p F (uqd ((s * s - d * (t * t)) % p) ((-2 * s) % p)) 1) % p) :=
  with_ser hC.1 (fun S _ cs c tp hS => by
    have hr := hC.1.rg
    obtain ⟨q, q1, q2, q3⟩ := uqd_div hC ((s * s - d * (t * t)) % p) ((-2 * s) % p) (emr _ (by omega)) (emr _ (by omega))
    generalize dvR p F (uqd ((s * s - d * (t * t)) % p) ((-2 * s) % p)) = r at *
    have key : ∀ (_ : Lean.Grind.CommRing (Pq S)) (c' : Int → Pq S) (w : Pq S), CM p c' → w * w = c' d → (∀ a b x y : Int, c' a + c' b * w = c' x + c' y * w → c a = c x ∧ c b = c y) → c (hq p d F s t 24 (0, 0)).1 = c (r 0 + s * r 1) ∧ c (hq p d F s t 24 (0, 0)).2 = c (t * r 1) := fun _ c' w h hw inj => by
      have e1 := hqv h hw (F := F) (s := s) (t := t) 24 0 0
      obtain ⟨k1, k2⟩ := c_up h s t d
      have e2 := rest_ev h (θ := c' s + c' t * w) (uqd_3 _ _) q1 q2 q3 (by
        show c' ((s * s - d * (t * t)) % p) + (c' s + c' t * w) * (c' ((-2 * s) % p) + (c' s + c' t * w) * c' 1) = 0
        rw [k1, k2, h.2.2.2.2]
        have : c' s * c' s - c' d * (c' t * c' t) + (c' s + c' t * w) * (-(c' s + c' s) + (c' s + c' t * w) * 1) = (w * w) * (c' t * c' t) - c' d * (c' t * c' t) := by clear hw e1 k1 k2; grind
        rw [this, hw]
        clear hw e1 k1 k2 this
        grind)
      rw [e2, h.2.2.2.1] at e1
      refine inj _ _ _ _ ?_
      rw [e1, h.1, h.2.1, h.2.1]
      clear hw e1 e2 k1 k2
      grind
    have fin := key (prRing (c d)) (fun a => (c a, 0)) (0, 1) ?_ ?_ ?_
    · have g := hq_rgz (p := p) (d := d) (F := F) (s := s) (t := t) (by omega) 24 (0, 0) ⟨⟨by decide, by show (0 : Int) < p; omega⟩, ⟨by decide, by show (0 : Int) < p; omega⟩⟩
      have a1 := c_inj hS fin.1
      have a2 := c_inj hS fin.2
      rw [Int.emod_eq_of_lt g.1.1 g.1.2] at a1
      rw [Int.emod_eq_of_lt g.2.1 g.2.2] at a2
      exact Prod.ext a1 a2
    · have h := hS.2.1
      refine ⟨fun a b => Prod.ext ?_ ?_, fun a b => Prod.ext ?_ ?_, fun a => Prod.ext ?_ rfl, Prod.ext ?_ rfl, Prod.ext ?_ rfl⟩
      · show c (a + b) = c a + c b; exact h.1 a b
      · show (0 : S) = 0 + 0; grind
      · show c (a * b) = c a * c b + c d * (0 * 0); rw [h.2.1]; grind
      · show (0 : S) = c a * 0 + 0 * c b; grind
      · show c (a % p) = c a; exact h.2.2.1 a
      · show c 0 = (nC 0 : S); rw [h.2.2.2.1, pr_0]
      · show c 1 = (nC 1 : S); rw [h.2.2.2.2, pr_1]
    · refine Prod.ext ?_ ?_
      · show (0 : S) * 0 + c d * (1 * 1) = c d; grind
      · show (0 : S) * 1 + 1 * 0 = 0; grind
    · intro a b x y h
      have h1 : c a + (c b * 0 + c d * (0 * 1)) = c x + (c y * 0 + c d * (0 * 1)) := congrArg Prod.fst h
      have h2 : (0 : S) + (c b * 1 + 0 * 0) = 0 + (c y * 1 + 0 * 0) := congrArg Prod.snd h
      exact ⟨by grind, by grind⟩)
theorem ev_rest {p : Int} {F : Nat → Int} (hC : CF p (gen F) F) (a b : Int) : ev p F a = (dvR p F (uqd ((a * b) % p) ((-(a + b)) % p)) 0 + a * dvR p F (uqd ((a * b) % p) ((-(a + b)) % p)) 1) % p :=
  with_ser hC.1 (fun S _ cs c tp hS => by
    have hr := hC.1.rg
    have h := hS.2.1
    obtain ⟨q, q1, q2, q3⟩ := uqd_div hC ((a * b) % p) ((-(a + b)) % p) (emr _ (by omega)) (emr _ (by omega))
    generalize dvR p F (uqd ((a * b) % p) ((-(a + b)) % p)) = r at *
    have e2 := rest_ev h (θ := c a) (uqd_3 _ _) q1 q2 q3 (by
      show c ((a * b) % p) + c a * (c ((-(a + b)) % p) + c a * c 1) = 0
      rw [h.2.2.1, h.2.2.1, c_neg h, h.1, h.2.1, h.2.2.2.2]; grind)
    rw [ev_c hS, ← h.2.1, ← h.1] at e2
    have := c_inj hS e2
    rw [Int.emod_eq_of_lt (ev_rg (by omega) F a).1 (ev_rg (by omega) F a).2] at this
    exact this)
