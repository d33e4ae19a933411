/-! ===== polynomials form a ring: degrees, division, what two have in common, slopes ===== -/
def Py (p : Int) : Type := {f : Nat → Int // InP p f ∧ ∃ n : Nat, Dlt f n}
theorem dlt_padd {p : Int} {f g : Nat → Int} {c : Int} {n m : Nat} (hf : Dlt f n) (hg : Dlt g m) : Dlt (padd p f g c) (n + m) := fun i hi => by
  unfold padd; rw [hf i (by omega), hg i (by omega), Int.mul_zero]; rfl
theorem dlt_pmul {p : Int} {f g : Nat → Int} {n m : Nat} (hf : Dlt f n) (hg : Dlt g m) : Dlt (pmul p f g) (n + m) := fun i hi => by
  rw [pmul_cv]
  unfold cv
  rw [smT_zero (fun j hj => by
    show f j * g (i - j) = 0
    by_cases c1 : n ≤ j
    · rw [hf j c1, Int.zero_mul]
    · rw [hg (i - j) (by omega), Int.mul_zero])]
  rfl
theorem dlt_pscl {p : Int} {f : Nat → Int} {c : Int} {n : Nat} (hf : Dlt f n) : Dlt (pscl p f c) n := fun i hi => by
  unfold pscl; rw [hf i hi, Int.zero_mul]; rfl
theorem dlt_cst {p c : Int} : Dlt (cstR p c) 1 := fun i hi => by unfold cstR; rw [if_neg (by omega)]
def pyAdd {p : Int} (hp : 1 < p) (c : Int) (a b : Py p) : Py p := ⟨padd p a.1 b.1 c, padd_in (by omega), by
  obtain ⟨n, hn⟩ := a.2.2
  obtain ⟨m, hm⟩ := b.2.2
  exact ⟨_, dlt_padd hn hm⟩⟩
def pyMul {p : Int} (hp : 1 < p) (a b : Py p) : Py p := ⟨pmul p a.1 b.1, pmul_in (by omega), by
  obtain ⟨n, hn⟩ := a.2.2
  obtain ⟨m, hm⟩ := b.2.2
  exact ⟨_, dlt_pmul hn hm⟩⟩
def pyCst {p : Int} (hp : 1 < p) (c : Int) : Py p := ⟨cstR p c, cstR_in (by omega) c, 1, dlt_cst⟩
def pyNeg {p : Int} (hp : 1 < p) (a : Py p) : Py p := ⟨pscl p a.1 (-1), pscl_in (by omega), by
  obtain ⟨n, hn⟩ := a.2.2
  exact ⟨_, dlt_pscl hn⟩⟩
def pyPow {p : Int} (hp : 1 < p) (a : Py p) : Nat → Py p
  | 0 => pyCst hp 1
  | m + 1 => pyMul hp (pyPow hp a m) a
def pyS {p : Int} (a : Py p) : Sr p := ⟨a.1, a.2.1⟩
def pyRing {p : Int} (hp : 1 < p) : Lean.Grind.CommRing (Py p) where
  add a b := pyAdd hp 1 a b
  mul a b := pyMul hp a b
  neg a := pyNeg hp a
  sub a b := pyAdd hp (-1) a b
  natCast := ⟨fun m => pyCst hp m⟩
  ofNat m := ⟨pyCst hp m⟩
  nsmul := ⟨fun m a => pyMul hp (pyCst hp m) a⟩
  npow := ⟨fun a m => pyPow hp a m⟩
  intCast := ⟨fun m => pyCst hp m⟩
  zsmul := ⟨fun m a => pyMul hp (pyCst hp m) a⟩
  add_zero a := Subtype.ext (by have h := congrArg (fun z : Sr p => z.1) ((srRing hp).add_zero (pyS a)); exact h)
  add_comm a b := Subtype.ext (by have h := congrArg (fun z : Sr p => z.1) ((srRing hp).add_comm (pyS a) (pyS b)); exact h)
  add_assoc a b c := Subtype.ext (by have h := congrArg (fun z : Sr p => z.1) ((srRing hp).add_assoc (pyS a) (pyS b) (pyS c)); exact h)
  mul_assoc a b c := Subtype.ext (by have h := congrArg (fun z : Sr p => z.1) ((srRing hp).mul_assoc (pyS a) (pyS b) (pyS c)); exact h)
  mul_one a := Subtype.ext (by have h := congrArg (fun z : Sr p => z.1) ((srRing hp).mul_one (pyS a)); exact h)
  one_mul a := Subtype.ext (by have h := congrArg (fun z : Sr p => z.1) ((srRing hp).one_mul (pyS a)); exact h)
  right_distrib a b c := Subtype.ext (by have h := congrArg (fun z : Sr p => z.1) ((srRing hp).right_distrib (pyS a) (pyS b) (pyS c)); exact h)
  mul_zero a := Subtype.ext (by have h := congrArg (fun z : Sr p => z.1) ((srRing hp).mul_zero (pyS a)); exact h)
  left_distrib a b c := Subtype.ext (by have h := congrArg (fun z : Sr p => z.1) ((srRing hp).left_distrib (pyS a) (pyS b) (pyS c)); exact h)
  zero_mul a := Subtype.ext (by have h := congrArg (fun z : Sr p => z.1) ((srRing hp).zero_mul (pyS a)); exact h)
  mul_comm a b := Subtype.ext (by have h := congrArg (fun z : Sr p => z.1) ((srRing hp).mul_comm (pyS a) (pyS b)); exact h)
  pow_zero a := rfl
  pow_succ a m := rfl
  ofNat_succ m := Subtype.ext (by have h := congrArg (fun z : Sr p => z.1) ((srRing hp).ofNat_succ m); exact h)
  neg_add_cancel a := Subtype.ext (by have h := congrArg (fun z : Sr p => z.1) ((srRing hp).neg_add_cancel (pyS a)); exact h)
  sub_eq_add_neg a b := Subtype.ext (by have h := congrArg (fun z : Sr p => z.1) ((srRing hp).sub_eq_add_neg (pyS a) (pyS b)); exact h)
  neg_zsmul m a := Subtype.ext (by have h := congrArg (fun z : Sr p => z.1) ((srRing hp).neg_zsmul m (pyS a)); exact h)
  intCast_neg m := Subtype.ext (by have h := congrArg (fun z : Sr p => z.1) ((srRing hp).intCast_neg m); exact h)
def PolR {R : Type} [Lean.Grind.CommRing R] (p : Int) (co : R → Nat → Int) : Prop :=
  IsP p ∧ (∀ a i, 0 ≤ co a i ∧ co a i < p) ∧ (∀ a b i, co (a + b) i = (co a i + co b i) % p) ∧ (∀ a b i, co (a * b) i = cv (co a) (co b) i % p) ∧ (∀ i, co (0 : R) i = 0) ∧ (∀ i, co (1 : R) i = if i = 0 then 1 else 0) ∧ (∀ a b, (∀ i, co a i = co b i) → a = b) ∧ (∀ a : R, ∃ n : Nat, Dg co a n) ∧ ∀ f : Nat → Int, InP p f → (∃ n : Nat, Dlt f n) → ∃ a : R, ∀ i, co a i = f i
theorem py_Pol {p : Int} (hq : IsP p) (hp : 1 < p) : @PolR (Py p) (pyRing hp) p Subtype.val := by
  refine ⟨hq, fun a i => a.2.1 i, fun a b i => ?_, fun a b i => ?_, fun i => ?_, fun i => ?_, fun a b h => Subtype.ext (funext h), fun a => a.2.2, fun f h1 h2 => ⟨⟨f, h1, h2⟩, fun _ => rfl⟩⟩
  · show (a.1 i + 1 * b.1 i) % p = _
    rw [Int.one_mul]
  · show pmul p a.1 b.1 i = _
    exact pmul_cv p a.1 b.1 i
  · show (if i = 0 then ((0 : Nat) : Int) % p else 0) = 0
    split
    · exact Int.zero_emod p
    · rfl
  · show (if i = 0 then ((1 : Nat) : Int) % p else 0) = _
    split
    · exact Int.emod_eq_of_lt (by decide) (by show (1 : Int) < p; exact hp)
    · rfl
theorem PolR.z {R : Type} [Lean.Grind.CommRing R] {p : Int} {co : R → Nat → Int} (hP : PolR p co) {a : R} (h : Dg co a 0) : a = 0 := hP.2.2.2.2.2.2.1 _ _ (fun i => by rw [h i (Nat.zero_le i), hP.2.2.2.2.1])
/-- it has just this degree -/
def DE {R : Type} [Lean.Grind.CommRing R] (co : R → Nat → Int) (a : R) (n : Nat) : Prop := Dg co a (n + 1) ∧ co a n ≠ 0
theorem DE.ex {R : Type} [Lean.Grind.CommRing R] {p : Int} {co : R → Nat → Int} (hP : PolR p co) {a : R} : ∀ n : Nat, Dg co a n → a ≠ 0 → ∃ m : Nat, m < n ∧ DE co a m
  | 0, h, h0 => absurd (hP.z h) h0
  | n + 1, h, h0 => by
    by_cases c : co a n = 0
    · obtain ⟨m, m1, m2⟩ := DE.ex hP n (fun i hi => by
        by_cases ci : i = n
        · rw [ci]; exact c
        · exact h i (by omega)) h0
      exact ⟨m, by omega, m2⟩
    · exact ⟨n, by omega, h, c⟩
theorem DE.ex' {R : Type} [Lean.Grind.CommRing R] {p : Int} {co : R → Nat → Int} (hP : PolR p co) {a : R} (h0 : a ≠ 0) : ∃ m : Nat, DE co a m := by
  obtain ⟨n, hn⟩ := hP.2.2.2.2.2.2.2.1 a
  obtain ⟨m, -, hm⟩ := DE.ex hP n hn h0
  exact ⟨m, hm⟩
theorem DE.ne {R : Type} [Lean.Grind.CommRing R] {p : Int} {co : R → Nat → Int} (hP : PolR p co) {a : R} {n : Nat} (h : DE co a n) : a ≠ 0 := fun e => h.2 (by rw [e]; exact hP.2.2.2.2.1 n)
theorem DE.uni {R : Type} [Lean.Grind.CommRing R] {co : R → Nat → Int} {a : R} {n m : Nat} (h : DE co a n) (k : DE co a m) : n = m := by
  have h1 : ¬ n < m := fun c => k.2 (h.1 m (by omega))
  have h2 : ¬ m < n := fun c => h.2 (k.1 n (by omega))
  omega
theorem DE.le {R : Type} [Lean.Grind.CommRing R] {co : R → Nat → Int} {a : R} {n m : Nat} (h : DE co a n) (k : Dg co a m) : n < m := by
  by_cases c : n < m
  · exact c
  · exact absurd (k n (by omega)) h.2
theorem pDg_mul {R : Type} [Lean.Grind.CommRing R] {p : Int} {co : R → Nat → Int} (hP : PolR p co) {a b : R} {n m : Nat} (ha : Dg co a (n + 1)) (hb : Dg co b (m + 1)) : Dg co (a * b) (n + m + 1) ∧ co (a * b) (n + m) = (co a n * co b m) % p := by
  refine ⟨fun i hi => ?_, ?_⟩
  · rw [hP.2.2.2.1]
    unfold cv
    rw [smT_zero (fun j hj => by
      show co a j * co b (i - j) = 0
      by_cases c1 : n + 1 ≤ j
      · rw [ha j c1, Int.zero_mul]
      · rw [hb (i - j) (by omega), Int.mul_zero])]
    rfl
  · rw [hP.2.2.2.1, cv_top ha hb]
theorem DE.mul {R : Type} [Lean.Grind.CommRing R] {p : Int} {co : R → Nat → Int} (hP : PolR p co) {a b : R} {n m : Nat} (ha : DE co a n) (hb : DE co b m) : DE co (a * b) (n + m) := by
  obtain ⟨h1, h2⟩ := pDg_mul hP ha.1 hb.1
  refine ⟨h1, ?_⟩
  rw [h2]
  have r1 := hP.2.1 a n
  have r2 := hP.2.1 b m
  have n1 := ha.2
  have n2 := hb.2
  exact (nzp hP.1 _ _ ⟨by omega, r1.2⟩ ⟨by omega, r2.2⟩).1
theorem pDg_add {R : Type} [Lean.Grind.CommRing R] {p : Int} {co : R → Nat → Int} (hP : PolR p co) {a b : R} {n : Nat} (ha : Dg co a n) (hb : Dg co b n) : Dg co (a + b) n := fun i hi => by
  rw [hP.2.2.1, ha i hi, hb i hi]; rfl
theorem DE.add {R : Type} [Lean.Grind.CommRing R] {p : Int} {co : R → Nat → Int} (hP : PolR p co) {a b : R} {n : Nat} (ha : DE co a n) (hb : Dg co b n) : DE co (a + b) n := by
  refine ⟨pDg_add hP ha.1 (hb.le (by omega)), ?_⟩
  rw [hP.2.2.1, hb n (Nat.le_refl n), Int.add_zero, Int.emod_eq_of_lt (hP.2.1 a n).1 (hP.2.1 a n).2]
  exact ha.2
theorem PolR.dom {R : Type} [Lean.Grind.CommRing R] {p : Int} {co : R → Nat → Int} (hP : PolR p co) {a b : R} (h : a * b = 0) (ha : a ≠ 0) : b = 0 := by
  by_cases c : b = 0
  · exact c
  · obtain ⟨n, hn⟩ := DE.ex' hP ha
    obtain ⟨m, hm⟩ := DE.ex' hP c
    exact absurd h ((hn.mul hP hm).ne hP)
theorem PolR.can {R : Type} [Lean.Grind.CommRing R] {p : Int} {co : R → Nat → Int} (hP : PolR p co) {a b c : R} (ha : a ≠ 0) (h : a * b = a * c) : b = c := by
  have : b - c = 0 := hP.dom (a := a) (by grind) ha
  grind
theorem PolR.mk {R : Type} [Lean.Grind.CommRing R] {p : Int} {co : R → Nat → Int} (hP : PolR p co) {f : Nat → Int} {n : Nat} (h1 : InP p f) (h2 : Dlt f n) : ∃ a : R, co a = f ∧ Dg co a n := by
  obtain ⟨a, ha⟩ := hP.2.2.2.2.2.2.2.2 f h1 ⟨n, h2⟩
  exact ⟨a, funext ha, fun i hi => by rw [ha]; exact h2 i hi⟩
theorem PolR.neg {R : Type} [Lean.Grind.CommRing R] {p : Int} {co : R → Nat → Int} (hP : PolR p co) (a : R) (i : Nat) : co (-a) i = (-co a i) % p := by
  have h := hP.2.2.1 (-a) a i
  rw [show -a + a = (0 : R) by grind, hP.2.2.2.2.1] at h
  have r1 := hP.2.1 (-a) i
  have r2 := hP.2.1 a i
  have hr := hP.1.rg
  have e : (co (-a) i + co a i) % p = 0 := h.symm
  have e2 : co (-a) i % p = (-co a i) % p := by
    have : co (-a) i = (co (-a) i + co a i) + -co a i := by omega
    rw [this, Int.add_emod, e, Int.zero_add, Int.emod_emod]
  rw [Int.emod_eq_of_lt r1.1 r1.2] at e2
  exact e2
theorem PolR.nDg {R : Type} [Lean.Grind.CommRing R] {p : Int} {co : R → Nat → Int} (hP : PolR p co) {a : R} {n : Nat} (h : Dg co a n) : Dg co (-a) n := fun i hi => by rw [hP.neg, h i hi]; rfl
theorem DE.neg {R : Type} [Lean.Grind.CommRing R] {p : Int} {co : R → Nat → Int} (hP : PolR p co) {a : R} {n : Nat} (h : DE co a n) : DE co (-a) n := by
  refine ⟨hP.nDg h.1, fun e => h.2 ?_⟩
  have : co (-(-a)) n = 0 := by rw [hP.neg, e]; rfl
  rwa [show -(-a) = a by grind] at this
/-- division -/
theorem pdiv {R : Type} [Lean.Grind.CommRing R] {p : Int} {co : R → Nat → Int} (hP : PolR p co) {b : R} {m : Nat} (hb : DE co b m) : ∀ (n : Nat) (a : R), Dg co a n → ∃ q r : R, a = b * q + r ∧ Dg co r m
  | 0, a, h => ⟨0, a, by grind, h.le (Nat.zero_le m)⟩
  | n + 1, a, h => by
    have hr := hP.1.rg
    by_cases c : n + 1 ≤ m
    · exact ⟨0, a, by grind, h.le c⟩
    · have rb := hP.2.1 b m
      have nb := hb.2
      have hb0 : 0 < co b m ∧ co b m < p := ⟨by omega, rb.2⟩
      obtain ⟨t, t1, t2⟩ := hP.mk (f := fun i => if i = n - m then (co a n * inv p (co b m)) % p else 0) (n := n - m + 1) (fun i => by
        show 0 ≤ (if i = n - m then (co a n * inv p (co b m)) % p else 0) ∧ (if i = n - m then (co a n * inv p (co b m)) % p else 0) < p
        split
        · exact emr _ (by omega)
        · omega) (fun i hi => by show (if i = n - m then _ else (0 : Int)) = 0; rw [if_neg (by omega)])
      obtain ⟨g1, g2⟩ := pDg_mul hP (n := m) (m := n - m) hb.1 t2
      rw [show m + (n - m) = n from by omega] at g1 g2
      have tn : co t (n - m) = (co a n * inv p (co b m)) % p := by rw [t1]; show (if n - m = n - m then _ else (0 : Int)) = _; rw [if_pos rfl]
      have top : co (b * t) n = co a n := by
        rw [g2, tn, Int.mul_comm, mul_md, Int.mul_assoc, Int.mul_comm (inv p (co b m)), Int.mul_emod, inv_mul hP.1 hb0, Int.mul_one, Int.emod_emod, Int.emod_eq_of_lt (hP.2.1 a n).1 (hP.2.1 a n).2]
      have d' : Dg co (a + -(b * t)) n := fun i hi => by
        rw [hP.2.2.1, hP.neg]
        by_cases ci : i = n
        · rw [ci, top, Int.add_emod_emod, show co a n + -co a n = 0 by omega]; rfl
        · rw [h i (by omega), g1 i (by omega)]; rfl
      obtain ⟨q, r, e1, e2⟩ := pdiv hP hb n _ d'
      exact ⟨q + t, r, by grind, e2⟩
/-- what two have in common is made of them -/
theorem pgcd {R : Type} [Lean.Grind.CommRing R] {p : Int} {co : R → Nat → Int} (hP : PolR p co) : ∀ (n : Nat) (a b : R), Dg co b n → ∃ d s t u v : R, d = s * a + t * b ∧ a = d * u ∧ b = d * v
  | 0, a, b, h => ⟨a, 1, 0, 1, 0, by grind, by grind, by rw [hP.z h]; grind⟩
  | n + 1, a, b, h => by
    by_cases c : b = 0
    · exact ⟨a, 1, 0, 1, 0, by grind, by grind, by rw [c]; grind⟩
    · obtain ⟨m, m1, m2⟩ := DE.ex hP _ h c
      obtain ⟨k, hk⟩ := hP.2.2.2.2.2.2.2.1 a
      obtain ⟨q, r, e1, e2⟩ := pdiv hP m2 k a hk
      obtain ⟨d, s, t, u, v, h1, h2, h3⟩ := pgcd hP n b r (e2.le (by omega))
      exact ⟨d, t, s - t * q, u * q + v, u, by grind, by grind, h2⟩
theorem pgcd' {R : Type} [Lean.Grind.CommRing R] {p : Int} {co : R → Nat → Int} (hP : PolR p co) (a b : R) : ∃ d s t u v : R, d = s * a + t * b ∧ a = d * u ∧ b = d * v := by
  obtain ⟨n, hn⟩ := hP.2.2.2.2.2.2.2.1 b
  exact pgcd hP n a b hn
/-- slopes -/
def PD {R : Type} [Lean.Grind.CommRing R] (p : Int) (co : R → Nat → Int) (a d : R) : Prop := ∀ i : Nat, co d i = (((i + 1 : Nat) : Int) * co a (i + 1)) % p
theorem PD.ex {R : Type} [Lean.Grind.CommRing R] {p : Int} {co : R → Nat → Int} (hP : PolR p co) (a : R) : ∃ d : R, PD p co a d := by
  have hr := hP.1.rg
  obtain ⟨n, hn⟩ := hP.2.2.2.2.2.2.2.1 a
  obtain ⟨d, d1, -⟩ := hP.mk (f := fun i => (((i + 1 : Nat) : Int) * co a (i + 1)) % p) (n := n) (fun i => emr _ (by omega)) (fun i hi => by show (((i + 1 : Nat) : Int) * co a (i + 1)) % p = 0; rw [hn (i + 1) (by omega), Int.mul_zero]; rfl)
  exact ⟨d, fun i => by rw [d1]⟩
theorem PD.uni {R : Type} [Lean.Grind.CommRing R] {p : Int} {co : R → Nat → Int} (hP : PolR p co) {a d e : R} (h : PD p co a d) (k : PD p co a e) : d = e := hP.2.2.2.2.2.2.1 _ _ (fun i => by rw [h, k])
theorem cv_der (f g : Nat → Int) (t : Nat) : ((t + 1 : Nat) : Int) * cv f g (t + 1) = cv (fun i => ((i + 1 : Nat) : Int) * f (i + 1)) g t + cv f (fun i => ((i + 1 : Nat) : Int) * g (i + 1)) t := by
  have e1 : cv (fun i => ((i + 1 : Nat) : Int) * f (i + 1)) g t = smT (t + 2) (fun i => (i : Int) * (f i * g (t + 1 - i))) := by
    rw [smT_fst]
    unfold cv
    show _ = ((0 : Nat) : Int) * _ + _
    rw [show ((0 : Nat) : Int) = 0 from rfl, Int.zero_mul, Int.zero_add]
    exact smT_ext (fun i _ => by
      show ((i + 1 : Nat) : Int) * f (i + 1) * g (t - i) = ((i + 1 : Nat) : Int) * (f (i + 1) * g (t + 1 - (i + 1)))
      rw [show t + 1 - (i + 1) = t - i from by omega, Int.mul_assoc])
  have e2 : cv f (fun i => ((i + 1 : Nat) : Int) * g (i + 1)) t = smT (t + 2) (fun i => ((t + 1 - i : Nat) : Int) * (f i * g (t + 1 - i))) := by
    show _ = smT (t + 1) (fun i => ((t + 1 - i : Nat) : Int) * (f i * g (t + 1 - i))) + ((t + 1 - (t + 1) : Nat) : Int) * (f (t + 1) * g (t + 1 - (t + 1)))
    rw [show ((t + 1 - (t + 1) : Nat) : Int) = 0 from by omega, Int.zero_mul, Int.add_zero]
    unfold cv
    exact smT_ext (fun i hi => by
      show f i * (((t - i + 1 : Nat) : Int) * g (t - i + 1)) = ((t + 1 - i : Nat) : Int) * (f i * g (t + 1 - i))
      rw [show t - i + 1 = t + 1 - i from by omega]
      rw [Int.mul_left_comm])
  have e3 := smT_lin (fun i => (i : Int) * (f i * g (t + 1 - i))) (fun i => ((t + 1 - i : Nat) : Int) * (f i * g (t + 1 - i))) 1 1 (t + 2)
  rw [Int.one_mul, Int.one_mul, ← e1, ← e2] at e3
  rw [← e3]
  have e4 := smT_lin (fun i => f i * g (t + 1 - i)) (fun _ => 0) ((t + 1 : Nat) : Int) 0 (t + 2)
  rw [show (0 : Int) * smT (t + 2) (fun _ => (0 : Int)) = 0 from Int.zero_mul _, Int.add_zero] at e4
  show ((t + 1 : Nat) : Int) * smT (t + 2) (fun i => f i * g (t + 1 - i)) = _
  rw [← e4]
  refine smT_ext (fun i hi => ?_)
  show ((t + 1 : Nat) : Int) * (f i * g (t + 1 - i)) + 0 * 0 = 1 * ((i : Int) * (f i * g (t + 1 - i))) + 1 * (((t + 1 - i : Nat) : Int) * (f i * g (t + 1 - i)))
  rw [show ((t + 1 : Nat) : Int) = (i : Int) + ((t + 1 - i : Nat) : Int) from by omega, Int.add_mul]
  omega
theorem PD.mul {R : Type} [Lean.Grind.CommRing R] {p : Int} {co : R → Nat → Int} (hP : PolR p co) {a b a' b' : R} (ha : PD p co a a') (hb : PD p co b b') : PD p co (a * b) (a' * b + a * b') := fun i => by
  rw [hP.2.2.1, hP.2.2.2.1, hP.2.2.2.1, hP.2.2.2.1, ← Int.add_emod, Int.mul_comm _ (_ % p), mul_md, Int.mul_comm _ (((i + 1 : Nat) : Int)), cv_der, Int.add_emod, Int.add_emod (cv (fun i => ((i + 1 : Nat) : Int) * co a (i + 1)) (co b) i)]
  rw [cv_md (f := co a') (f' := fun i => ((i + 1 : Nat) : Int) * co a (i + 1)) (g := co b) (g' := co b) (fun j => by rw [ha, Int.emod_emod]) (fun _ => rfl), cv_md (f := co a) (f' := co a) (g := co b') (g' := fun i => ((i + 1 : Nat) : Int) * co b (i + 1)) (fun _ => rfl) (fun j => by rw [hb, Int.emod_emod])]
/-- F has no square as a factor -/
def SqF {R : Type} [Lean.Grind.CommRing R] (p : Int) (co : R → Nat → Int) (F : R) : Prop := ∃ F' s t : R, PD p co F F' ∧ s * F + t * F' = 1
theorem sqFr {R : Type} [Lean.Grind.CommRing R] {p : Int} {co : R → Nat → Int} (hP : PolR p co) {F q h : R} (hF : SqF p co F) (e : F = q * (q * h)) : ∃ u : R, q * u = 1 := by
  subst e
  obtain ⟨F', s, t, h1, h2⟩ := hF
  obtain ⟨q', hq⟩ := PD.ex hP q
  obtain ⟨k', hk⟩ := PD.ex hP (q * h)
  obtain ⟨h', hh⟩ := PD.ex hP h
  have e1 : F' = q' * (q * h) + q * k' := PD.uni hP h1 (PD.mul hP hq hk)
  exact ⟨s * (q * h) + t * (q' * h + k'), by rw [← h2, e1]; grind⟩
