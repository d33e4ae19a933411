/-! ===== rows of numbers by remainders of p: a ring ===== -/
def cv (f g : Nat → Int) (t : Nat) : Int := smT (t + 1) (fun i => f i * g (t - i))
theorem csum_cv (f g : Nat → Int) (t : Nat) : csum f g t (t + 1) = cv f g t := by
  have h : ∀ n : Nat, n ≤ t + 1 → csum f g t n = smT n (fun i => f i * g (t - i)) := by
    intro n
    induction n with
    | zero => intro _; rfl
    | succ n ih =>
      intro hn
      show csum f g t n + (if n ≤ t then f n * g (t - n) else 0) = smT n (fun i => f i * g (t - i)) + f n * g (t - n)
      rw [if_pos (by omega), ih (by omega)]
  exact h (t + 1) (Nat.le_refl _)
theorem smT_fst (f : Nat → Int) (m : Nat) : smT (m + 1) f = f 0 + smT m (fun i => f (i + 1)) := by
  have := smT_add f 1 m
  rw [Nat.add_comm 1 m] at this
  rw [this]
  have e : smT 1 f = f 0 := by show 0 + f 0 = f 0; omega
  rw [e, smT_ext (f := fun i => f (1 + i)) (g := fun i => f (i + 1)) (fun i _ => by rw [Nat.add_comm])]
theorem smT_lin (f g : Nat → Int) (a b : Int) : ∀ m : Nat, smT m (fun i => a * f i + b * g i) = a * smT m f + b * smT m g
  | 0 => by show (0 : Int) = a * 0 + b * 0; rw [Int.mul_zero, Int.mul_zero]; rfl
  | m + 1 => by
    show smT m (fun i => a * f i + b * g i) + (a * f m + b * g m) = a * (smT m f + f m) + b * (smT m g + g m)
    rw [smT_lin f g a b m, Int.mul_add, Int.mul_add]; omega
def shL (f : Nat → Int) : Nat → Int := fun i => f (i + 1)
theorem cv_0 (f g : Nat → Int) : cv f g 0 = f 0 * g 0 := by show 0 + f 0 * g (0 - 0) = _; rw [Int.zero_add]
theorem cv_l (f g : Nat → Int) (t : Nat) : cv f g (t + 1) = f 0 * g (t + 1) + cv (shL f) g t := by
  unfold cv
  rw [smT_fst]
  show f 0 * g (t + 1 - 0) + smT (t + 1) (fun i => f (i + 1) * g (t + 1 - (i + 1))) = _
  rw [Nat.sub_zero]
  congr 1
  refine smT_ext (fun i _ => ?_)
  show f (i + 1) * g (t + 1 - (i + 1)) = f (i + 1) * g (t - i)
  rw [show t + 1 - (i + 1) = t - i from by omega]
theorem cv_r (f g : Nat → Int) (t : Nat) : cv f g (t + 1) = cv f (shL g) t + f (t + 1) * g 0 := by
  unfold cv
  show smT (t + 1) (fun i => f i * g (t + 1 - i)) + f (t + 1) * g (t + 1 - (t + 1)) = _
  rw [Nat.sub_self]
  congr 1
  refine smT_ext (fun i hi => ?_)
  show f i * g (t + 1 - i) = f i * g (t - i + 1)
  rw [show t + 1 - i = t - i + 1 from by omega]
theorem cv_comm : ∀ (t : Nat) (f g : Nat → Int), cv f g t = cv g f t
  | 0, f, g => by rw [cv_0, cv_0, Int.mul_comm]
  | t + 1, f, g => by
    rw [cv_l, cv_r g f, cv_comm t (shL f) g, Int.mul_comm (f 0)]; omega
theorem cv_lin (f g h : Nat → Int) (a b : Int) (t : Nat) : cv (fun i => a * f i + b * g i) h t = a * cv f h t + b * cv g h t := by
  unfold cv
  rw [← smT_lin]
  refine smT_ext (fun i _ => ?_)
  show (a * f i + b * g i) * h (t - i) = a * (f i * h (t - i)) + b * (g i * h (t - i))
  rw [Int.add_mul, Int.mul_assoc, Int.mul_assoc]
theorem cv_assoc : ∀ (t : Nat) (f g h : Nat → Int), cv (cv f g) h t = cv f (cv g h) t
  | 0, f, g, h => by rw [cv_0, cv_0, cv_0, cv_0, Int.mul_assoc]
  | t + 1, f, g, h => by
    have e : shL (cv f g) = fun i => f 0 * shL g i + 1 * cv (shL f) g i := funext fun i => by
      show cv f g (i + 1) = _
      rw [cv_l, Int.one_mul]; rfl
    rw [cv_l, cv_0, e, cv_lin, cv_assoc t (shL f) g h, cv_l f (cv g h), cv_l g h, Int.mul_add, Int.mul_assoc, Int.one_mul]
    omega
theorem smT_md {p : Int} {f g : Nat → Int} : ∀ {m : Nat}, (∀ i : Nat, i < m → f i % p = g i % p) → smT m f % p = smT m g % p
  | 0, _ => rfl
  | m + 1, h => by
    show (smT m f + f m) % p = (smT m g + g m) % p
    rw [Int.add_emod, smT_md (m := m) (fun i hi => h i (by omega)), h m (by omega), ← Int.add_emod]
theorem cv_md {p : Int} {f g f' g' : Nat → Int} (hf : ∀ i, f i % p = f' i % p) (hg : ∀ i, g i % p = g' i % p) (t : Nat) : cv f g t % p = cv f' g' t % p := by
  unfold cv
  refine smT_md (fun i _ => ?_)
  show f i * g (t - i) % p = f' i * g' (t - i) % p
  rw [Int.mul_emod, hf, hg, ← Int.mul_emod]
theorem pmul_cv (p : Int) (f g : Nat → Int) (t : Nat) : pmul p f g t = cv f g t % p := by
  show csum f g t (t + 1) % p = _
  rw [csum_cv]
/-- numbers 0 .. p - 1 in a row -/
def Sr (p : Int) : Type := {f : Nat → Int // InP p f}
def cstR (p c : Int) : Nat → Int := fun i => if i = 0 then c % p else 0
theorem cstR_in {p : Int} (hp : 0 < p) (c : Int) : InP p (cstR p c) := fun i => by
  unfold cstR
  split
  · exact emr _ hp
  · omega
theorem in_md {p : Int} {f : Nat → Int} (h : InP p f) (i : Nat) : f i % p = f i := Int.emod_eq_of_lt (h i).1 (h i).2
theorem pmul_cst {p : Int} (hp : 0 < p) (c : Int) {f : Nat → Int} (hf : InP p f) : pmul p (cstR p c) f = fun i => (c * f i) % p := funext fun t => by
  rw [pmul_cv]
  cases t with
  | zero =>
    rw [cv_0]
    show (c % p * f 0) % p = _
    rw [mul_md]
  | succ t =>
    rw [cv_l]
    have e : cv (shL (cstR p c)) f t = 0 := by
      unfold cv
      have : ∀ m : Nat, smT m (fun i => shL (cstR p c) i * f (t - i)) = 0 := fun m => by
        induction m with
        | zero => rfl
        | succ m ih =>
          show smT m (fun i => shL (cstR p c) i * f (t - i)) + (if m + 1 = 0 then c % p else 0) * f (t - m) = 0
          rw [ih, if_neg (by omega), Int.zero_mul]; rfl
      exact this _
    rw [e, Int.add_zero]
    show (c % p * f (t + 1)) % p = _
    rw [mul_md]
def srPow {p : Int} (hp : 1 < p) (a : Sr p) : Nat → Sr p
  | 0 => ⟨cstR p 1, cstR_in (by omega) 1⟩
  | m + 1 => ⟨pmul p (srPow hp a m).1 a.1, pmul_in (by omega)⟩
theorem Sr.ext {p : Int} {a b : Sr p} (h : ∀ i, a.1 i = b.1 i) : a = b := Subtype.ext (funext h)
theorem pmul_comm (p : Int) (f g : Nat → Int) : pmul p f g = pmul p g f := funext fun t => by rw [pmul_cv, pmul_cv, cv_comm]
theorem pmul_assoc {p : Int} (f g h : Nat → Int) : pmul p (pmul p f g) h = pmul p f (pmul p g h) := funext fun t => by
  rw [pmul_cv, pmul_cv]
  rw [cv_md (f := pmul p f g) (f' := cv f g) (g := h) (g' := h) (fun i => by rw [pmul_cv, Int.emod_emod]) (fun _ => rfl), cv_assoc]
  exact (cv_md (f := f) (f' := f) (g := pmul p g h) (g' := cv g h) (fun _ => rfl) (fun i => by rw [pmul_cv, Int.emod_emod]) t).symm
theorem pmul_padd {p : Int} (f g h : Nat → Int) (c : Int) : pmul p (padd p f g c) h = padd p (pmul p f h) (pmul p g h) c := funext fun t => by
  show _ = (pmul p f h t + c * pmul p g h t) % p
  rw [pmul_cv, pmul_cv, pmul_cv]
  rw [cv_md (f := padd p f g c) (f' := fun i => 1 * f i + c * g i) (g := h) (g' := h) (fun i => by unfold padd; rw [Int.emod_emod, Int.one_mul]) (fun _ => rfl), cv_lin, Int.one_mul]
  rw [Int.emod_add_emod, Int.add_comm (cv f h t), Int.add_comm (cv f h t), Int.add_emod, Int.add_emod (c * (cv g h t % p)), Int.mul_comm c (cv g h t % p), mul_md, Int.mul_comm c]
/-- rows form a ring -/
def srRing {p : Int} (hp : 1 < p) : Lean.Grind.CommRing (Sr p) where
  add a b := ⟨padd p a.1 b.1 1, padd_in (by omega)⟩
  mul a b := ⟨pmul p a.1 b.1, pmul_in (by omega)⟩
  neg a := ⟨pscl p a.1 (-1), pscl_in (by omega)⟩
  sub a b := ⟨padd p a.1 b.1 (-1), padd_in (by omega)⟩
  natCast := ⟨fun m => ⟨cstR p m, cstR_in (by omega) m⟩⟩
  ofNat m := ⟨⟨cstR p m, cstR_in (by omega) m⟩⟩
  nsmul := ⟨fun m a => ⟨pmul p (cstR p m) a.1, pmul_in (by omega)⟩⟩
  npow := ⟨fun a m => srPow hp a m⟩
  intCast := ⟨fun m => ⟨cstR p m, cstR_in (by omega) m⟩⟩
  zsmul := ⟨fun m a => ⟨pmul p (cstR p m) a.1, pmul_in (by omega)⟩⟩
  add_zero a := Sr.ext fun i => by
    show (a.1 i + 1 * cstR p ((0 : Nat) : Int) i) % p = a.1 i
    have : cstR p ((0 : Nat) : Int) i = 0 := by unfold cstR; split; rfl; rfl
    rw [this, Int.mul_zero, Int.add_zero]; exact in_md a.2 i
  add_comm a b := Sr.ext fun i => by
    show (a.1 i + 1 * b.1 i) % p = (b.1 i + 1 * a.1 i) % p
    rw [Int.one_mul, Int.one_mul, Int.add_comm]
  add_assoc a b c := Sr.ext fun i => by
    show ((a.1 i + 1 * b.1 i) % p + 1 * c.1 i) % p = (a.1 i + 1 * ((b.1 i + 1 * c.1 i) % p)) % p
    rw [Int.emod_add_emod, Int.one_mul, Int.one_mul, Int.one_mul, Int.add_emod_emod, Int.add_assoc]
  mul_assoc a b c := Subtype.ext (pmul_assoc a.1 b.1 c.1)
  mul_one a := Subtype.ext (by
    show pmul p a.1 (cstR p ((1 : Nat) : Int)) = a.1
    rw [pmul_comm, pmul_cst (by omega) _ a.2]
    funext i
    show (1 * a.1 i) % p = a.1 i
    rw [Int.one_mul]; exact in_md a.2 i)
  one_mul a := Subtype.ext (by
    show pmul p (cstR p ((1 : Nat) : Int)) a.1 = a.1
    rw [pmul_cst (by omega) _ a.2]
    funext i
    show (1 * a.1 i) % p = a.1 i
    rw [Int.one_mul]; exact in_md a.2 i)
  right_distrib a b c := Subtype.ext (pmul_padd a.1 b.1 c.1 1)
  mul_zero a := Subtype.ext (by
    show pmul p a.1 (cstR p ((0 : Nat) : Int)) = cstR p ((0 : Nat) : Int)
    rw [pmul_comm, pmul_cst (by omega) _ a.2]
    funext i
    show (0 * a.1 i) % p = if i = 0 then (0 : Int) % p else 0
    rw [Int.zero_mul, Int.zero_emod]
    split <;> rfl)
  left_distrib a b c := Subtype.ext (by
    show pmul p a.1 (padd p b.1 c.1 1) = padd p (pmul p a.1 b.1) (pmul p a.1 c.1) 1
    rw [pmul_comm, pmul_padd, pmul_comm p b.1, pmul_comm p c.1])
  zero_mul a := Subtype.ext (by
    show pmul p (cstR p ((0 : Nat) : Int)) a.1 = cstR p ((0 : Nat) : Int)
    rw [pmul_cst (by omega) _ a.2]
    funext i
    show (0 * a.1 i) % p = if i = 0 then (0 : Int) % p else 0
    rw [Int.zero_mul, Int.zero_emod]
    split <;> rfl)
  mul_comm a b := Subtype.ext (pmul_comm p a.1 b.1)
  pow_zero a := rfl
  pow_succ a m := rfl
  ofNat_succ m := Sr.ext fun i => by
    show (if i = 0 then ((m + 1 : Nat) : Int) % p else 0) = ((if i = 0 then ((m : Nat) : Int) % p else 0) + 1 * (if i = 0 then ((1 : Nat) : Int) % p else 0)) % p
    split
    · rw [Int.one_mul, ← Int.add_emod]; rfl
    · rfl
  neg_add_cancel a := Sr.ext fun i => by
    show ((a.1 i * -1) % p + 1 * a.1 i) % p = (if i = 0 then ((0 : Nat) : Int) % p else 0)
    rw [Int.emod_add_emod, Int.one_mul, show a.1 i * -1 + a.1 i = 0 from by omega, Int.zero_emod]
    split <;> rfl
  sub_eq_add_neg a b := Sr.ext fun i => by
    show (a.1 i + -1 * b.1 i) % p = (a.1 i + 1 * ((b.1 i * -1) % p)) % p
    rw [Int.one_mul, Int.add_emod_emod, Int.mul_comm]
  neg_zsmul m a := Sr.ext fun i => by
    show pmul p (cstR p (-m)) a.1 i = (pmul p (cstR p m) a.1 i * -1) % p
    rw [pmul_cst (by omega) _ a.2, pmul_cst (by omega) _ a.2]
    show (-m * a.1 i) % p = ((m * a.1 i) % p * -1) % p
    rw [mul_md, Int.neg_mul, Int.mul_neg, Int.mul_one]
  intCast_neg m := Sr.ext fun i => by
    show (if i = 0 then (-m) % p else 0) = ((if i = 0 then m % p else 0) * -1) % p
    split
    · rw [mul_md, Int.mul_neg, Int.mul_one]
    · rfl
theorem rg_try {R : Type} [Lean.Grind.CommRing R] (a b c : R) : (a + b) * (a - b) * c = a * a * c - b * b * c := by grind
theorem rg_try2 {R : Type} [Lean.Grind.CommRing R] (a b c d : R) (h : a * b = c) (h2 : c + d = 1) : a * b * a + d * a = a := by grind
theorem sr_try {p : Int} (hp : 1 < p) (a b c : Sr p) : pmul p (pmul p (padd p a.1 b.1 1) (padd p a.1 b.1 (-1))) c.1 = padd p (pmul p (pmul p a.1 a.1) c.1) (pmul p (pmul p b.1 b.1) c.1) (-1) := congrArg Subtype.val (@rg_try (Sr p) (srRing hp) a b c)
