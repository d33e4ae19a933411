/-! ===== polynomials where x is an element of a ring; rows as series ===== -/
def EV {R : Type} [Lean.Grind.CommRing R] (c : Int → R) (θ : R) : Nat → (Nat → Int) → R
  | 0, _ => 0
  | n + 1, f => c (f 0) + θ * EV c θ n (shL f)
/-- numbers by remainders of p in a ring -/
def CM {R : Type} [Lean.Grind.CommRing R] (p : Int) (c : Int → R) : Prop := (∀ a b, c (a + b) = c a + c b) ∧ (∀ a b, c (a * b) = c a * c b) ∧ (∀ a, c (a % p) = c a) ∧ c 0 = 0 ∧ c 1 = 1
theorem EV_lin {R : Type} [Lean.Grind.CommRing R] {p : Int} {c : Int → R} (h : CM p c) (θ : R) (a b : Int) : ∀ (n : Nat) (f g : Nat → Int), EV c θ n (fun i => a * f i + b * g i) = c a * EV c θ n f + c b * EV c θ n g
  | 0, f, g => by show (0 : R) = c a * 0 + c b * 0; grind
  | n + 1, f, g => by
    show c (a * f 0 + b * g 0) + θ * EV c θ n (fun i => a * shL f i + b * shL g i) = c a * (c (f 0) + θ * EV c θ n (shL f)) + c b * (c (g 0) + θ * EV c θ n (shL g))
    rw [EV_lin h θ a b n, h.1, h.2.1, h.2.1]
    grind
theorem EV_md {R : Type} [Lean.Grind.CommRing R] {p : Int} {c : Int → R} (h : CM p c) (θ : R) : ∀ (n : Nat) (f g : Nat → Int), (∀ i : Nat, i < n → f i % p = g i % p) → EV c θ n f = EV c θ n g
  | 0, f, g, _ => rfl
  | n + 1, f, g, e => by
    show c (f 0) + θ * EV c θ n (shL f) = c (g 0) + θ * EV c θ n (shL g)
    rw [EV_md h θ n (shL f) (shL g) (fun i hi => e (i + 1) (by omega)), ← h.2.2.1 (f 0), ← h.2.2.1 (g 0), e 0 (by omega)]
theorem EV_0 {R : Type} [Lean.Grind.CommRing R] {p : Int} {c : Int → R} (h : CM p c) (θ : R) : ∀ (n : Nat) (f : Nat → Int), (∀ i, f i = 0) → EV c θ n f = 0
  | 0, f, _ => rfl
  | n + 1, f, e => by
    show c (f 0) + θ * EV c θ n (shL f) = 0
    rw [EV_0 h θ n (shL f) (fun i => e (i + 1)), e 0, h.2.2.2.1]
    grind
theorem EV_ge {R : Type} [Lean.Grind.CommRing R] {p : Int} {c : Int → R} (h : CM p c) (θ : R) (m : Nat) : ∀ (n : Nat) (f : Nat → Int), Dlt f n → EV c θ (n + m) f = EV c θ n f
  | 0, f, e => by rw [Nat.zero_add]; exact EV_0 h θ m f (fun i => e i (Nat.zero_le i))
  | n + 1, f, e => by
    rw [show n + 1 + m = (n + m) + 1 from by omega]
    show c (f 0) + θ * EV c θ (n + m) (shL f) = c (f 0) + θ * EV c θ n (shL f)
    rw [EV_ge h θ m n (shL f) (fun i hi => e (i + 1) (by omega))]
theorem EV_bd {R : Type} [Lean.Grind.CommRing R] {p : Int} {c : Int → R} (h : CM p c) (θ : R) {n m : Nat} (hn : n ≤ m) {f : Nat → Int} (e : Dlt f n) : EV c θ m f = EV c θ n f := by
  obtain ⟨d, rfl⟩ := Nat.exists_eq_add_of_le hn
  exact EV_ge h θ d n f e
theorem EV_mul {R : Type} [Lean.Grind.CommRing R] {p : Int} {c : Int → R} (h : CM p c) (θ : R) (m : Nat) (g : Nat → Int) (hg : Dlt g m) : ∀ (n : Nat) (f : Nat → Int), Dlt f n → EV c θ (n + m) (cv f g) = EV c θ n f * EV c θ m g
  | 0, f, e => by
    have z : ∀ i, cv f g i = 0 := fun i => by
      unfold cv
      have : ∀ q : Nat, smT q (fun j => f j * g (i - j)) = 0 := fun q => by
        induction q with
        | zero => rfl
        | succ q ih => show smT q (fun j => f j * g (i - j)) + f q * g (i - q) = 0; rw [ih, e q (Nat.zero_le q), Int.zero_mul]; rfl
      exact this _
    rw [EV_0 h θ _ _ z]
    show (0 : R) = 0 * _
    grind
  | n + 1, f, e => by
    rw [show n + 1 + m = (n + m) + 1 from by omega]
    have es : shL (cv f g) = fun i => f 0 * shL g i + 1 * cv (shL f) g i := funext fun i => by
      show cv f g (i + 1) = _
      rw [cv_l, Int.one_mul]; rfl
    show c (cv f g 0) + θ * EV c θ (n + m) (shL (cv f g)) = (c (f 0) + θ * EV c θ n (shL f)) * EV c θ m g
    rw [cv_0, es, EV_lin h, EV_mul h θ m g hg n (shL f) (fun i hi => e (i + 1) (by omega)), h.2.1, h.2.2.2.2]
    have eg : c (g 0) + θ * EV c θ (n + m) (shL g) = EV c θ m g := by
      have := EV_bd h θ (n := m) (m := n + m + 1) (by omega) hg
      exact this
    generalize EV c θ (n + m) (shL g) = G at eg ⊢
    generalize EV c θ m g = E at eg ⊢
    generalize EV c θ n (shL f) = K
    grind
theorem EV_pmul {R : Type} [Lean.Grind.CommRing R] {p : Int} {c : Int → R} (h : CM p c) (θ : R) {n m N : Nat} {f g : Nat → Int} (hf : Dlt f n) (hg : Dlt g m) (hN : n + m ≤ N) : EV c θ N (pmul p f g) = EV c θ N f * EV c θ N g := by
  have e1 : EV c θ N (pmul p f g) = EV c θ N (cv f g) := EV_md h θ N _ _ (fun i _ => by rw [pmul_cv, Int.emod_emod])
  have e2 : Dlt (cv f g) (n + m) := fun i hi => by
    unfold cv
    have e := smT_ext (f := fun j => f j * g (i - j)) (g := fun _ => 0) (n := i + 1) (fun j hj => by
      show f j * g (i - j) = 0
      by_cases c1 : n ≤ j
      · rw [hf j c1, Int.zero_mul]
      · rw [hg (i - j) (by omega), Int.mul_zero])
    rw [e]
    have z : ∀ j : Nat, smT j (fun _ => (0 : Int)) = 0 := fun j => by
      induction j with
      | zero => rfl
      | succ j ih => show smT j (fun _ => (0 : Int)) + 0 = 0; rw [ih]; rfl
    exact z _
  rw [e1, EV_bd h θ hN e2, EV_mul h θ m g hg n f hf, EV_bd h θ (show n ≤ N by omega) hf, EV_bd h θ (show m ≤ N by omega) hg]
theorem EV_padd {R : Type} [Lean.Grind.CommRing R] {p : Int} {c : Int → R} (h : CM p c) (θ : R) (N : Nat) (f g : Nat → Int) (a : Int) : EV c θ N (padd p f g a) = EV c θ N f + c a * EV c θ N g := by
  have e1 : EV c θ N (padd p f g a) = EV c θ N (fun i => 1 * f i + a * g i) := EV_md h θ N _ _ (fun i _ => by unfold padd; rw [Int.emod_emod, Int.one_mul])
  rw [e1, EV_lin h, h.2.2.2.2]
  grind
theorem EV_suc {R : Type} [Lean.Grind.CommRing R] {p : Int} {c : Int → R} (h : CM p c) (θ : R) : ∀ (n : Nat) (f : Nat → Int), EV c θ (n + 1) f = EV c θ n f + c (f n) * θ ^ n
  | 0, f => by
    show c (f 0) + θ * 0 = 0 + c (f 0) * θ ^ 0
    rw [Lean.Grind.Semiring.pow_zero]
    grind
  | n + 1, f => by
    show c (f 0) + θ * EV c θ (n + 1) (shL f) = c (f 0) + θ * EV c θ n (shL f) + c (f (n + 1)) * θ ^ (n + 1)
    rw [EV_suc h θ n (shL f), Lean.Grind.Semiring.pow_succ]
    show c (f 0) + θ * (EV c θ n (shL f) + c (f (n + 1)) * θ ^ n) = _
    grind
theorem EV_neg {R : Type} [Lean.Grind.CommRing R] {p : Int} {c : Int → R} (h : CM p c) : c (-1) = -1 := by
  have h1 := h.1 (-1) 1
  rw [show (-1 : Int) + 1 = 0 from rfl, h.2.2.2.1, h.2.2.2.2] at h1
  grind
/-- a ring of series: their terms -/
def SerR {R : Type} [Lean.Grind.CommRing R] (p : Int) (co : R → Nat → Int) (c : Int → R) (tp : Nat → R) : Prop :=
  IsP p ∧ CM p c ∧ (∀ a i, 0 ≤ co a i ∧ co a i < p) ∧ (∀ a b i, co (a + b) i = (co a i + co b i) % p) ∧ (∀ a b i, co (a * b) i = cv (co a) (co b) i % p) ∧ (∀ a i, co (c a) i = if i = 0 then a % p else 0) ∧ (∀ q i, co (tp q) i = if i = q then 1 else 0) ∧ (∀ a b, (∀ i, co a i = co b i) → a = b) ∧ ∀ f : Nat → Int, InP p f → ∃ a : R, ∀ i, co a i = f i
def OrS {R : Type} (co : R → Nat → Int) (a : R) (k : Nat) : Prop := (∀ j : Nat, j < k → co a j = 0) ∧ co a k ≠ 0
theorem cv_low {f g : Nat → Int} {k l : Nat} (hf : ∀ j : Nat, j < k → f j = 0) (hg : ∀ j : Nat, j < l → g j = 0) : (∀ t : Nat, t < k + l → cv f g t = 0) ∧ cv f g (k + l) = f k * g l := by
  have z : ∀ j : Nat, smT j (fun _ => (0 : Int)) = 0 := fun j => by
    induction j with
    | zero => rfl
    | succ j ih => show smT j (fun _ => (0 : Int)) + 0 = 0; rw [ih]; rfl
  refine ⟨fun t ht => ?_, ?_⟩
  · unfold cv
    rw [smT_ext (g := fun _ => 0) (fun i hi => ?_)]
    · exact z _
    · show f i * g (t - i) = 0
      by_cases c : i < k
      · rw [hf i c, Int.zero_mul]
      · rw [hg (t - i) (by omega), Int.mul_zero]
  · unfold cv
    rw [smT_one (k := k) (by omega) (fun i hi hk => ?_)]
    · show f k * g (k + l - k) = f k * g l
      rw [show k + l - k = l from by omega]
    · show f i * g (k + l - i) = 0
      by_cases c : i < k
      · rw [hf i c, Int.zero_mul]
      · rw [hg (k + l - i) (by omega), Int.mul_zero]
theorem OrS.mul {R : Type} [Lean.Grind.CommRing R] {p : Int} {co : R → Nat → Int} {c : Int → R} {tp : Nat → R} (hS : SerR p co c tp) {a b : R} {k l : Nat} (ha : OrS co a k) (hb : OrS co b l) : OrS co (a * b) (k + l) := by
  obtain ⟨hp, hc, h1, h2, h3, h4, h5, h6, h7⟩ := hS
  obtain ⟨e1, e2⟩ := cv_low ha.1 hb.1
  refine ⟨fun j hj => by rw [h3, e1 j hj]; rfl, ?_⟩
  rw [h3, e2]
  have n1 := ha.2
  have n2 := hb.2
  have r1 := h1 a k
  have r2 := h1 b l
  exact (nzp hp _ _ ⟨by omega, r1.2⟩ ⟨by omega, r2.2⟩).1
theorem OrS.uni {R : Type} {co : R → Nat → Int} {a : R} {k l : Nat} (h1 : OrS co a k) (h2 : OrS co a l) : k = l := by
  rcases Nat.lt_trichotomy k l with h | h | h
  · exact absurd (h2.1 k h) h1.2
  · exact h
  · exact absurd (h1.1 l h) h2.2
theorem OrS.ex {R : Type} (co : R → Nat → Int) (a : R) : ∀ k : Nat, (∀ j : Nat, j ≤ k → co a j = 0) ∨ ∃ l : Nat, l ≤ k ∧ OrS co a l
  | 0 => by
    by_cases c : co a 0 = 0
    · exact Or.inl (fun j hj => by rw [show j = 0 from by omega]; exact c)
    · exact Or.inr ⟨0, Nat.le_refl 0, fun j hj => by omega, c⟩
  | k + 1 => by
    rcases OrS.ex co a k with h | ⟨l, h1, h2⟩
    · by_cases c : co a (k + 1) = 0
      · exact Or.inl (fun j hj => by
          by_cases e : j = k + 1
          · rw [e]; exact c
          · exact h j (by omega))
      · exact Or.inr ⟨k + 1, Nat.le_refl _, fun j hj => h j (by omega), c⟩
    · exact Or.inr ⟨l, by omega, h2⟩
theorem OrS.div {R : Type} [Lean.Grind.CommRing R] {p : Int} {co : R → Nat → Int} {c : Int → R} {tp : Nat → R} (hS : SerR p co c tp) {a b : R} {k l : Nat} (h : OrS co (a * b) k) (hb : OrS co b l) : l ≤ k ∧ OrS co a (k - l) := by
  obtain ⟨hp, hc, h1, h2, h3, h4, h5, h6, h7⟩ := id hS
  rcases OrS.ex co a k with e | ⟨q, e1, e2⟩
  · have := (cv_low (f := co a) (g := co b) (k := k + 1) (l := 0) (fun j hj => e j (by omega)) (fun j hj => by omega)).1 k (by omega)
    exact absurd (by rw [h3, this]; rfl) h.2
  · have := (OrS.mul hS e2 hb).uni h
    have e3 : q = k - l := by omega
    rw [e3] at e2
    exact ⟨by omega, e2⟩
theorem OrS.add {R : Type} [Lean.Grind.CommRing R] {p : Int} {co : R → Nat → Int} {c : Int → R} {tp : Nat → R} (hS : SerR p co c tp) {a b : R} {k : Nat} (ha : OrS co a k) (hb : ∀ j : Nat, j ≤ k → co b j = 0) : OrS co (a + b) k := by
  obtain ⟨hp, hc, h1, h2, h3, h4, h5, h6, h7⟩ := hS
  refine ⟨fun j hj => by rw [h2, ha.1 j hj, hb j (by omega)]; rfl, ?_⟩
  rw [h2, hb k (Nat.le_refl k), Int.add_zero, Int.emod_eq_of_lt (h1 a k).1 (h1 a k).2]
  exact ha.2
theorem OrS.tp {R : Type} [Lean.Grind.CommRing R] {p : Int} {co : R → Nat → Int} {c : Int → R} {tp : Nat → R} (hS : SerR p co c tp) (q : Nat) : OrS co (tp q) q := by
  obtain ⟨hp, hc, h1, h2, h3, h4, h5, h6, h7⟩ := hS
  exact ⟨fun j hj => by rw [h5, if_neg (by omega)], by rw [h5, if_pos rfl]; decide⟩
theorem OrS.one {R : Type} [Lean.Grind.CommRing R] {p : Int} {co : R → Nat → Int} {c : Int → R} {tp : Nat → R} (hS : SerR p co c tp) : OrS co (1 : R) 0 := by
  obtain ⟨hp, hc, h1, h2, h3, h4, h5, h6, h7⟩ := hS
  refine ⟨fun j hj => by omega, ?_⟩
  rw [← hc.2.2.2.2, h4, if_pos rfl]
  rcases hp with rfl | rfl | rfl | rfl | rfl <;> decide
theorem OrS.pow {R : Type} [Lean.Grind.CommRing R] {p : Int} {co : R → Nat → Int} {c : Int → R} {tp : Nat → R} (hS : SerR p co c tp) {a : R} {k : Nat} (ha : OrS co a k) : ∀ m : Nat, OrS co (a ^ m) (k * m)
  | 0 => by rw [Lean.Grind.Semiring.pow_zero, Nat.mul_zero]; exact OrS.one hS
  | m + 1 => by rw [Lean.Grind.Semiring.pow_succ, Nat.mul_succ]; exact OrS.mul hS (OrS.pow hS ha m) ha
/-- the same terms below a bound -/
def SmS {R : Type} (co : R → Nat → Int) (a b : R) (m : Nat) : Prop := ∀ j : Nat, j < m → co a j = co b j
theorem OrS.same {R : Type} {co : R → Nat → Int} {a b : R} {m k : Nat} (h : SmS co a b m) (ha : OrS co a k) (hk : k < m) : OrS co b k := ⟨fun j hj => by rw [← h j (by omega)]; exact ha.1 j hj, by rw [← h k hk]; exact ha.2⟩
theorem cv_same {f f' g g' : Nat → Int} {m : Nat} (hf : ∀ j : Nat, j < m → f j = f' j) (hg : ∀ j : Nat, j < m → g j = g' j) (t : Nat) (ht : t < m) : cv f g t = cv f' g' t := by
  unfold cv
  refine smT_ext (fun i hi => ?_)
  show f i * g (t - i) = f' i * g' (t - i)
  rw [hf i (by omega), hg (t - i) (by omega)]
theorem SmS.mul {R : Type} [Lean.Grind.CommRing R] {p : Int} {co : R → Nat → Int} {c : Int → R} {tp : Nat → R} (hS : SerR p co c tp) {a a' b b' : R} {m : Nat} (ha : SmS co a a' m) (hb : SmS co b b' m) : SmS co (a * b) (a' * b') m := by
  obtain ⟨hp, hc, h1, h2, h3, h4, h5, h6, h7⟩ := hS
  intro j hj
  rw [h3, h3, cv_same ha hb j hj]
theorem SmS.add {R : Type} [Lean.Grind.CommRing R] {p : Int} {co : R → Nat → Int} {c : Int → R} {tp : Nat → R} (hS : SerR p co c tp) {a a' b b' : R} {m : Nat} (ha : SmS co a a' m) (hb : SmS co b b' m) : SmS co (a + b) (a' + b') m := by
  obtain ⟨hp, hc, h1, h2, h3, h4, h5, h6, h7⟩ := hS
  intro j hj
  rw [h2, h2, ha j hj, hb j hj]
/-- rows are such a ring -/
def srC {p : Int} (hp : 1 < p) (a : Int) : Sr p := ⟨cstR p a, cstR_in (by omega) a⟩
def srX {p : Int} (hp : 1 < p) (q : Nat) : Sr p := ⟨fun i => if i = q then 1 else 0, fun i => by
  show 0 ≤ (if i = q then (1 : Int) else 0) ∧ (if i = q then (1 : Int) else 0) < p
  split <;> omega⟩
theorem sr_CM {p : Int} (hp : 1 < p) : @CM (Sr p) (srRing hp) p (srC hp) := by
  refine ⟨fun a b => Sr.ext fun i => ?_, fun a b => Subtype.ext ?_, fun a => Sr.ext fun i => ?_, rfl, rfl⟩
  · show cstR p (a + b) i = (cstR p a i + 1 * cstR p b i) % p
    unfold cstR
    split
    · rw [Int.one_mul, ← Int.add_emod]
    · rfl
  · show cstR p (a * b) = pmul p (cstR p a) (cstR p b)
    rw [pmul_cst (by omega) a (cstR_in (by omega) b)]
    funext i
    show cstR p (a * b) i = (a * cstR p b i) % p
    unfold cstR
    split
    · rw [Int.mul_comm a (b % p), mul_md, Int.mul_comm]
    · rw [Int.mul_zero]; rfl
  · show cstR p (a % p) i = cstR p a i
    unfold cstR
    rw [Int.emod_emod]
theorem sr_Ser {p : Int} (hq : IsP p) (hp : 1 < p) : @SerR (Sr p) (srRing hp) p Subtype.val (srC hp) (srX hp) := by
  refine ⟨hq, sr_CM hp, fun a i => a.2 i, fun a b i => ?_, fun a b i => ?_, fun a i => rfl, fun q i => rfl, fun a b h => Sr.ext h, fun f hf => ⟨⟨f, hf⟩, fun i => rfl⟩⟩
  · show (a.1 i + 1 * b.1 i) % p = _
    rw [Int.one_mul]
  · show pmul p a.1 b.1 i = _
    rw [pmul_cv]
