/-! ===== functions A + B y, and what U, V let of them ===== -/
def muS {R : Type} [Lean.Grind.CommRing R] (F : R) (s t : R × R) : R × R := (s.1 * t.1 + F * (s.2 * t.2), s.1 * t.2 + s.2 * t.1)
def adS {R : Type} [Lean.Grind.CommRing R] (s t : R × R) : R × R := (s.1 + t.1, s.2 + t.2)
def nmS {R : Type} [Lean.Grind.CommRing R] (F : R) (s : R × R) : R := s.1 * s.1 - F * (s.2 * s.2)
def IdL {R : Type} [Lean.Grind.CommRing R] (U V : R) (s : R × R) : Prop := ∃ q : R, s.1 + s.2 * V = U * q
def scS {R : Type} [Lean.Grind.CommRing R] (F : R) (a : R × R) (M : R × R → Prop) (s : R × R) : Prop := ∃ m : R × R, M m ∧ s = muS F a m
def ppr {R : Type} [Lean.Grind.CommRing R] (F : R) (M N : R × R → Prop) (s : R × R) : Prop := ∀ J : R × R → Prop, (∀ a b, J a → J b → J (adS a b)) → (∀ m n, M m → N n → J (muS F m n)) → J s
theorem muS_comm {R : Type} [Lean.Grind.CommRing R] (F : R) (s t : R × R) : muS F s t = muS F t s := Prod.ext (by show s.1 * t.1 + F * (s.2 * t.2) = t.1 * s.1 + F * (t.2 * s.2); grind) (by show s.1 * t.2 + s.2 * t.1 = t.1 * s.2 + t.2 * s.1; grind)
theorem muS_assoc {R : Type} [Lean.Grind.CommRing R] (F : R) (s t u : R × R) : muS F (muS F s t) u = muS F s (muS F t u) := Prod.ext (by
  show (s.1 * t.1 + F * (s.2 * t.2)) * u.1 + F * ((s.1 * t.2 + s.2 * t.1) * u.2) = s.1 * (t.1 * u.1 + F * (t.2 * u.2)) + F * (s.2 * (t.1 * u.2 + t.2 * u.1)); grind) (by
  show (s.1 * t.1 + F * (s.2 * t.2)) * u.2 + (s.1 * t.2 + s.2 * t.1) * u.1 = s.1 * (t.1 * u.2 + t.2 * u.1) + s.2 * (t.1 * u.1 + F * (t.2 * u.2)); grind)
theorem muS_add {R : Type} [Lean.Grind.CommRing R] (F : R) (s t u : R × R) : muS F s (adS t u) = adS (muS F s t) (muS F s u) := Prod.ext (by
  show s.1 * (t.1 + u.1) + F * (s.2 * (t.2 + u.2)) = (s.1 * t.1 + F * (s.2 * t.2)) + (s.1 * u.1 + F * (s.2 * u.2)); grind) (by
  show s.1 * (t.2 + u.2) + s.2 * (t.1 + u.1) = (s.1 * t.2 + s.2 * t.1) + (s.1 * u.2 + s.2 * u.1); grind)
theorem muS_add' {R : Type} [Lean.Grind.CommRing R] (F : R) (s t u : R × R) : muS F (adS t u) s = adS (muS F t s) (muS F u s) := by rw [muS_comm, muS_add, muS_comm F s t, muS_comm F s u]
theorem nm_mul {R : Type} [Lean.Grind.CommRing R] (F : R) (s t : R × R) : nmS F (muS F s t) = nmS F s * nmS F t := by
  show (s.1 * t.1 + F * (s.2 * t.2)) * (s.1 * t.1 + F * (s.2 * t.2)) - F * ((s.1 * t.2 + s.2 * t.1) * (s.1 * t.2 + s.2 * t.1)) = (s.1 * s.1 - F * (s.2 * s.2)) * (t.1 * t.1 - F * (t.2 * t.2))
  grind
theorem ppr_add {R : Type} [Lean.Grind.CommRing R] {F : R} {M N : R × R → Prop} {a b : R × R} (ha : ppr F M N a) (hb : ppr F M N b) : ppr F M N (adS a b) := fun J h1 h2 => h1 a b (ha J h1 h2) (hb J h1 h2)
theorem ppr_mul {R : Type} [Lean.Grind.CommRing R] {F : R} {M N : R × R → Prop} {m n : R × R} (hm : M m) (hn : N n) : ppr F M N (muS F m n) := fun J _ h2 => h2 m n hm hn
theorem ppr_comm {R : Type} [Lean.Grind.CommRing R] {F : R} {M N : R × R → Prop} {s : R × R} (h : ppr F M N s) : ppr F N M s := h (ppr F N M) (fun _ _ ha hb => ppr_add ha hb) (fun m n hm hn => by rw [muS_comm]; exact ppr_mul hn hm)
theorem ppr_asc {R : Type} [Lean.Grind.CommRing R] {F : R} {M N L : R × R → Prop} {s : R × R} (h : ppr F (ppr F M N) L s) : ppr F M (ppr F N L) s :=
  h (ppr F M (ppr F N L)) (fun _ _ ha hb => ppr_add ha hb) (fun t l ht hl =>
    ht (fun t => ppr F M (ppr F N L) (muS F t l)) (fun a b ha hb => by
      show ppr F M (ppr F N L) (muS F (adS a b) l)
      rw [muS_add']; exact ppr_add ha hb) (fun m n hm hn => by
      show ppr F M (ppr F N L) (muS F (muS F m n) l)
      rw [muS_assoc]; exact ppr_mul hm (ppr_mul hn hl)))
theorem ppr_asc' {R : Type} [Lean.Grind.CommRing R] {F : R} {M N L : R × R → Prop} {s : R × R} (h : ppr F M (ppr F N L) s) : ppr F (ppr F M N) L s :=
  h (ppr F (ppr F M N) L) (fun _ _ ha hb => ppr_add ha hb) (fun m t hm ht =>
    ht (fun t => ppr F (ppr F M N) L (muS F m t)) (fun a b ha hb => by
      show ppr F (ppr F M N) L (muS F m (adS a b))
      rw [muS_add]; exact ppr_add ha hb) (fun n l hn hl => by
      show ppr F (ppr F M N) L (muS F m (muS F n l))
      rw [← muS_assoc]; exact ppr_mul (ppr_mul hm hn) hl))
theorem ppr_mono {R : Type} [Lean.Grind.CommRing R] {F : R} {M N M' N' : R × R → Prop} (h1 : ∀ s, M s → M' s) (h2 : ∀ s, N s → N' s) {s : R × R} (h : ppr F M N s) : ppr F M' N' s := fun J j1 j2 => h J j1 (fun m n hm hn => j2 m n (h1 m hm) (h2 n hn))
theorem sc_ppr {R : Type} [Lean.Grind.CommRing R] {F : R} {a : R × R} {M N : R × R → Prop} {s : R × R} : scS F a (ppr F M N) s ↔ ppr F (scS F a M) N s := by
  constructor
  · rintro ⟨m, h, rfl⟩
    exact h (fun t => ppr F (scS F a M) N (muS F a t)) (fun x y hx hy => by
      show ppr F (scS F a M) N (muS F a (adS x y))
      rw [muS_add]; exact ppr_add hx hy) (fun m n hm hn => by
      show ppr F (scS F a M) N (muS F a (muS F m n))
      rw [← muS_assoc]; exact ppr_mul ⟨m, hm, rfl⟩ hn)
  · intro h
    refine h (scS F a (ppr F M N)) ?_ ?_
    · rintro x y ⟨u, hu, rfl⟩ ⟨v, hv, rfl⟩
      exact ⟨adS u v, ppr_add hu hv, by rw [muS_add]⟩
    · rintro m n ⟨u, hu, rfl⟩ hn
      exact ⟨muS F u n, ppr_mul hu hn, by rw [muS_assoc]⟩
theorem sc_sc {R : Type} [Lean.Grind.CommRing R] {F : R} {a b : R × R} {M : R × R → Prop} {s : R × R} : scS F a (scS F b M) s ↔ scS F (muS F a b) M s := by
  constructor
  · rintro ⟨m, ⟨n, hn, rfl⟩, rfl⟩
    exact ⟨n, hn, by rw [muS_assoc]⟩
  · rintro ⟨n, hn, rfl⟩
    exact ⟨muS F b n, ⟨n, hn, rfl⟩, by rw [muS_assoc]⟩
theorem sc_mono {R : Type} [Lean.Grind.CommRing R] {F : R} {a : R × R} {M N : R × R → Prop} (h : ∀ s, M s → N s) {s : R × R} : scS F a M s → scS F a N s := fun ⟨m, hm, e⟩ => ⟨m, h m hm, e⟩
/-- of one class: alike but for a factor -/
def Eqv {R : Type} [Lean.Grind.CommRing R] (F : R) (M N : R × R → Prop) : Prop := ∃ a b : R × R, nmS F a ≠ 0 ∧ nmS F b ≠ 0 ∧ ∀ s, scS F a M s ↔ scS F b N s
theorem Eqv.sy {R : Type} [Lean.Grind.CommRing R] {F : R} {M N : R × R → Prop} (h : Eqv F M N) : Eqv F N M := by
  obtain ⟨a, b, h1, h2, h3⟩ := h
  exact ⟨b, a, h2, h1, fun s => (h3 s).symm⟩
theorem Eqv.tr {R : Type} [Lean.Grind.CommRing R] {p : Int} {co : R → Nat → Int} (hP : PolR p co) {F : R} {M N L : R × R → Prop} (h : Eqv F M N) (k : Eqv F N L) : Eqv F M L := by
  obtain ⟨a, b, h1, h2, h3⟩ := h
  obtain ⟨c, d, k1, k2, k3⟩ := k
  refine ⟨muS F c a, muS F b d, ?_, ?_, fun s => ?_⟩
  · rw [nm_mul]; exact fun e => h1 (hP.dom e k1)
  · rw [nm_mul]; exact fun e => k2 (hP.dom e h2)
  · have e1 : scS F (muS F c a) M s ↔ scS F (muS F c b) N s := by
      rw [← sc_sc, ← sc_sc]
      exact ⟨sc_mono (fun t => (h3 t).mp), sc_mono (fun t => (h3 t).mpr)⟩
    have e2 : scS F (muS F c b) N s ↔ scS F (muS F b d) L s := by
      rw [muS_comm F c b, ← sc_sc, ← sc_sc]
      exact ⟨sc_mono (fun t => (k3 t).mp), sc_mono (fun t => (k3 t).mpr)⟩
    exact e1.trans e2
theorem Eqv.pp {R : Type} [Lean.Grind.CommRing R] {F : R} {M M' N : R × R → Prop} (h : Eqv F M M') : Eqv F (ppr F M N) (ppr F M' N) := by
  obtain ⟨a, b, h1, h2, h3⟩ := h
  refine ⟨a, b, h1, h2, fun s => ?_⟩
  rw [sc_ppr, sc_ppr]
  exact ⟨ppr_mono (fun t => (h3 t).mp) (fun _ => id), ppr_mono (fun t => (h3 t).mpr) (fun _ => id)⟩
theorem nm_1 {R : Type} [Lean.Grind.CommRing R] (F : R) : nmS F (1, 0) = 1 := by show (1 : R) * 1 - F * (0 * 0) = 1; grind
theorem mu_1 {R : Type} [Lean.Grind.CommRing R] (F : R) (s : R × R) : muS F (1, 0) s = s := Prod.ext (by show (1 : R) * s.1 + F * (0 * s.2) = s.1; grind) (by show (1 : R) * s.2 + 0 * s.1 = s.2; grind)
theorem Eqv.of {R : Type} [Lean.Grind.CommRing R] {p : Int} {co : R → Nat → Int} (hP : PolR p co) {F : R} {M N : R × R → Prop} (h : ∀ s, M s ↔ N s) : Eqv F M N := by
  have n1 : (1 : R) ≠ 0 := fun e => by
    have h1 := hP.2.2.2.2.2.1 0
    rw [e, hP.2.2.2.2.1, if_pos rfl] at h1
    exact absurd h1 (by decide)
  refine ⟨(1, 0), (1, 0), by rw [nm_1]; exact n1, by rw [nm_1]; exact n1, fun s => ⟨sc_mono (fun t => (h t).mp), sc_mono (fun t => (h t).mpr)⟩⟩
theorem Eqv.pp2 {R : Type} [Lean.Grind.CommRing R] {p : Int} {co : R → Nat → Int} (hP : PolR p co) {F : R} {M N N' : R × R → Prop} (h : Eqv F N N') : Eqv F (ppr F M N) (ppr F M N') :=
  ((Eqv.of hP (fun _ => ⟨ppr_comm, ppr_comm⟩)).tr hP h.pp).tr hP (Eqv.of hP (fun _ => ⟨ppr_comm, ppr_comm⟩))
/-! ===== U, V composed ===== -/
theorem IdL_add {R : Type} [Lean.Grind.CommRing R] {U V : R} {s t : R × R} (hs : IdL U V s) (ht : IdL U V t) : IdL U V (adS s t) := by
  obtain ⟨q, hq⟩ := hs
  obtain ⟨k, hk⟩ := ht
  exact ⟨q + k, by show (s.1 + t.1) + (s.2 + t.2) * V = U * (q + k); grind⟩
theorem IdL_U {R : Type} [Lean.Grind.CommRing R] (U V : R) : IdL U V (U, 0) := ⟨1, by show U + 0 * V = U * 1; grind⟩
theorem IdL_y {R : Type} [Lean.Grind.CommRing R] (U V : R) : IdL U V (-V, 1) := ⟨0, by show -V + 1 * V = U * 0; grind⟩
theorem IdL_c {R : Type} [Lean.Grind.CommRing R] {U V : R} (F c : R) {s : R × R} (hs : IdL U V s) : IdL U V (muS F (c, 0) s) := by
  obtain ⟨q, hq⟩ := hs
  exact ⟨c * q, by show (c * s.1 + F * (0 * s.2)) + (c * s.2 + 0 * s.1) * V = U * (c * q); grind⟩
theorem ppr_c {R : Type} [Lean.Grind.CommRing R] {F : R} {M N : R × R → Prop} (c : R) (hM : ∀ s, M s → M (muS F (c, 0) s)) {s : R × R} (h : ppr F M N s) : ppr F M N (muS F (c, 0) s) :=
  h (fun t => ppr F M N (muS F (c, 0) t)) (fun a b ha hb => by
    show ppr F M N (muS F (c, 0) (adS a b))
    rw [muS_add]; exact ppr_add ha hb) (fun m n hm hn => by
    show ppr F M N (muS F (c, 0) (muS F m n))
    rw [← muS_assoc]; exact ppr_mul (hM m hm) hn)
theorem rk_0 {R : Type} [Lean.Grind.CommRing R] (u : R) : u * 0 = 0 := by grind
theorem rk_1 {R : Type} [Lean.Grind.CommRing R] (F U1 U2 : R) : muS F (U1, 0) (U2, 0) = (U1 * U2, 0) := Prod.ext (by show U1 * U2 + F * (0 * 0) = U1 * U2; grind) (by show U1 * 0 + 0 * U2 = 0; grind)
theorem rk_2 {R : Type} [Lean.Grind.CommRing R] (F U1 V2 : R) : muS F (U1, 0) (-V2, 1) = (-(U1 * V2), U1) := Prod.ext (by show U1 * -V2 + F * (0 * 1) = -(U1 * V2); grind) (by show U1 * 1 + 0 * -V2 = U1; grind)
theorem rk_3 {R : Type} [Lean.Grind.CommRing R] (F U2 V1 : R) : muS F (-V1, 1) (U2, 0) = (-(U2 * V1), U2) := Prod.ext (by show -V1 * U2 + F * (1 * 0) = -(U2 * V1); grind) (by show -V1 * 0 + 1 * U2 = U2; grind)
theorem rk_4 {R : Type} [Lean.Grind.CommRing R] (F V1 V2 : R) : muS F (-V1, 1) (-V2, 1) = (V1 * V2 + F, -(V1 + V2)) := Prod.ext (by show -V1 * -V2 + F * (1 * 1) = V1 * V2 + F; grind) (by show -V1 * 1 + 1 * -V2 = -(V1 + V2); grind)
theorem rk_5 {R : Type} [Lean.Grind.CommRing R] (F c : R) (t : R × R) : muS F (c, 0) t = (c * t.1, c * t.2) := Prod.ext (by show c * t.1 + F * (0 * t.2) = c * t.1; grind) (by show c * t.2 + 0 * t.1 = c * t.2; grind)
theorem rk_6 {R : Type} [Lean.Grind.CommRing R] (a1 a2 a3 a4 a5 a6 : R) : 1 * (1 * (a1 * 0 + a2 * 0) + 1 * (a3 * 0 + a4 * 0)) + 1 * (a5 * 0 + a6 * 0) = (0 : R) := by grind
theorem rk_7 {R : Type} [Lean.Grind.CommRing R] (B d x : R) : B * d + x * 0 = d * B := by grind
/-! identities, each with what it needs -/
theorem ri_sub {R : Type} [Lean.Grind.CommRing R] {a b c : R} (h : a + b = c) : a = c - b := by grind
theorem ri_1 {R : Type} [Lean.Grind.CommRing R] {d e1 e2 e3 U1 U2 V1 V2 u1 u2 v : R} (he : d = e1 * U1 + e2 * U2 + e3 * (V1 + V2)) (hu1 : U1 = d * u1) (hu2 : U2 = d * u2) (hv : V1 + V2 = d * v) : d * 1 = d * (e1 * u1 + e2 * u2 + e3 * v) := by
  rw [hv] at he
  subst hu1 hu2
  clear hv
  grind
theorem ri_2 {R : Type} [Lean.Grind.CommRing R] {F d e1 e2 e3 U1 U2 V1 V2 W2 u2 V3' : R} (he : d = e1 * U1 + e2 * U2 + e3 * (V1 + V2)) (h3 : d * V3' = e1 * U1 * V2 + e2 * U2 * V1 + e3 * (V1 * V2 + F)) (f2 : F = V2 * V2 + U2 * W2) (hu2 : U2 = d * u2) : d * (V3' - V2) = d * (u2 * (e2 * (V1 - V2) + e3 * W2)) := by
  have s1 : d * (u2 * (e2 * (V1 - V2) + e3 * W2)) = U2 * (e2 * (V1 - V2) + e3 * W2) := by rw [hu2]; clear he h3 f2 hu2; grind
  rw [s1]
  subst f2
  clear hu2 s1
  grind
theorem ri_3 {R : Type} [Lean.Grind.CommRing R] {F d e1 e2 e3 U1 U2 V1 V2 W1 u1 V3' : R} (he : d = e1 * U1 + e2 * U2 + e3 * (V1 + V2)) (h3 : d * V3' = e1 * U1 * V2 + e2 * U2 * V1 + e3 * (V1 * V2 + F)) (f1 : F = V1 * V1 + U1 * W1) (hu1 : U1 = d * u1) : d * (V3' - V1) = d * (u1 * (e1 * (V2 - V1) + e3 * W1)) := by
  have s1 : d * (u1 * (e1 * (V2 - V1) + e3 * W1)) = U1 * (e1 * (V2 - V1) + e3 * W1) := by rw [hu1]; clear he h3 f1 hu1; grind
  rw [s1]
  subst f1
  clear hu1 s1
  grind
theorem ri_4 {R : Type} [Lean.Grind.CommRing R] {F d U1 U2 V1 V2 W1 W2 u1 u2 v : R} (f1 : F = V1 * V1 + U1 * W1) (f2 : F = V2 * V2 + U2 * W2) (hu1 : U1 = d * u1) (hu2 : U2 = d * u2) (hv : V1 + V2 = d * v) : d * (v * (V2 - V1)) = d * (u1 * W1 - u2 * W2) := by
  have s1 : d * (v * (V2 - V1)) = (d * v) * (V2 - V1) := by clear f1 f2 hu1 hu2 hv; grind
  have s2 : d * (u1 * W1 - u2 * W2) = U1 * W1 - U2 * W2 := by rw [hu1, hu2]; clear f1 f2 hu1 hu2 hv s1; grind
  rw [s1, s2, ← hv]
  rw [f1] at f2
  clear f1 hu1 hu2 hv s1 s2
  grind
theorem ri_5 {R : Type} [Lean.Grind.CommRing R] {u1 W1 v V1 V2 V3' e1 e2 e3 u2 W2 : R} (a1 : 1 = e1 * u1 + e2 * u2 + e3 * v) (a3 : V3' - V1 = u1 * (e1 * (V2 - V1) + e3 * W1)) (a4 : v * (V2 - V1) = u1 * W1 - u2 * W2) : V1 * v + u1 * W1 - v * V3' = u1 * u2 * (W1 * e2 + e1 * W2) := by
  have s1 : V1 * v + u1 * W1 - v * V3' = u1 * W1 * 1 - v * (V3' - V1) := by clear a1 a3 a4; grind
  have s2 : v * (u1 * (e1 * (V2 - V1) + e3 * W1)) = u1 * e1 * (v * (V2 - V1)) + u1 * e3 * v * W1 := by clear a1 a3 a4 s1; grind
  rw [s1, a3, s2, a4, a1]
  clear a1 a3 a4 s1 s2
  grind
theorem ri_6 {R : Type} [Lean.Grind.CommRing R] {F d U1 V1 V2 W1 u1 v : R} (f1 : F = V1 * V1 + U1 * W1) (hu1 : U1 = d * u1) (hv : V1 + V2 = d * v) : V1 * V2 + F = d * (V1 * v + u1 * W1) := by
  have s1 : d * (V1 * v + u1 * W1) = V1 * (d * v) + (d * u1) * W1 := by clear f1 hu1 hv; grind
  rw [s1, ← hv, ← hu1, f1]
  clear f1 hu1 hv s1
  grind
theorem ri_7 {R : Type} [Lean.Grind.CommRing R] {u1 u2 d q1 q2 B1 B2 V1 V2 W1 v V3 V3' k x2 x1 y : R} (t1 : V3' - V2 = u2 * x2) (t2 : V3' - V1 = u1 * x1) (t3 : V1 * v + u1 * W1 - v * V3' = u1 * u2 * y) (hV : V3' = u1 * u2 * k + V3) : (u1 * (d * u2) * (q1 * q2) - u1 * q1 * (B2 * V2) - u2 * q2 * (B1 * V1) + B1 * B2 * (V1 * v + u1 * W1)) + (u1 * q1 * B2 + u2 * q2 * B1 - B1 * B2 * v) * V3 = (u1 * u2) * (d * (q1 * q2) + q1 * B2 * x2 + q2 * B1 * x1 + B1 * B2 * y - k * (u1 * q1 * B2 + u2 * q2 * B1 - B1 * B2 * v)) := by
  have c1 : V3 = V3' - u1 * u2 * k := by rw [hV]; clear t1 t2 t3 hV; grind
  have z1 : (u1 * (d * u2) * (q1 * q2) - u1 * q1 * (B2 * V2) - u2 * q2 * (B1 * V1) + B1 * B2 * (V1 * v + u1 * W1)) + (u1 * q1 * B2 + u2 * q2 * B1 - B1 * B2 * v) * (V3' - u1 * u2 * k) = u1 * u2 * (d * (q1 * q2)) + u1 * q1 * B2 * (V3' - V2) + u2 * q2 * B1 * (V3' - V1) + B1 * B2 * (V1 * v + u1 * W1 - v * V3') - u1 * u2 * k * (u1 * q1 * B2 + u2 * q2 * B1 - B1 * B2 * v) := by clear t1 t2 t3 hV c1; grind
  rw [c1, z1, t1, t2, t3]
  clear t1 t2 t3 hV c1 z1
  grind
theorem ri_8 {R : Type} [Lean.Grind.CommRing R] {F d U1 U2 V1 V2 W1 u1 u2 v q1 q2 B1 B2 : R} (g1 : V1 * V2 + F = d * (V1 * v + u1 * W1)) (hu1 : U1 = d * u1) (hu2 : U2 = d * u2) : (U1 * q1 - B1 * V1) * (U2 * q2 - B2 * V2) + F * (B1 * B2) = d * (u1 * (d * u2) * (q1 * q2) - u1 * q1 * (B2 * V2) - u2 * q2 * (B1 * V1) + B1 * B2 * (V1 * v + u1 * W1)) + F * (0 * (u1 * q1 * B2 + u2 * q2 * B1 - B1 * B2 * v)) := by
  have g2 : (U1 * q1 - B1 * V1) * (U2 * q2 - B2 * V2) + F * (B1 * B2) = U1 * U2 * (q1 * q2) - U1 * q1 * (B2 * V2) - U2 * q2 * (B1 * V1) + B1 * B2 * (V1 * V2 + F) := by clear g1 hu1 hu2; grind
  rw [g2, g1, hu1, hu2]
  clear g1 g2 hu1 hu2
  grind
theorem ri_9 {R : Type} [Lean.Grind.CommRing R] {d U1 U2 V1 V2 W1 u1 u2 v q1 q2 B1 B2 : R} (hv : V1 + V2 = d * v) (hu1 : U1 = d * u1) (hu2 : U2 = d * u2) : (U1 * q1 - B1 * V1) * B2 + B1 * (U2 * q2 - B2 * V2) = d * (u1 * q1 * B2 + u2 * q2 * B1 - B1 * B2 * v) + 0 * (u1 * (d * u2) * (q1 * q2) - u1 * q1 * (B2 * V2) - u2 * q2 * (B1 * V1) + B1 * B2 * (V1 * v + u1 * W1)) := by
  have g3 : (U1 * q1 - B1 * V1) * B2 + B1 * (U2 * q2 - B2 * V2) = U1 * q1 * B2 + U2 * q2 * B1 - B1 * B2 * (V1 + V2) := by clear hv hu1 hu2; grind
  rw [g3, hv, hu1, hu2]
  clear g3 hv hu1 hu2
  grind
/-- the first half: what is multiplied is let by U3, V3, d times -/
theorem cmp_in {R : Type} [Lean.Grind.CommRing R] {p : Int} {co : R → Nat → Int} (hP : PolR p co) {F U1 V1 W1 U2 V2 W2 d e1 e2 e3 u1 u2 v V3' U3 V3 k : R} (hd : d ≠ 0) (f1 : F = V1 * V1 + U1 * W1) (f2 : F = V2 * V2 + U2 * W2) (hu1 : U1 = d * u1) (hu2 : U2 = d * u2) (hv : V1 + V2 = d * v) (he : d = e1 * U1 + e2 * U2 + e3 * (V1 + V2)) (h3 : d * V3' = e1 * U1 * V2 + e2 * U2 * V1 + e3 * (V1 * V2 + F)) (hU : U3 = u1 * u2) (hV : V3' = U3 * k + V3) {s : R × R} (h : ppr F (IdL U1 V1) (IdL U2 V2) s) : scS F (d, 0) (IdL U3 V3) s := by
  have a1 : 1 = e1 * u1 + e2 * u2 + e3 * v := hP.can hd (ri_1 he hu1 hu2 hv)
  have a2 : V3' - V2 = u2 * (e2 * (V1 - V2) + e3 * W2) := hP.can hd (ri_2 he h3 f2 hu2)
  have a3 : V3' - V1 = u1 * (e1 * (V2 - V1) + e3 * W1) := hP.can hd (ri_3 he h3 f1 hu1)
  have a4 : v * (V2 - V1) = u1 * W1 - u2 * W2 := hP.can hd (ri_4 f1 f2 hu1 hu2 hv)
  have t3 := ri_5 a1 a3 a4
  have g1 := ri_6 f1 hu1 hv
  subst hU
  refine h (scS F (d, 0) (IdL (u1 * u2) V3)) ?_ ?_
  · rintro x y ⟨m, hm, rfl⟩ ⟨n, hn, rfl⟩
    exact ⟨adS m n, IdL_add hm hn, by rw [muS_add]⟩
  · rintro ⟨A1, B1⟩ ⟨A2, B2⟩ ⟨q1, hq1⟩ ⟨q2, hq2⟩
    have b1 : A1 = U1 * q1 - B1 * V1 := ri_sub hq1
    have b2 : A2 = U2 * q2 - B2 * V2 := ri_sub hq2
    refine ⟨(u1 * (d * u2) * (q1 * q2) - u1 * q1 * (B2 * V2) - u2 * q2 * (B1 * V1) + B1 * B2 * (V1 * v + u1 * W1), u1 * q1 * B2 + u2 * q2 * B1 - B1 * B2 * v), ⟨d * (q1 * q2) + q1 * B2 * (e2 * (V1 - V2) + e3 * W2) + q2 * B1 * (e1 * (V2 - V1) + e3 * W1) + B1 * B2 * (W1 * e2 + e1 * W2) - k * (u1 * q1 * B2 + u2 * q2 * B1 - B1 * B2 * v), ri_7 a2 a3 t3 hV⟩, ?_⟩
    rw [b1, b2]
    exact Prod.ext (ri_8 g1 hu1 hu2) (ri_9 hv hu1 hu2)
/-! the second half -/
theorem rj_1 {R : Type} [Lean.Grind.CommRing R] {d U1 U2 u1 u2 : R} (hu2 : U2 = d * u2) : u1 * (U1 * U2) = d * (u1 * u2) * U1 := by subst hu2; grind
theorem rj_2 {R : Type} [Lean.Grind.CommRing R] {d U1 U2 u1 u2 : R} (hu1 : U1 = d * u1) : u2 * (U1 * U2) = d * (u1 * u2) * U2 := by subst hu1; grind
theorem rj_3 {R : Type} [Lean.Grind.CommRing R] {d U1 U2 V1 V2 u1 u2 v : R} (hu1 : U1 = d * u1) (hu2 : U2 = d * u2) (hv : V1 + V2 = d * v) : v * (U1 * U2) = d * (u1 * u2) * (V1 + V2) := by rw [hv]; subst hu1 hu2; clear hv; grind
theorem rj_4 {R : Type} [Lean.Grind.CommRing R] {d U1 U2 V1 V2 u1 u2 : R} (hu1 : U1 = d * u1) (hu2 : U2 = d * u2) : u2 * -(U1 * V2) + -u1 * -(U2 * V1) = d * (u1 * u2) * (V1 - V2) := by subst hu1 hu2; grind
theorem rj_5 {R : Type} [Lean.Grind.CommRing R] {d U1 U2 u1 u2 : R} (hu1 : U1 = d * u1) (hu2 : U2 = d * u2) : u2 * U1 + -u1 * U2 = 0 := by subst hu1 hu2; grind
theorem rj_6 {R : Type} [Lean.Grind.CommRing R] {F d U1 U2 V1 V2 W2 u1 u2 v : R} (f2 : F = V2 * V2 + U2 * W2) (hu1 : U1 = d * u1) (hu2 : U2 = d * u2) (hv : V1 + V2 = d * v) : v * -(U1 * V2) + u1 * (V1 * V2 + F) = d * (u1 * u2) * W2 := by
  have g1 : v * -(U1 * V2) = -(u1 * V2 * (d * v)) := by rw [hu1]; clear f2 hu1 hu2 hv; grind
  rw [g1, ← hv, f2, hu2]
  clear f2 hu1 hu2 hv g1
  grind
theorem rj_7 {R : Type} [Lean.Grind.CommRing R] {d U1 V1 V2 u1 v : R} (hu1 : U1 = d * u1) (hv : V1 + V2 = d * v) : v * U1 + u1 * -(V1 + V2) = 0 := by rw [hv, hu1]; clear hv hu1; grind
theorem rj_8 {R : Type} [Lean.Grind.CommRing R] {F d U1 U2 V1 V2 W1 u1 u2 v : R} (f1 : F = V1 * V1 + U1 * W1) (hu1 : U1 = d * u1) (hu2 : U2 = d * u2) (hv : V1 + V2 = d * v) : v * -(U2 * V1) + u2 * (V1 * V2 + F) = d * (u1 * u2) * W1 := by
  have g1 : v * -(U2 * V1) = -(u2 * V1 * (d * v)) := by rw [hu2]; clear f1 hu1 hu2 hv; grind
  rw [g1, ← hv, f1, hu1]
  clear f1 hu1 hu2 hv g1
  grind
theorem rj_9 {R : Type} [Lean.Grind.CommRing R] {x a1 a2 a3 a4 a5 a6 U1 U2 V1 V2 W1 W2 : R} (hb : a1 * U1 + a2 * U2 + a3 * (V1 + V2) + a4 * (V1 - V2) + a5 * W1 + a6 * W2 = 1) : 1 * (1 * (a1 * (x * U1) + a2 * (x * U2)) + 1 * (a3 * (x * (V1 + V2)) + a4 * (x * (V1 - V2)))) + 1 * (a5 * (x * W1) + a6 * (x * W2)) = x := by
  have s1 : 1 * (1 * (a1 * (x * U1) + a2 * (x * U2)) + 1 * (a3 * (x * (V1 + V2)) + a4 * (x * (V1 - V2)))) + 1 * (a5 * (x * W1) + a6 * (x * W2)) = x * (a1 * U1 + a2 * U2 + a3 * (V1 + V2) + a4 * (V1 - V2) + a5 * W1 + a6 * W2) := by clear hb; grind
  rw [s1, hb]
  clear hb s1
  grind
theorem rj_10 {R : Type} [Lean.Grind.CommRing R] {F d e1 e2 e3 U1 U2 V1 V2 V3' : R} (h3 : d * V3' = e1 * U1 * V2 + e2 * U2 * V1 + e3 * (V1 * V2 + F)) : 1 * (e1 * -(U1 * V2) + e2 * -(U2 * V1)) + 1 * (-e3 * (V1 * V2 + F) + 0 * (V1 * V2 + F)) = -(d * V3') := by rw [h3]; clear h3; grind
theorem rj_11 {R : Type} [Lean.Grind.CommRing R] {d e1 e2 e3 U1 U2 V1 V2 : R} (he : d = e1 * U1 + e2 * U2 + e3 * (V1 + V2)) : 1 * (e1 * U1 + e2 * U2) + 1 * (-e3 * -(V1 + V2) + 0 * -(V1 + V2)) = d := by
  have : 1 * (e1 * U1 + e2 * U2) + 1 * (-e3 * -(V1 + V2) + 0 * -(V1 + V2)) = e1 * U1 + e2 * U2 + e3 * (V1 + V2) := by clear he; grind
  rw [this, ← he]
theorem rj_12 {R : Type} [Lean.Grind.CommRing R] {d A B U3 V3 V3' q k : R} (hV : V3' = U3 * k + V3) (hq : A + B * V3 = U3 * q) : B * -(d * V3') + (q + B * k) * (d * U3) = d * A := by
  rw [ri_sub hq, hV]
  clear hV hq
  grind
theorem cmp_out {R : Type} [Lean.Grind.CommRing R] {F U1 V1 W1 U2 V2 W2 d e1 e2 e3 u1 u2 v V3' U3 V3 k a1 a2 a3 a4 a5 a6 : R} (f1 : F = V1 * V1 + U1 * W1) (f2 : F = V2 * V2 + U2 * W2) (hu1 : U1 = d * u1) (hu2 : U2 = d * u2) (hv : V1 + V2 = d * v) (he : d = e1 * U1 + e2 * U2 + e3 * (V1 + V2)) (h3 : d * V3' = e1 * U1 * V2 + e2 * U2 * V1 + e3 * (V1 * V2 + F)) (hU : U3 = u1 * u2) (hV : V3' = U3 * k + V3) (hb : a1 * U1 + a2 * U2 + a3 * (V1 + V2) + a4 * (V1 - V2) + a5 * W1 + a6 * W2 = 1) {s : R × R} (h : scS F (d, 0) (IdL U3 V3) s) : ppr F (IdL U1 V1) (IdL U2 V2) s := by
  have r1 : ppr F (IdL U1 V1) (IdL U2 V2) (U1 * U2, 0) := by
    have := ppr_mul (F := F) (IdL_U U1 V1) (IdL_U U2 V2)
    rwa [rk_1] at this
  have r2 : ppr F (IdL U1 V1) (IdL U2 V2) (-(U1 * V2), U1) := by
    have := ppr_mul (F := F) (IdL_U U1 V1) (IdL_y U2 V2)
    rwa [rk_2] at this
  have r3 : ppr F (IdL U1 V1) (IdL U2 V2) (-(U2 * V1), U2) := by
    have := ppr_mul (F := F) (IdL_y U1 V1) (IdL_U U2 V2)
    rwa [rk_3] at this
  have r4 : ppr F (IdL U1 V1) (IdL U2 V2) (V1 * V2 + F, -(V1 + V2)) := by
    have := ppr_mul (F := F) (IdL_y U1 V1) (IdL_y U2 V2)
    rwa [rk_4] at this
  have cl : ∀ (c : R) (t : R × R), ppr F (IdL U1 V1) (IdL U2 V2) t → ppr F (IdL U1 V1) (IdL U2 V2) (c * t.1, c * t.2) := fun c t ht => by
    have := ppr_c c (fun s hs => IdL_c F c hs) ht
    rwa [rk_5] at this
  have two : ∀ (a b : R) (s t : R × R), ppr F (IdL U1 V1) (IdL U2 V2) s → ppr F (IdL U1 V1) (IdL U2 V2) t → ppr F (IdL U1 V1) (IdL U2 V2) (a * s.1 + b * t.1, a * s.2 + b * t.2) := fun a b s t hs ht => ppr_add (cl a s hs) (cl b t ht)
  have eq : ∀ {x y x' y' : R}, x = x' → y = y' → ppr F (IdL U1 V1) (IdL U2 V2) (x, y) → ppr F (IdL U1 V1) (IdL U2 V2) (x', y') := fun e1 e2 h => by rw [← e1, ← e2]; exact h
  have m1 : ppr F (IdL U1 V1) (IdL U2 V2) (d * (u1 * u2) * U1, 0) := eq (rj_1 hu2) (rk_0 u1) (cl u1 _ r1)
  have m2 : ppr F (IdL U1 V1) (IdL U2 V2) (d * (u1 * u2) * U2, 0) := eq (rj_2 hu1) (rk_0 u2) (cl u2 _ r1)
  have m3 : ppr F (IdL U1 V1) (IdL U2 V2) (d * (u1 * u2) * (V1 + V2), 0) := eq (rj_3 hu1 hu2 hv) (rk_0 v) (cl v _ r1)
  have m4 : ppr F (IdL U1 V1) (IdL U2 V2) (d * (u1 * u2) * (V1 - V2), 0) := eq (rj_4 hu1 hu2) (rj_5 hu1 hu2) (two u2 (-u1) _ _ r2 r3)
  have m5 : ppr F (IdL U1 V1) (IdL U2 V2) (d * (u1 * u2) * W2, 0) := eq (rj_6 f2 hu1 hu2 hv) (rj_7 hu1 hv) (two v u1 _ _ r2 r4)
  have m6 : ppr F (IdL U1 V1) (IdL U2 V2) (d * (u1 * u2) * W1, 0) := eq (rj_8 f1 hu1 hu2 hv) (rj_7 hu2 hv) (two v u2 _ _ r3 r4)
  have all : ppr F (IdL U1 V1) (IdL U2 V2) (d * (u1 * u2), 0) := eq (rj_9 hb) (rk_6 a1 a2 a3 a4 a5 a6) (two 1 1 _ _ (two 1 1 _ _ (two a1 a2 _ _ m1 m2) (two a3 a4 _ _ m3 m4)) (two a5 a6 _ _ m6 m5))
  have ly : ppr F (IdL U1 V1) (IdL U2 V2) (-(d * V3'), d) := eq (rj_10 h3) (rj_11 he) (two 1 1 _ _ (two e1 e2 _ _ r2 r3) (two (-e3) 0 _ _ r4 r4))
  obtain ⟨⟨A, B⟩, ⟨q, hq⟩, rfl⟩ := h
  subst hU
  rw [rk_5]
  exact eq (rj_12 hV hq) (rk_7 B d _) (two B (q + B * k) _ _ ly all)
