/-! ===== composing is multiplying; reducing; one class has one reduced U, V ===== -/
theorem PolR.one {R : Type} [Lean.Grind.CommRing R] {p : Int} {co : R → Nat → Int} (hP : PolR p co) : (1 : R) ≠ 0 := fun e => by
  have h1 := hP.2.2.2.2.2.1 0
  rw [e, hP.2.2.2.2.1, if_pos rfl] at h1
  exact absurd h1 (by decide)
theorem PolR.half {R : Type} [Lean.Grind.CommRing R] {p : Int} {co : R → Nat → Int} (hP : PolR p co) : ∃ h : R, h + h = 1 := by
  have hr := hP.1.rg
  obtain ⟨h, h1, -⟩ := hP.mk (f := fun i => if i = 0 then (p + 1) / 2 else 0) (n := 1) (fun i => by
    show 0 ≤ (if i = 0 then (p + 1) / 2 else 0) ∧ (if i = 0 then (p + 1) / 2 else 0) < p
    split <;> omega) (fun i hi => by show (if i = 0 then (p + 1) / 2 else (0 : Int)) = 0; rw [if_neg (by omega)])
  refine ⟨h, hP.2.2.2.2.2.2.1 _ _ (fun i => ?_)⟩
  rw [hP.2.2.1, hP.2.2.2.2.2.1, h1]
  show ((if i = 0 then (p + 1) / 2 else 0) + (if i = 0 then (p + 1) / 2 else 0)) % p = _
  by_cases c : i = 0
  · rw [if_pos c, if_pos c]
    rcases hP.1 with e | e | e | e | e <;> subst e <;> decide
  · rw [if_neg c, if_neg c]; rfl
theorem prim {R : Type} [Lean.Grind.CommRing R] {p : Int} {co : R → Nat → Int} (hP : PolR p co) {F U1 V1 W1 V2 : R} (hF : SqF p co F) (f1 : F = V1 * V1 + U1 * W1) : ∃ a1 a3 a4 a5 : R, a1 * U1 + a3 * (V1 + V2) + a4 * (V1 - V2) + a5 * W1 = 1 := by
  obtain ⟨h, hh⟩ := hP.half
  obtain ⟨d1, s1, t1, u1, v1, x1, x2, x3⟩ := pgcd' hP U1 W1
  obtain ⟨d2, s2, t2, u2, v2, y1, y2, y3⟩ := pgcd' hP (V1 + V2) (V1 - V2)
  obtain ⟨d, s, t, u, v, z1, z2, z3⟩ := pgcd' hP d1 d2
  have e1 : V1 = d * (v * u2 * h + v * v2 * h) := by
    have : V1 = (h + h) * V1 := by rw [hh]; grind
    have k : (V1 + V2) + (V1 - V2) = d * (v * u2) + d * (v * v2) := by rw [y2, y3, z3]; grind
    rw [this]
    have k2 : (h + h) * V1 = h * ((V1 + V2) + (V1 - V2)) := by grind
    rw [k2, k]; grind
  have e2 : F = d * (d * ((v * u2 * h + v * v2 * h) * (v * u2 * h + v * v2 * h) + u * u1 * (u * v1))) := by
    rw [f1, x2, x3, z2]
    conv => lhs; rw [e1]
    grind
  obtain ⟨w, hw⟩ := sqFr hP hF e2
  refine ⟨w * s * s1, w * t * s2, w * t * t2, w * s * t1, ?_⟩
  have : w * s * s1 * U1 + w * t * s2 * (V1 + V2) + w * t * t2 * (V1 - V2) + w * s * t1 * W1 = w * (s * (s1 * U1 + t1 * W1) + t * (s2 * (V1 + V2) + t2 * (V1 - V2))) := by grind
  rw [this, ← x1, ← y1, ← z1, ← hw]; grind
theorem rl_0 {R : Type} [Lean.Grind.CommRing R] {a1 a3 a4 a5 U1 U2 V1 V2 W1 W2 : R} : a1 * U1 + 0 * U2 + a3 * (V1 + V2) + a4 * (V1 - V2) + a5 * W1 + 0 * W2 = a1 * U1 + a3 * (V1 + V2) + a4 * (V1 - V2) + a5 * W1 := by grind
theorem rl_2 {R : Type} [Lean.Grind.CommRing R] {F d V1 V2 W1 u1 v V3' : R} (g1 : V1 * V2 + F = d * (V1 * v + u1 * W1)) (hv : V1 + V2 = d * v) : F - V3' * V3' = d * (V1 * v + u1 * W1 - v * V3') - (V3' - V1) * (V3' - V2) := by
  have s1 : d * (V1 * v + u1 * W1 - v * V3') = d * (V1 * v + u1 * W1) - (d * v) * V3' := by clear g1 hv; grind
  rw [s1, ← g1, ← hv]
  clear g1 hv s1
  grind
theorem rl_1 {R : Type} [Lean.Grind.CommRing R] {F d u1 u2 V1 V2 W1 v V3 V3' k x2 x1 y : R} (t1 : V3' - V2 = u2 * x2) (t2 : V3' - V1 = u1 * x1) (t3 : V1 * v + u1 * W1 - v * V3' = u1 * u2 * y) (g : F - V3' * V3' = d * (V1 * v + u1 * W1 - v * V3') - (V3' - V1) * (V3' - V2)) (hV : V3' = u1 * u2 * k + V3) : F = V3 * V3 + (u1 * u2) * (d * y - x1 * x2 + (V3' + V3) * k) := by
  rw [t1, t2, t3] at g
  have c1 : V3 = V3' - u1 * u2 * k := by rw [hV]; clear t1 t2 t3 hV g; grind
  have g2 : F = (d * (u1 * u2 * y) - u1 * x1 * (u2 * x2)) + V3' * V3' := by rw [← g]; clear t1 t2 t3 hV g c1; grind
  rw [g2, c1]
  clear t1 t2 t3 hV g c1 g2
  grind
theorem rl_3 {R : Type} [Lean.Grind.CommRing R] {U1 U2 V2 F N T : R} (h : (U1 * U2 + F * (0 * 0)) * (U1 * 1 + 0 * -V2) - (U1 * 0 + 0 * U2) * (U1 * -V2 + F * (0 * 1)) = N * (U1 * T)) : U1 * (U1 * U2) = U1 * (N * T) := by grind
theorem rl_4 {R : Type} [Lean.Grind.CommRing R] {V1 V2 x : R} (h : -V1 + 1 * V2 = x) : V2 + -V1 = x := by grind
theorem rl_5 {R : Type} [Lean.Grind.CommRing R] {V1 V2 U : R} (h : V2 + -V1 = U * 0) : V1 = V2 := by grind
theorem nm_c {R : Type} [Lean.Grind.CommRing R] (F d : R) : nmS F (d, 0) = d * d := by show d * d - F * (0 * 0) = d * d; grind
theorem cmp_eqv {R : Type} [Lean.Grind.CommRing R] {p : Int} {co : R → Nat → Int} (hP : PolR p co) {F U1 V1 W1 U2 V2 W2 d e1 e2 e3 u1 u2 v V3' U3 V3 k : R} (hF : SqF p co F) (hd : d ≠ 0) (f1 : F = V1 * V1 + U1 * W1) (f2 : F = V2 * V2 + U2 * W2) (hu1 : U1 = d * u1) (hu2 : U2 = d * u2) (hv : V1 + V2 = d * v) (he : d = e1 * U1 + e2 * U2 + e3 * (V1 + V2)) (h3 : d * V3' = e1 * U1 * V2 + e2 * U2 * V1 + e3 * (V1 * V2 + F)) (hU : U3 = u1 * u2) (hV : V3' = U3 * k + V3) : Eqv F (ppr F (IdL U1 V1) (IdL U2 V2)) (IdL U3 V3) := by
  obtain ⟨a1, a3, a4, a5, hb⟩ := prim hP (V2 := V2) hF f1
  refine ⟨(1, 0), (d, 0), by rw [nm_1]; exact hP.one, by rw [nm_c]; exact fun e => hd (hP.dom e hd), fun s => ⟨?_, ?_⟩⟩
  · rintro ⟨m, hm, rfl⟩
    rw [mu_1]
    exact cmp_in hP hd f1 f2 hu1 hu2 hv he h3 hU hV hm
  · intro h
    exact ⟨s, cmp_out (a1 := a1) (a2 := 0) (a3 := a3) (a4 := a4) (a5 := a5) (a6 := 0) f1 f2 hu1 hu2 hv he h3 hU hV (by rw [← hb]; exact rl_0) h, by rw [mu_1]⟩
theorem cmp_val {R : Type} [Lean.Grind.CommRing R] {p : Int} {co : R → Nat → Int} (hP : PolR p co) {F U1 V1 W1 U2 V2 W2 d e1 e2 e3 u1 u2 v V3' U3 V3 k : R} (hd : d ≠ 0) (f1 : F = V1 * V1 + U1 * W1) (f2 : F = V2 * V2 + U2 * W2) (hu1 : U1 = d * u1) (hu2 : U2 = d * u2) (hv : V1 + V2 = d * v) (he : d = e1 * U1 + e2 * U2 + e3 * (V1 + V2)) (h3 : d * V3' = e1 * U1 * V2 + e2 * U2 * V1 + e3 * (V1 * V2 + F)) (hU : U3 = u1 * u2) (hV : V3' = U3 * k + V3) : ∃ W : R, F = V3 * V3 + U3 * W := by
  have a1 : 1 = e1 * u1 + e2 * u2 + e3 * v := hP.can hd (ri_1 he hu1 hu2 hv)
  have a2 : V3' - V2 = u2 * (e2 * (V1 - V2) + e3 * W2) := hP.can hd (ri_2 he h3 f2 hu2)
  have a3 : V3' - V1 = u1 * (e1 * (V2 - V1) + e3 * W1) := hP.can hd (ri_3 he h3 f1 hu1)
  have a4 : v * (V2 - V1) = u1 * W1 - u2 * W2 := hP.can hd (ri_4 f1 f2 hu1 hu2 hv)
  have t3 := ri_5 a1 a3 a4
  have g1 := ri_6 f1 hu1 hv
  subst hU
  exact ⟨_, rl_1 a2 a3 t3 (rl_2 g1 hv) hV⟩
/-- one step down -/
theorem red_eqv {R : Type} [Lean.Grind.CommRing R] {p : Int} {co : R → Nat → Int} (hP : PolR p co) {F U V W V' k : R} (hU : U ≠ 0) (hW : W ≠ 0) (f : F = V * V + U * W) (hV : -V = W * k + V') : Eqv F (IdL U V) (IdL W V') := by
  refine ⟨(V, 1), (U, 0), ?_, ?_, fun s => ⟨?_, ?_⟩⟩
  · show V * V - F * (1 * 1) ≠ 0
    rw [f]
    intro e
    have : U * W = 0 := by grind
    exact hW (hP.dom this hU)
  · rw [nm_c]; exact fun e => hU (hP.dom e hU)
  · rintro ⟨⟨A, B⟩, ⟨q, hq⟩, rfl⟩
    have hq : A + B * V = U * q := hq
    refine ⟨(V * q + W * B, q), ⟨B - k * q, ?_⟩, Prod.ext ?_ ?_⟩
    · show V * q + W * B + q * V' = W * (B - k * q)
      have : V' = -V - W * k := by grind
      rw [this]; grind
    · show V * A + F * (1 * B) = U * (V * q + W * B) + F * (0 * q)
      have : A = U * q - B * V := by grind
      rw [this, f]; grind
    · show V * B + 1 * A = U * q + 0 * (V * q + W * B)
      grind
  · rintro ⟨⟨A, B⟩, ⟨q, hq⟩, rfl⟩
    have hq : A + B * V' = W * q := hq
    have e : V' = -V - W * k := by grind
    rw [e] at hq
    have hA : A = W * (q + B * k) + B * V := by grind
    refine ⟨(U * B - (q + B * k) * V, q + B * k), ⟨B, ?_⟩, Prod.ext ?_ ?_⟩
    · show U * B - (q + B * k) * V + (q + B * k) * V = U * B
      grind
    · show U * A + F * (0 * B) = V * (U * B - (q + B * k) * V) + F * (1 * (q + B * k))
      rw [hA, f]; grind
    · show U * B + 0 * A = V * (q + B * k) + 1 * (U * B - (q + B * k) * V)
      grind
theorem red_val {R : Type} [Lean.Grind.CommRing R] {F U V W V' k : R} (f : F = V * V + U * W) (hV : -V = W * k + V') : ∃ W' : R, F = V' * V' + W * W' := by
  have e : V' = -V - W * k := by grind
  exact ⟨U - (V + V + W * k) * k, by rw [e]; conv => lhs; rw [f]
                                     grind⟩
theorem Id_unit {R : Type} [Lean.Grind.CommRing R] {U V c c' : R} (h : c * c' = 1) {s : R × R} : IdL (U * c) V s ↔ IdL U V s := by
  constructor
  · rintro ⟨q, hq⟩
    exact ⟨c * q, by rw [hq]; grind⟩
  · rintro ⟨q, hq⟩
    refine ⟨c' * q, ?_⟩
    rw [hq]
    have : U * c * (c' * q) = U * ((c * c') * q) := by grind
    rw [this, h]; grind
theorem mu_inj {R : Type} [Lean.Grind.CommRing R] {p : Int} {co : R → Nat → Int} (hP : PolR p co) {F : R} {b s t : R × R} (hb : nmS F b ≠ 0) (h : muS F b s = muS F b t) : s = t := by
  have h1 : b.1 * s.1 + F * (b.2 * s.2) = b.1 * t.1 + F * (b.2 * t.2) := congrArg Prod.fst h
  have h2 : b.1 * s.2 + b.2 * s.1 = b.1 * t.2 + b.2 * t.1 := congrArg Prod.snd h
  have n : nmS F b = b.1 * b.1 - F * (b.2 * b.2) := rfl
  refine Prod.ext (hP.can hb ?_) (hP.can hb ?_)
  · rw [n]
    have a1 := congrArg (fun z => b.1 * z) h1
    have a2 := congrArg (fun z => F * b.2 * z) h2
    have a1 : b.1 * (b.1 * s.1 + F * (b.2 * s.2)) = b.1 * (b.1 * t.1 + F * (b.2 * t.2)) := a1
    have a2 : F * b.2 * (b.1 * s.2 + b.2 * s.1) = F * b.2 * (b.1 * t.2 + b.2 * t.1) := a2
    grind
  · rw [n]
    have a1 := congrArg (fun z => b.2 * z) h1
    have a2 := congrArg (fun z => b.1 * z) h2
    have a1 : b.2 * (b.1 * s.1 + F * (b.2 * s.2)) = b.2 * (b.1 * t.1 + F * (b.2 * t.2)) := a1
    have a2 : b.1 * (b.1 * s.2 + b.2 * s.1) = b.1 * (b.1 * t.2 + b.2 * t.1) := a2
    grind
theorem sc_can {R : Type} [Lean.Grind.CommRing R] {p : Int} {co : R → Nat → Int} (hP : PolR p co) {F : R} {b : R × R} {M N : R × R → Prop} (hb : nmS F b ≠ 0) (h : ∀ s, scS F b M s → scS F b N s) {s : R × R} (hs : M s) : N s := by
  obtain ⟨n, hn, e⟩ := h (muS F b s) ⟨s, hs, rfl⟩
  rw [mu_inj hP hb e]; exact hn
/-- no function but a number's multiple of 1 has a small norm -/
theorem nm_deg {R : Type} [Lean.Grind.CommRing R] {p : Int} {co : R → Nat → Int} (hP : PolR p co) {F : R} {g n : Nat} (hF : DE co F (2 * g + 1)) {w : R × R} (h2 : w.2 ≠ 0) (hn : n ≤ 2 * g) : ¬ DE co (nmS F w) n := fun hw => by
  obtain ⟨m, hm⟩ := DE.ex' hP h2
  have d2 : DE co (F * (w.2 * w.2)) (2 * g + 1 + (m + m)) := hF.mul hP (hm.mul hP hm)
  have e : nmS F w = w.1 * w.1 + -(F * (w.2 * w.2)) := by show w.1 * w.1 - F * (w.2 * w.2) = _; grind
  rw [e] at hw
  by_cases c : w.1 = 0
  · rw [c, show (0 : R) * 0 + -(F * (w.2 * w.2)) = -(F * (w.2 * w.2)) by grind] at hw
    have := DE.uni hw (d2.neg hP)
    omega
  · obtain ⟨l, hl⟩ := DE.ex' hP c
    have d1 := hl.mul hP hl
    by_cases cc : l + l < 2 * g + 1 + (m + m)
    · have := DE.add hP (d2.neg hP) (d1.1.le (by omega))
      rw [show -(F * (w.2 * w.2)) + w.1 * w.1 = w.1 * w.1 + -(F * (w.2 * w.2)) by grind] at this
      have := DE.uni hw this
      omega
    · have := DE.uni hw (DE.add hP d1 ((d2.neg hP).1.le (by omega)))
      omega
theorem uniq {R : Type} [Lean.Grind.CommRing R] {p : Int} {co : R → Nat → Int} (hP : PolR p co) {F U1 V1 U2 V2 : R} {g n1 n2 : Nat} (hF : DE co F (2 * g + 1)) (hU1 : DE co U1 n1) (l1 : co U1 n1 = 1) (g1 : n1 ≤ g) (hV1 : Dg co V1 n1) (hU2 : DE co U2 n2) (l2 : co U2 n2 = 1) (g2 : n2 ≤ g) (hV2 : Dg co V2 n2) (h : Eqv F (IdL U1 V1) (IdL U2 V2)) : U1 = U2 ∧ V1 = V2 := by
  obtain ⟨a, b, ha, hb, hab⟩ := h
  obtain ⟨w, hw, ew⟩ := (hab (muS F a (U1, 0))).mp ⟨_, IdL_U U1 V1, rfl⟩
  have U10 := hU1.ne hP
  have U20 := hU2.ne hP
  have nU1 : nmS F (U1, 0) ≠ 0 := by rw [nm_c]; exact fun e => U10 (hP.dom e U10)
  -- U1 I2 = w I1
  have key : ∀ s, scS F b (scS F w (IdL U1 V1)) s ↔ scS F b (scS F (U1, 0) (IdL U2 V2)) s := fun s => by
    rw [sc_sc, ← ew, muS_comm F a, ← sc_sc, sc_sc (a := b), muS_comm F b, ← sc_sc]
    exact ⟨sc_mono (fun t => (hab t).mp), sc_mono (fun t => (hab t).mpr)⟩
  have k1 : ∀ s, scS F w (IdL U1 V1) s → scS F (U1, 0) (IdL U2 V2) s := fun s hs => sc_can hP hb (fun t => (key t).mp) hs
  have k2 : ∀ s, scS F (U1, 0) (IdL U2 V2) s → scS F w (IdL U1 V1) s := fun s hs => sc_can hP hb (fun t => (key t).mpr) hs
  obtain ⟨x, ⟨qx, hqx⟩, ex⟩ := k2 _ ⟨_, IdL_U U2 V2, rfl⟩
  obtain ⟨y, ⟨qy, hqy⟩, ey⟩ := k2 _ ⟨_, IdL_y U2 V2, rfl⟩
  have x1 : U1 * U2 + F * (0 * 0) = w.1 * x.1 + F * (w.2 * x.2) := congrArg Prod.fst ex
  have x2 : U1 * 0 + 0 * U2 = w.1 * x.2 + w.2 * x.1 := congrArg Prod.snd ex
  have y1 : U1 * -V2 + F * (0 * 1) = w.1 * y.1 + F * (w.2 * y.2) := congrArg Prod.fst ey
  have y2 : U1 * 1 + 0 * -V2 = w.1 * y.2 + w.2 * y.1 := congrArg Prod.snd ey
  have det : U1 * (U1 * U2) = U1 * (nmS F w * (qx * y.2 - x.2 * qy)) := by
    have n : nmS F w = w.1 * w.1 - F * (w.2 * w.2) := rfl
    have s1 : x.1 = U1 * qx - x.2 * V1 := by grind
    have s2 : y.1 = U1 * qy - y.2 * V1 := by grind
    have s3 : (w.1 * x.1 + F * (w.2 * x.2)) * (w.1 * y.2 + w.2 * y.1) - (w.1 * x.2 + w.2 * x.1) * (w.1 * y.1 + F * (w.2 * y.2)) = nmS F w * (x.1 * y.2 - x.2 * y.1) := by rw [n]; grind
    have s4 : x.1 * y.2 - x.2 * y.1 = U1 * (qx * y.2 - x.2 * qy) := by rw [s1, s2]; grind
    rw [← x1, ← x2, ← y1, ← y2, s4] at s3
    exact rl_3 s3
  have nd : U1 * U2 = nmS F w * (qx * y.2 - x.2 * qy) := hP.can U10 det
  have dUU := hU1.mul hP hU2
  have nw0 : nmS F w ≠ 0 := fun e => by
    rw [e] at nd
    exact dUU.ne hP (by rw [nd]; grind)
  have t0 : qx * y.2 - x.2 * qy ≠ 0 := fun e => by
    rw [e] at nd
    exact dUU.ne hP (by rw [nd]; grind)
  obtain ⟨m, hm⟩ := DE.ex' hP nw0
  obtain ⟨l, hl⟩ := DE.ex' hP t0
  have dml := hm.mul hP hl
  rw [← nd] at dml
  have dl := DE.uni dml dUU
  have w2 : w.2 = 0 := by
    by_cases c : w.2 = 0
    · exact c
    · exact absurd hm (nm_deg hP hF c (by omega))
  obtain ⟨A, hA⟩ : ∃ A : R, w = (A, 0) := ⟨w.1, Prod.ext rfl w2⟩
  rw [hA] at k1 k2
  obtain ⟨i, -, ei⟩ := k1 _ ⟨_, IdL_y U1 V1, rfl⟩
  obtain ⟨j, -, ej⟩ := k2 _ ⟨_, IdL_y U2 V2, rfl⟩
  have ei : A * 1 + 0 * -V1 = U1 * i.2 + 0 * i.1 := congrArg Prod.snd ei
  have ej : U1 * 1 + 0 * -V2 = A * j.2 + 0 * j.1 := congrArg Prod.snd ej
  have ei : A = U1 * i.2 := by grind
  have ej : U1 = A * j.2 := by grind
  have ij : i.2 * j.2 = 1 := hP.can U10 (by
    have : U1 * (i.2 * j.2) = (U1 * i.2) * j.2 := by grind
    rw [this, ← ei, ← ej]; grind)
  -- both let the same
  have i12 : ∀ s, IdL U1 V1 s → IdL U2 V2 s := fun s hs => by
    obtain ⟨t, ht, e⟩ := k1 _ ⟨s, hs, rfl⟩
    have e1 : A * s.1 + F * (0 * s.2) = U1 * t.1 + F * (0 * t.2) := congrArg Prod.fst e
    have e2 : A * s.2 + 0 * s.1 = U1 * t.2 + 0 * t.1 := congrArg Prod.snd e
    have f1 : i.2 * s.1 = t.1 := hP.can U10 (by rw [ei] at e1; grind)
    have f2 : i.2 * s.2 = t.2 := hP.can U10 (by rw [ei] at e2; grind)
    obtain ⟨q, hq⟩ := ht
    refine ⟨j.2 * q, ?_⟩
    rw [← f1, ← f2] at hq
    have z1 : s.1 + s.2 * V2 = (i.2 * j.2) * (s.1 + s.2 * V2) := by rw [ij]; grind
    have z2 : (i.2 * j.2) * (s.1 + s.2 * V2) = j.2 * (i.2 * s.1 + i.2 * s.2 * V2) := by grind
    rw [z1, z2, hq]; grind
  have i21 : ∀ s, IdL U2 V2 s → IdL U1 V1 s := fun s hs => by
    obtain ⟨t, ht, e⟩ := k2 _ ⟨s, hs, rfl⟩
    have e1 : U1 * s.1 + F * (0 * s.2) = A * t.1 + F * (0 * t.2) := congrArg Prod.fst e
    have e2 : U1 * s.2 + 0 * s.1 = A * t.2 + 0 * t.1 := congrArg Prod.snd e
    have f1 : s.1 = i.2 * t.1 := hP.can U10 (by rw [ei] at e1; grind)
    have f2 : s.2 = i.2 * t.2 := hP.can U10 (by rw [ei] at e2; grind)
    obtain ⟨q, hq⟩ := ht
    refine ⟨i.2 * q, ?_⟩
    rw [f1, f2]
    have : i.2 * t.1 + i.2 * t.2 * V1 = i.2 * (t.1 + t.2 * V1) := by grind
    rw [this, hq]; grind
  obtain ⟨q, hq⟩ := i12 _ (IdL_U U1 V1)
  obtain ⟨q', hq'⟩ := i21 _ (IdL_U U2 V2)
  have hq : U1 = U2 * q := by have hq : U1 + 0 * V2 = U2 * q := hq; grind
  have hq' : U2 = U1 * q' := by have hq' : U2 + 0 * V1 = U1 * q' := hq'; grind
  have q0 : q ≠ 0 := fun e => U10 (by rw [hq, e]; grind)
  have q0' : q' ≠ 0 := fun e => U20 (by rw [hq', e]; grind)
  obtain ⟨dq, hdq⟩ := DE.ex' hP q0
  obtain ⟨dq', hdq'⟩ := DE.ex' hP q0'
  have d1 := hU2.mul hP hdq
  rw [← hq] at d1
  have d1 := DE.uni d1 hU1
  have d2 := hU1.mul hP hdq'
  rw [← hq'] at d2
  have d2 := DE.uni d2 hU2
  have n12 : n1 = n2 := by omega
  have dq0 : dq = 0 := by omega
  rw [dq0] at hdq
  have lead := (pDg_mul hP hU2.1 hdq.1).2
  rw [← hq, Nat.add_zero, ← n12, l1] at lead
  rw [n12, l2, Int.one_mul, Int.emod_eq_of_lt (hP.2.1 q 0).1 (hP.2.1 q 0).2] at lead
  have q1 : q = 1 := hP.2.2.2.2.2.2.1 _ _ (fun i => by
    rw [hP.2.2.2.2.2.1]
    by_cases c : i = 0
    · rw [if_pos c, c]; exact lead.symm
    · rw [if_neg c]; exact hdq.1 i (by omega))
  have eU : U1 = U2 := by rw [hq, q1]; grind
  refine ⟨eU, ?_⟩
  obtain ⟨k, hk⟩ := i12 _ (IdL_y U1 V1)
  have hk : V2 + -V1 = U2 * k := rl_4 hk
  have dV : Dg co (V2 + -V1) n2 := pDg_add hP hV2 (hP.nDg (by rw [← n12]; exact hV1))
  by_cases c : k = 0
  · rw [c] at hk; exact rl_5 hk
  · obtain ⟨dk, hdk⟩ := DE.ex' hP c
    have dd := hU2.mul hP hdk
    rw [← hk] at dd
    have := DE.le dd dV
    omega
/-! ===== nothing, and turned about ===== -/
theorem all_id {R : Type} [Lean.Grind.CommRing R] {F U V : R} (hF : ∃ W : R, F = V * V + U * W) {s : R × R} : ppr F (IdL U V) (IdL 1 0) s ↔ IdL U V s := by
  obtain ⟨W, hW⟩ := hF
  constructor
  · intro h
    refine h (IdL U V) (fun a b ha hb => IdL_add ha hb) (fun m n hm _ => ?_)
    obtain ⟨q, hq⟩ := hm
    refine ⟨n.1 * q + n.2 * (W * m.2 + V * q), ?_⟩
    show (m.1 * n.1 + F * (m.2 * n.2)) + (m.1 * n.2 + m.2 * n.1) * V = U * _
    have : m.1 = U * q - m.2 * V := by grind
    rw [this, hW]; grind
  · intro h
    have := ppr_mul (F := F) h (show IdL 1 0 ((1 : R), (0 : R)) from ⟨1, by grind⟩)
    rwa [muS_comm, mu_1] at this
theorem neg_eqv {R : Type} [Lean.Grind.CommRing R] {p : Int} {co : R → Nat → Int} (hP : PolR p co) {F U V W : R} (hF : SqF p co F) (hU : U ≠ 0) (f : F = V * V + U * W) : Eqv F (ppr F (IdL U V) (IdL U (-V))) (IdL 1 0) :=
  cmp_eqv hP (d := U) (e1 := 1) (e2 := 0) (e3 := 0) (u1 := 1) (u2 := 1) (v := 0) (V3' := -V) (k := -V) (W2 := W) hF hU f (by rw [f]; grind) (by grind) (by grind) (by grind) (by grind) (by grind) (by grind) (by grind)
