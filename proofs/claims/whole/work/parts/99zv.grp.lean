/-! ===== the sum of two classes, as what U, V let ===== -/
theorem cR_add {R : Type} [Lean.Grind.CommRing R] {p : Int} {co : R → Nat → Int} (hP : PolR p co) (a b : R) : co (a + b) = padd p (co a) (co b) 1 := funext fun i => by rw [hP.2.2.1]; unfold padd; rw [Int.one_mul]
theorem cR_mul {R : Type} [Lean.Grind.CommRing R] {p : Int} {co : R → Nat → Int} (hP : PolR p co) (a b : R) : co (a * b) = pmul p (co a) (co b) := funext fun i => by rw [hP.2.2.2.1, pmul_cv]
theorem cR_neg {R : Type} [Lean.Grind.CommRing R] {p : Int} {co : R → Nat → Int} (hP : PolR p co) (a : R) : co (-a) = pscl p (co a) (-1) := funext fun i => by rw [hP.neg]; unfold pscl; rw [Int.mul_neg, Int.mul_one]
theorem cR_sub {R : Type} [Lean.Grind.CommRing R] {p : Int} {co : R → Nat → Int} (hP : PolR p co) (a b : R) : co (a - b) = padd p (co a) (co b) (-1) := funext fun i => by
  rw [show a - b = a + -b by grind, hP.2.2.1, hP.neg, Int.add_emod_emod]; unfold padd; rw [Int.neg_mul, Int.one_mul]
theorem cR_ext {R : Type} [Lean.Grind.CommRing R] {p : Int} {co : R → Nat → Int} (hP : PolR p co) {a b : R} (h : co a = co b) : a = b := hP.2.2.2.2.2.2.1 _ _ (fun i => congrFun h i)
theorem cR_in {R : Type} [Lean.Grind.CommRing R] {p : Int} {co : R → Nat → Int} (hP : PolR p co) (a : R) : InP p (co a) := fun i => hP.2.1 a i
theorem cR_mk {R : Type} [Lean.Grind.CommRing R] {p : Int} {co : R → Nat → Int} (hP : PolR p co) {f : Nat → Int} (h1 : InP p f) (h2 : Fin f) : ∃ a : R, co a = f := by
  obtain ⟨a, ha, -⟩ := hP.mk (n := 24) h1 h2
  exact ⟨a, ha⟩
theorem cR_DE {R : Type} [Lean.Grind.CommRing R] {co : R → Nat → Int} {a : R} (hf : Fin (co a)) (h : 0 ≤ pd (co a)) : DE co a (pd (co a)).toNat := ⟨fun i hi => pd_hi hf i (by omega), fun e => by
  have := dg_lead (co a) 24 h
  exact this e⟩
theorem cR_0 {R : Type} [Lean.Grind.CommRing R] {p : Int} {co : R → Nat → Int} (hP : PolR p co) {a : R} (hf : Fin (co a)) (h : pd (co a) < 0) : a = 0 := hP.z (fun i _ => pd_hi hf i (by omega))
theorem cR_nz {R : Type} [Lean.Grind.CommRing R] {p : Int} {co : R → Nat → Int} (hP : PolR p co) {a : R} (h : 0 ≤ pd (co a)) : a ≠ 0 := fun e => by
  have := dg_lead (co a) 24 h
  exact this (by rw [e]; exact hP.2.2.2.2.1 _)
theorem cR_cst {R : Type} [Lean.Grind.CommRing R] {p : Int} {co : R → Nat → Int} (hP : PolR p co) (c : Int) : ∃ k : R, ∀ a : R, co (a * k) = pscl p (co a) c := by
  have hr := hP.1.rg
  obtain ⟨k, hk, -⟩ := hP.mk (n := 1) (cstR_in (p := p) (by omega) c) dlt_cst
  refine ⟨k, fun a => ?_⟩
  rw [cR_mul hP, hk, pmul_comm, pmul_cst (by omega) c (cR_in hP a)]
  funext i
  unfold pscl
  rw [Int.mul_comm]
theorem cst_inv {R : Type} [Lean.Grind.CommRing R] {p : Int} {co : R → Nat → Int} (hP : PolR p co) {c c' : Int} (h : c * c' % p = 1) {k k' : R} (h1 : ∀ a : R, co (a * k) = pscl p (co a) c) (h2 : ∀ a : R, co (a * k') = pscl p (co a) c') : k * k' = 1 := by
  refine cR_ext hP ?_
  rw [h2, show k = 1 * k by grind, h1]
  funext i
  unfold pscl
  rw [mul_md, Int.mul_assoc, Int.mul_emod, h, Int.mul_one, Int.emod_emod]
  exact Int.emod_eq_of_lt (hP.2.1 _ i).1 (hP.2.1 _ i).2
/-- a quotient without rest -/
theorem cR_dvQ {R : Type} [Lean.Grind.CommRing R] {p : Int} {co : R → Nat → Int} (hP : PolR p co) {f g q : R} (ff : Fin (co f)) (fg : Fin (co g)) (h0 : 0 ≤ pd (co g)) (h : f = g * q) : co q = dvQ p (co f) (co g) := by
  obtain ⟨m, hm⟩ := hP.2.2.2.2.2.2.2.1 q
  have hr := hP.1.rg
  refine (dv_uni hP.1 (cR_in hP f) ff (cR_in hP g) fg h0 (cR_in hP q) (pzero_ok (p := p) (by omega)).1 (fun i _ => rfl) (m := m) hm ?_).1
  rw [h, cR_mul hP]
  funext i
  show pmul p (co g) (co q) i = (pmul p (co g) (co q) i + 1 * 0) % p
  rw [Int.mul_zero, Int.add_zero, in_md (pmul_in (by omega))]
theorem cR_div {R : Type} [Lean.Grind.CommRing R] {p : Int} {co : R → Nat → Int} (hP : PolR p co) {f g : R} (ff : Fin (co f)) (fg : Fin (co g)) (h0 : 0 ≤ pd (co g)) : ∃ q r : R, co q = dvQ p (co f) (co g) ∧ co r = dvR p (co f) (co g) ∧ f = g * q + r := by
  have hr := hP.1.rg
  obtain ⟨q, hq⟩ := cR_mk hP (dvQ_in (p := p) (f := co f) (g := co g) (by omega)) (dvq_fin h0)
  obtain ⟨r, hr2⟩ := cR_mk hP (dvR_in (p := p) (f := co f) (g := co g) (by omega) (cR_in hP f)) (dvr_fin ff h0)
  refine ⟨q, r, hq, hr2, cR_ext hP ?_⟩
  rw [cR_add hP, cR_mul hP, hq, hr2]
  exact dv_id (cR_in hP f) fg h0
theorem eun_bz {R : Type} [Lean.Grind.CommRing R] {p : Int} {co : R → Nat → Int} (hP : PolR p co) {f g : R} : ∀ (m : Nat) (e : E6), Fin e.1 → Fin e.2.1 → (∃ r0 r1 s0 s1 t0 t1 : R, (co r0 = e.1 ∧ co r1 = e.2.1) ∧ (co s0 = e.2.2.1 ∧ co s1 = e.2.2.2.1) ∧ (co t0 = e.2.2.2.2.1 ∧ co t1 = e.2.2.2.2.2) ∧ r0 = s0 * f + t0 * g ∧ r1 = s1 * f + t1 * g) → ∃ r0 s0 t0 : R, co r0 = (eun p m e).1 ∧ co s0 = (eun p m e).2.2.1 ∧ co t0 = (eun p m e).2.2.2.2.1 ∧ r0 = s0 * f + t0 * g
  | 0, e, _, _, h => by
    obtain ⟨r0, r1, s0, s1, t0, t1, h1, h2, h3, h4, h5⟩ := h
    exact ⟨r0, s0, t0, h1.1, h2.1, h3.1, h4⟩
  | m + 1, e, f0, f1, h => by
    unfold eun
    by_cases c : pd e.2.1 < 0
    · rw [if_pos c]
      obtain ⟨r0, r1, s0, s1, t0, t1, h1, h2, h3, h4, h5⟩ := h
      exact ⟨r0, s0, t0, h1.1, h2.1, h3.1, h4⟩
    · rw [if_neg c]
      obtain ⟨r0, r1, s0, s1, t0, t1, h1, h2, h3, h4, h5⟩ := h
      obtain ⟨q, r, q1, q2, q3⟩ := cR_div hP (f := r0) (g := r1) (by rw [h1.1]; exact f0) (by rw [h1.2]; exact f1) (by rw [h1.2]; omega)
      rw [h1.1, h1.2] at q1 q2
      refine eun_bz hP m (estep p e) f1 (dvr_fin f0 (by omega)) ⟨r1, r, s1, s0 - q * s1, t1, t0 - q * t1, ⟨h1.2, q2⟩, ⟨h2.2, ?_⟩, ⟨h3.2, ?_⟩, h5, ?_⟩
      · rw [cR_sub hP, cR_mul hP, q1, h2.1, h2.2]; rfl
      · rw [cR_sub hP, cR_mul hP, q1, h3.1, h3.2]; rfl
      · have : r = r0 - r1 * q := by rw [q3]; grind
        rw [this, h4, h5]; grind
theorem eun_dv {R : Type} [Lean.Grind.CommRing R] {p : Int} {co : R → Nat → Int} (hP : PolR p co) : ∀ (m : Nat) (e : E6) (r0 r1 : R), Fin e.1 → Fin e.2.1 → co r0 = e.1 → co r1 = e.2.1 → pd (eun p m e).2.1 < 0 → ∃ G u v : R, co G = (eun p m e).1 ∧ r0 = G * u ∧ r1 = G * v
  | 0, e, r0, r1, f0, f1, h0, h1, h => ⟨r0, 1, 0, h0, by grind, by rw [cR_0 hP (a := r1) (by rw [h1]; exact f1) (by rw [h1]; exact h)]; grind⟩
  | m + 1, e, r0, r1, f0, f1, h0, h1, h => by
    unfold eun at h ⊢
    by_cases c : pd e.2.1 < 0
    · rw [if_pos c] at h ⊢
      exact ⟨r0, 1, 0, h0, by grind, by rw [cR_0 hP (a := r1) (by rw [h1]; exact f1) (by rw [h1]; exact h)]; grind⟩
    · rw [if_neg c] at h ⊢
      obtain ⟨q, r, q1, q2, q3⟩ := cR_div hP (f := r0) (g := r1) (by rw [h0]; exact f0) (by rw [h1]; exact f1) (by rw [h1]; omega)
      rw [h0, h1] at q1 q2
      obtain ⟨G, u, v, g1, g2, g3⟩ := eun_dv hP m (estep p e) r1 r f1 (dvr_fin f0 (by omega)) h1 q2 h
      exact ⟨G, u * q + v, u, g1, by rw [q3]; rw [g3]; conv => lhs; rw [g2]
                                     grind, g2⟩
theorem eG_ring {R : Type} [Lean.Grind.CommRing R] {p : Int} {co : R → Nat → Int} (hP : PolR p co) {f g : R} (ff : Fin (co f)) (fg : Fin (co g)) (h0 : 0 ≤ pd (co f)) (hf9 : pd (co f) ≤ 9) (hg9 : pd (co g) ≤ 9) : ∃ G S T u v : R, co G = eG p (co f) (co g) ∧ co S = eS p (co f) (co g) ∧ co T = eT p (co f) (co g) ∧ G = S * f + T * g ∧ f = G * u ∧ g = G * v := by
  have hp := hP.1
  have hr := hp.rg
  have o1 := pone_ok (p := p) (by omega)
  have o0 := pzero_ok (p := p) (by omega)
  have g1 := pd_ge (co g)
  have EO : EOk p (e0 (co f) (co g)) := ⟨⟨cR_in hP f, ff⟩, ⟨cR_in hP g, fg⟩, ⟨o1.1, o1.2.1⟩, ⟨o0.1, o0.2.1⟩, ⟨o0.1, o0.2.1⟩, ⟨o1.1, o1.2.1⟩⟩
  have EBB : EB (max (pd (co g)) (pd (co f) - 1)) (max (pd (co f)) (pd (co g) - 1)) (e0 (co f) (co g)) := by
    refine ⟨?_, ?_, ?_, ?_⟩
    · show pd pzero + pd (co f) ≤ _; omega
    · show pd pone + pd (co g) ≤ _; omega
    · show pd pone + pd (co f) ≤ _; omega
    · show pd pzero + pd (co g) ≤ _; omega
  obtain ⟨r1, -, r3, r4, -⟩ := eun_ok hp (by omega) (by omega) 20 (e0 (co f) (co g)) EO EBB h0 (by show pd (co g) < 20; omega) (by show pd (co g) - 1 ≤ _; omega) (by show pd (co g) - 1 ≤ _; omega)
  have c1 : co (1 : R) = pone := funext fun i => by rw [hP.2.2.2.2.2.1]; rfl
  have c0 : co (0 : R) = pzero := funext fun i => hP.2.2.2.2.1 i
  obtain ⟨G, S, T, a1, a2, a3, a4⟩ := eun_bz hP (f := f) (g := g) 20 (e0 (co f) (co g)) ff fg ⟨f, g, 1, 0, 0, 1, ⟨rfl, rfl⟩, ⟨c1, c0⟩, ⟨c0, c1⟩, by grind, by grind⟩
  obtain ⟨G', u, v, b1, b2, b3⟩ := eun_dv hP 20 (e0 (co f) (co g)) f g ff fg rfl rfl r4
  have eG' : G' = G := cR_ext hP (by rw [a1, b1])
  rw [eG'] at b2 b3
  have hl := pd_lead r1.1.1 r3
  obtain ⟨k, hk⟩ := cR_cst hP (eInv p (eEnd p (co f) (co g)))
  obtain ⟨k', hk'⟩ := cR_cst hP ((eEnd p (co f) (co g)).1 (pd (eEnd p (co f) (co g)).1).toNat)
  have kk : k * k' = 1 := cst_inv hP (by
    rw [Int.mul_comm]
    exact inv_mul hp hl) hk hk'
  refine ⟨G * k, S * k, T * k, k' * u, k' * v, by rw [hk, a1]; rfl, by rw [hk, a2]; rfl, by rw [hk, a3]; rfl, by rw [a4]; grind, ?_, ?_⟩
  · have : G * k * (k' * u) = G * (k * k') * u := by grind
    rw [this, kk]
    conv => lhs; rw [b2]
    grind
  · have : G * k * (k' * v) = G * (k * k') * v := by grind
    rw [this, kk]
    conv => lhs; rw [b3]
    grind
/-- U divides F less V V -/
def Vl (p : Int) (F : Nat → Int) (a : UV) : Prop := ∃ w : Nat → Int, InP p w ∧ Fin w ∧ F = padd p (pmul p a.2 a.2) (pmul p a.1 w) 1
/-- a class of the curve -/
def GP (p g : Int) (F : Nat → Int) (a : UV) : Prop := RP p g a ∧ Vl p F a
def SFr2 (p : Int) (F : Nat → Int) : Prop := pd (eG p F (pslo p F)) = 0
theorem sqf_ring {R : Type} [Lean.Grind.CommRing R] {p : Int} {co : R → Nat → Int} (hP : PolR p co) {g : Int} {F : R} (hC : CF p g (co F)) (h : SFr2 p (co F)) : SqF p co F := by
  have hr := hP.1.rg
  obtain ⟨-, -, f1, f2, f3⟩ := hC
  obtain ⟨F', hF'⟩ := PD.ex hP F
  have e : co F' = pslo p (co F) := funext fun i => by rw [hF' i]; rfl
  have fin' : Fin (pslo p (co F)) := fun i hi => by unfold pslo; rw [f1 (i + 1) (by omega), Int.mul_zero]; rfl
  have d9 : pd (pslo p (co F)) ≤ 9 := pd_le (by decide) (fun i hi => by
    unfold pslo
    rw [pd_hi f1 (i + 1) (by omega), Int.mul_zero]; rfl)
  obtain ⟨G, S, T, u, v, g1, -, -, g4, -, -⟩ := eG_ring hP (f := F) (g := F') f1 (by rw [e]; exact fin') (by omega) (by omega) (by rw [e]; exact d9)
  have ok := (eG_ok hP.1 (cR_in hP F) f1 (cR_in hP F') (by rw [e]; exact fin') (by omega) (by omega) (by rw [e]; exact d9)).1
  rw [e] at g1 ok
  have G1 : G = 1 := cR_ext hP (by
    rw [g1]
    funext i
    rw [hP.2.2.2.2.2.1]
    have h0 : pd (eG p (co F) (pslo p (co F))) = 0 := h
    by_cases c : i = 0
    · rw [if_pos c, c]
      have := ok.2.2.2.2.2
      rw [h0] at this
      exact this
    · rw [if_neg c]
      exact pd_hi ok.2.1 i (by omega))
  exact ⟨F', S, T, hF', by rw [← g4, G1]⟩
theorem Vl_ring {R : Type} [Lean.Grind.CommRing R] {p : Int} {co : R → Nat → Int} (hP : PolR p co) {F U V : R} {a : UV} (hU : co U = a.1) (hV : co V = a.2) : Vl p (co F) a ↔ ∃ W : R, Fin (co W) ∧ F = V * V + U * W := by
  constructor
  · rintro ⟨w, w1, w2, w3⟩
    obtain ⟨W, hW⟩ := cR_mk hP w1 w2
    exact ⟨W, by rw [hW]; exact w2, cR_ext hP (by rw [cR_add hP, cR_mul hP, cR_mul hP, hU, hV, hW]; exact w3)⟩
  · rintro ⟨W, w1, w2⟩
    refine ⟨co W, cR_in hP W, w1, ?_⟩
    have : co F = co (V * V + U * W) := by rw [← w2]
    rw [this, cR_add hP, cR_mul hP, cR_mul hP, hU, hV]
theorem fin_add {R : Type} [Lean.Grind.CommRing R] {p : Int} {co : R → Nat → Int} (hP : PolR p co) {a b : R} (ha : Fin (co a)) (hb : Fin (co b)) : Fin (co (a + b)) := fun i hi => by rw [hP.2.2.1, ha i hi, hb i hi]; rfl
/-- a factor of something short is short -/
theorem fin_fac {R : Type} [Lean.Grind.CommRing R] {p : Int} {co : R → Nat → Int} (hP : PolR p co) {f g q : R} (ff : Fin (co f)) (fg : Fin (co g)) (h0 : 0 ≤ pd (co g)) (h : f = g * q) : Fin (co q) := by
  rw [cR_dvQ hP ff fg h0 h]; exact dvq_fin h0
theorem fin_nW {R : Type} [Lean.Grind.CommRing R] {p : Int} {co : R → Nat → Int} (hP : PolR p co) {F U V W : R} (fF : Fin (co F)) (fU : Fin (co U)) (fV : Fin (co V)) (hV : pd (co V) ≤ 9) (h0 : 0 ≤ pd (co U)) (h : F = V * V + U * W) : Fin (co (F - V * V)) ∧ Fin (co W) ∧ co W = dvQ p (co (F - V * V)) (co U) := by
  have f1 : Fin (co (F - V * V)) := by
    rw [cR_sub hP, cR_mul hP]
    exact padd_fin fF (pmul_fin fV fV (by omega))
  have e : F - V * V = U * W := by rw [h]; grind
  exact ⟨f1, fin_fac hP f1 fU h0 e, cR_dvQ hP f1 fU h0 e⟩
/-- composing -/
theorem comp_ring {R : Type} [Lean.Grind.CommRing R] {p : Int} {co : R → Nat → Int} (hP : PolR p co) {g : Int} {F U1 V1 U2 V2 : R} {a b : UV} (hC : CF p g (co F)) (hS : SqF p co F) (ha : GP p g (co F) a) (hb : GP p g (co F) b) (hU1 : co U1 = a.1) (hV1 : co V1 = a.2) (hU2 : co U2 = b.1) (hV2 : co V2 = b.2) : ∃ U V : R, co U = (ccomp p (co F) a b).1 ∧ co V = (ccomp p (co F) a b).2 ∧ Vl p (co F) (ccomp p (co F) a b) ∧ Eqv F (ppr F (IdL U1 V1) (IdL U2 V2)) (IdL U V) := by
  have hp := hP.1
  have hr := hp.rg
  obtain ⟨ra, va⟩ := ha
  obtain ⟨rb, vb⟩ := hb
  obtain ⟨W1, w1, f1⟩ := (Vl_ring hP hU1 hV1).mp va
  obtain ⟨W2, w2, f2⟩ := (Vl_ring hP hU2 hV2).mp vb
  obtain ⟨q1, q2, q3, q4, -, -⟩ := cG1_ok hC ra rb
  obtain ⟨q5, q6⟩ := cW_ok hC ra rb
  obtain ⟨q7, q8, q9, q10, -, -⟩ := cG_ok hC ra rb
  obtain ⟨u1, u2, u3, u4, u5⟩ := cU3_ok hC ra rb
  obtain ⟨v1, v2⟩ := cV3_ok hC ra rb
  have hg := hC.2.2.2.2
  have ra4 := ra.2.2.2.1
  have rb4 := rb.2.2.2.1
  obtain ⟨D1, E1, E2, x1, x2, m1, m2, m3, m4, m5, m6⟩ := eG_ring hP (f := U1) (g := U2) (by rw [hU1]; exact ra.1.2) (by rw [hU2]; exact rb.1.2) (by rw [hU1]; exact ra.2.2.1) (by rw [hU1]; omega) (by rw [hU2]; omega)
  rw [hU1, hU2] at m1 m2 m3
  have eW : co (V1 + V2) = cW p a b := by rw [cR_add hP, hV1, hV2]; rfl
  have m1' : co D1 = cG1 p a b := m1
  obtain ⟨D, S, T, y1, y2, n1, n2, n3, n4, n5, n6⟩ := eG_ring hP (f := D1) (g := V1 + V2) (by rw [m1']; exact q1.2) (by rw [eW]; exact q5.2) (by rw [m1']; exact q2) (by rw [m1']; omega) (by rw [eW]; omega)
  rw [m1', eW] at n1 n2 n3
  have eD : co D = cG p a b := n1
  have D0 : D ≠ 0 := cR_nz hP (by rw [eD]; exact q8)
  have fD : Fin (co D) := by rw [eD]; exact q7.2
  have pD : 0 ≤ pd (co D) := by rw [eD]; exact q8
  -- factors
  have hu1 : U1 = D * (y1 * x1) := by rw [m5, n5]; grind
  have hu2 : U2 = D * (y1 * x2) := by rw [m6, n5]; grind
  have he : D = S * E1 * U1 + S * E2 * U2 + T * (V1 + V2) := by rw [n4, m4]; grind
  obtain ⟨V3', hV3'⟩ : ∃ V3' : R, D * V3' = S * E1 * U1 * V2 + S * E2 * U2 * V1 + T * (V1 * V2 + F) := by
    refine ⟨S * E1 * (y1 * x1) * V2 + S * E2 * (y1 * x2) * V1 + T * (V1 * y2 + y1 * x1 * W1), ?_⟩
    have g1 : V1 * V2 + F = D * (V1 * y2 + y1 * x1 * W1) := by
      have : V1 * V2 + F = V1 * (V1 + V2) + U1 * W1 := by rw [f1]; grind
      rw [this, n6, hu1]; grind
    rw [g1]
    conv => rhs; rw [hu1, hu2]
    grind
  -- U3
  have fP : Fin (co (U1 * U2)) := by rw [cR_mul hP, hU1, hU2]; exact pmul_fin ra.1.2 rb.1.2 (by omega)
  have e1 : U1 * U2 = D * (D * (y1 * x1 * (y1 * x2))) := by conv => lhs; rw [hu1, hu2]
                                                            grind
  have k1 := cR_dvQ hP fP fD pD e1
  have fk1 := fin_fac hP fP fD pD e1
  have k2 := cR_dvQ hP fk1 fD pD rfl
  have eU3 : co (y1 * x1 * (y1 * x2)) = cU3 p a b := by rw [k2, k1, cR_mul hP, hU1, hU2, eD]; rfl
  -- V3
  have cv : co (D * V3') = cV p (co F) a b := by
    have : D * V3' = (V1 * V2 + F) * T + E1 * S * U1 * V2 + E2 * S * U2 * V1 := by rw [hV3']; grind
    rw [this, cR_add hP, cR_add hP, cR_mul hP, cR_add hP, cR_mul hP, cR_mul hP, cR_mul hP, cR_mul hP, cR_mul hP, cR_mul hP, cR_mul hP, hU1, hU2, hV1, hV2, m2, m3, n2, n3]
    rfl
  have fV : Fin (co (D * V3')) := by
    rw [cv]
    obtain ⟨c1, c2, c3⟩ := cN_ok hC ra rb
    obtain ⟨-, -, -, -, s1, s2⟩ := cG1_ok hC ra rb
    obtain ⟨-, -, -, -, s3, s4⟩ := cG_ok hC ra rb
    have ra5 := ra.2.2.2.2.1
    have rb5 := rb.2.2.2.2.1
    have pa := pd_ge a.2
    have pb := pd_ge b.2
    have z1 := pd_pmul (p := p) s1.2.1 s3.2.1
    have z1f : Fin (pmul p (eS p a.1 b.1) (cS p a b)) := pmul_fin s1.2.1 s3.2.1 (by omega)
    have z2 := pd_pmul (p := p) z1f ra.1.2
    have z2f : Fin (pmul p (pmul p (eS p a.1 b.1) (cS p a b)) a.1) := pmul_fin z1f ra.1.2 (by omega)
    have z3f : Fin (cM1 p a b) := pmul_fin z2f rb.2.1.2 (by omega)
    have y1 := pd_pmul (p := p) s2.2.1 s3.2.1
    have y1f : Fin (pmul p (eT p a.1 b.1) (cS p a b)) := pmul_fin s2.2.1 s3.2.1 (by omega)
    have y2 := pd_pmul (p := p) y1f rb.1.2
    have y2f : Fin (pmul p (pmul p (eT p a.1 b.1) (cS p a b)) b.1) := pmul_fin y1f rb.1.2 (by omega)
    have y3f : Fin (cM2 p a b) := pmul_fin y2f ra.2.1.2 (by omega)
    exact padd_fin (padd_fin (pmul_fin c1 s4.2.1 (by omega)) z3f) y3f
  have eV3' : co V3' = dvQ p (cV p (co F) a b) (cG p a b) := by rw [cR_dvQ hP fV fD pD rfl, cv, eD]
  have fV3' : Fin (co V3') := fin_fac hP fV fD pD rfl
  have eU3' : Fin (co (y1 * x1 * (y1 * x2))) := by rw [eU3]; exact u1.2
  obtain ⟨k, V3, -, j2, j3⟩ := cR_div hP (f := V3') (g := y1 * x1 * (y1 * x2)) fV3' eU3' (by rw [eU3]; exact u2)
  have eV3 : co V3 = cV3 p (co F) a b := by rw [j2, eV3', eU3]; rfl
  obtain ⟨W, hW⟩ := cmp_val hP D0 f1 f2 hu1 hu2 n6 he hV3' rfl j3
  have fW : Fin (co W) := by
    have hpdF := hC.2.2.2.1
    have := fin_nW hP (F := F) (U := y1 * x1 * (y1 * x2)) (V := V3) (W := W) hC.2.2.1 eU3' (by rw [eV3]; exact v1.2) (by rw [eV3]; omega) (by rw [eU3]; exact u2) hW
    exact this.2.1
  refine ⟨y1 * x1 * (y1 * x2), V3, eU3, eV3, (Vl_ring hP (a := ccomp p (co F) a b) eU3 eV3).mpr ⟨W, fW, hW⟩, ?_⟩
  exact cmp_eqv hP hS D0 f1 f2 hu1 hu2 n6 he hV3' rfl j3
