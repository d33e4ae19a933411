/-! ===== classes form a group ===== -/
theorem red_ring {R : Type} [Lean.Grind.CommRing R] {p : Int} {co : R → Nat → Int} (hP : PolR p co) {g : Int} {F U V : R} {a : UV} (hC : CF p g (co F)) (ha : RQ p g a) (hv : Vl p (co F) a) (hgt : g < pd a.1) (hU : co U = a.1) (hV : co V = a.2) : ∃ U' V' : R, co U' = (rstep p (co F) a).1 ∧ co V' = (rstep p (co F) a).2 ∧ Vl p (co F) (rstep p (co F) a) ∧ Eqv F (IdL U V) (IdL U' V') := by
  have hr := hP.1.rg
  have hg := hC.2.2.2.2
  obtain ⟨-, s2, s3, s4⟩ := rstep_ok hC ha hgt
  obtain ⟨W, w1, f⟩ := (Vl_ring hP hU hV).mp hv
  have pdV : pd (co V) ≤ 9 := by rw [hV]; have := pd_ge a.2; omega
  obtain ⟨n1, n2, n3⟩ := fin_nW hP (F := F) (U := U) (V := V) (W := W) hC.2.2.1 (by rw [hU]; exact ha.1.2) (by rw [hV]; exact ha.2.1.2) pdV (by rw [hU]; exact ha.2.2.1) f
  have eW : co W = (rstep p (co F) a).1 := by
    rw [n3, cR_sub hP, cR_mul hP, hU, hV]; rfl
  have W0 : 0 ≤ pd (co W) := by rw [eW]; exact s3.2.2.1
  have fV : Fin (co (-V)) := by rw [cR_neg hP, hV]; exact pscl_fin ha.2.1.2
  obtain ⟨k, V', -, j2, j3⟩ := cR_div hP (f := -V) (g := W) fV w1 W0
  have eV' : co V' = (rstep p (co F) a).2 := by
    rw [j2, cR_neg hP, hV, eW]; rfl
  obtain ⟨W', hW'⟩ := red_val f j3
  have fW' : Fin (co W') := by
    have p2 := s3.2.2.2.2
    have p3 := s3.2.2.2.1
    have := fin_nW hP (F := F) (U := W) (V := V') (W := W') hC.2.2.1 w1 (by rw [eV']; exact s3.2.1.2) (by rw [eV']; omega) W0 hW'
    exact this.2.1
  refine ⟨W, V', eW, eV', (Vl_ring hP eW eV').mpr ⟨W', fW', hW'⟩, red_eqv hP (cR_nz hP (by rw [hU]; exact ha.2.2.1)) (cR_nz hP W0) f j3⟩
theorem rdn_ring {R : Type} [Lean.Grind.CommRing R] {p : Int} {co : R → Nat → Int} (hP : PolR p co) {g : Int} {F U V : R} {a : UV} (hC : CF p g (co F)) (ha : RQ p g a) (hv : Vl p (co F) a) (hU : co U = a.1) (hV : co V = a.2) (m : Nat) : ∃ U' V' : R, co U' = (rdn p (co F) g (m + 1) a).1 ∧ co V' = (rdn p (co F) g (m + 1) a).2 ∧ Vl p (co F) (rdn p (co F) g (m + 1) a) ∧ Eqv F (IdL U V) (IdL U' V') := by
  unfold rdn
  by_cases c : pd a.1 ≤ g
  · rw [if_pos c]
    exact ⟨U, V, hU, hV, hv, Eqv.of hP (fun _ => Iff.rfl)⟩
  · rw [if_neg c]
    obtain ⟨U', V', h1, h2, h3, h4⟩ := red_ring hP hC ha hv (by omega) hU hV
    have e := rdn_stop (p := p) (F := co F) (rstep_ok hC ha (by omega)).2.2.2 m
    rw [e]
    exact ⟨U', V', h1, h2, h3, h4⟩
theorem plus_ring {R : Type} [Lean.Grind.CommRing R] {p : Int} {co : R → Nat → Int} (hP : PolR p co) {g : Int} {F U1 V1 U2 V2 : R} {a b : UV} (hC : CF p g (co F)) (hS : SqF p co F) (ha : GP p g (co F) a) (hb : GP p g (co F) b) (hU1 : co U1 = a.1) (hV1 : co V1 = a.2) (hU2 : co U2 = b.1) (hV2 : co V2 = b.2) : GP p g (co F) (cplus p (co F) g a b) ∧ ∃ U V : R, co U = (cplus p (co F) g a b).1 ∧ co V = (cplus p (co F) g a b).2 ∧ Eqv F (ppr F (IdL U1 V1) (IdL U2 V2)) (IdL U V) := by
  have hr := hP.1.rg
  obtain ⟨U3, V3, c1, c2, c3, c4⟩ := comp_ring hP hC hS ha hb hU1 hV1 hU2 hV2
  have rq := ccomp_rq hC ha.1 hb.1
  obtain ⟨U, V, d1, d2, d3, d4⟩ := rdn_ring hP hC rq c3 c1 c2 3
  obtain ⟨r1, r2⟩ := rdn_ok hC rq 3
  have hl := pd_lead r1.1.1 r1.2.2.1
  obtain ⟨k, hk⟩ := cR_cst hP (inv p ((rdn p (co F) g 4 (ccomp p (co F) a b)).1 (pd (rdn p (co F) g 4 (ccomp p (co F) a b)).1).toNat))
  obtain ⟨k', hk'⟩ := cR_cst hP ((rdn p (co F) g 4 (ccomp p (co F) a b)).1 (pd (rdn p (co F) g 4 (ccomp p (co F) a b)).1).toNat)
  have kk : k * k' = 1 := cst_inv hP (by
    rw [Int.mul_comm]
    exact inv_mul hP.1 hl) hk hk'
  have eU : co (U * k) = (cplus p (co F) g a b).1 := by
    rw [hk, d1]; rfl
  have eV : co V = (cplus p (co F) g a b).2 := by
    rw [d2]; rfl
  obtain ⟨W, w1, w2⟩ := (Vl_ring hP d1 d2).mp d3
  refine ⟨⟨cplus_ok hC ha.1 hb.1, (Vl_ring hP eU eV).mpr ⟨W * k', ?_, ?_⟩⟩, U * k, V, eU, eV, ?_⟩
  · rw [hk']; exact pscl_fin w1
  · have : U * k * (W * k') = U * W * (k * k') := by grind
    rw [this, kk, w2]; grind
  · exact (c4.tr hP d4).tr hP (Eqv.of hP (fun s => (Id_unit kk).symm))
theorem eqv_eq {R : Type} [Lean.Grind.CommRing R] {p : Int} {co : R → Nat → Int} (hP : PolR p co) {g : Int} {F U1 V1 U2 V2 : R} {a b : UV} (hC : CF p g (co F)) (ha : RP p g a) (hb : RP p g b) (hU1 : co U1 = a.1) (hV1 : co V1 = a.2) (hU2 : co U2 = b.1) (hV2 : co V2 = b.2) (h : Eqv F (IdL U1 V1) (IdL U2 V2)) : a = b := by
  obtain ⟨-, -, f1, f2, f3⟩ := hC
  have dF : DE co F (2 * g.toNat + 1) := by
    have := cR_DE (co := co) (a := F) f1 (by omega)
    rw [show (pd (co F)).toNat = 2 * g.toNat + 1 from by omega] at this
    exact this
  have rep : ∀ {c : UV} {U V : R}, RP p g c → co U = c.1 → co V = c.2 → DE co U (pd c.1).toNat ∧ co U (pd c.1).toNat = 1 ∧ (pd c.1).toNat ≤ g.toNat ∧ Dg co V (pd c.1).toNat := fun {c U V} hc e1 e2 => by
    obtain ⟨⟨-, c2⟩, ⟨-, c4⟩, c5, c6, c7, c8⟩ := hc
    have d := cR_DE (co := co) (a := U) (by rw [e1]; exact c2) (by rw [e1]; exact c5)
    rw [e1] at d
    exact ⟨d, by rw [e1]; exact c8, by omega, fun i hi => by rw [e2]; exact pd_hi c4 i (by omega)⟩
  obtain ⟨a1, a2, a3, a4⟩ := rep ha hU1 hV1
  obtain ⟨b1, b2, b3, b4⟩ := rep hb hU2 hV2
  obtain ⟨e1, e2⟩ := uniq hP dF a1 a2 a3 a4 b1 b2 b3 b4 h
  exact Prod.ext (by rw [← hU1, ← hU2, e1]) (by rw [← hV1, ← hV2, e2])
theorem with_ring {p g : Int} {F : Nat → Int} (hC : CF p g F) {C : Prop} (h : ∀ (R : Type) (_ : Lean.Grind.CommRing R) (co : R → Nat → Int) (f : R), PolR p co → co f = F → C) : C := by
  have hr := hC.1.rg
  exact h (Py p) (pyRing (by omega)) Subtype.val ⟨F, hC.2.1, 24, hC.2.2.1⟩ (py_Pol hC.1 (by omega)) rfl
theorem GP.rep {R : Type} [Lean.Grind.CommRing R] {p : Int} {co : R → Nat → Int} (hP : PolR p co) {g : Int} {F : Nat → Int} {a : UV} (h : GP p g F a) : ∃ U V : R, co U = a.1 ∧ co V = a.2 := by
  obtain ⟨U, hU⟩ := cR_mk hP h.1.1.1 h.1.1.2
  obtain ⟨V, hV⟩ := cR_mk hP h.1.2.1.1 h.1.2.1.2
  exact ⟨U, V, hU, hV⟩
/-- a curve without squares -/
def CS (p g : Int) (F : Nat → Int) : Prop := CF p g F ∧ SFr2 p F
theorem plus_GP {p g : Int} {F : Nat → Int} {a b : UV} (hC : CS p g F) (ha : GP p g F a) (hb : GP p g F b) : GP p g F (cplus p F g a b) :=
  with_ring hC.1 (fun R _ co f hP e => by
    obtain ⟨U1, V1, h1, h2⟩ := ha.rep hP
    obtain ⟨U2, V2, h3, h4⟩ := hb.rep hP
    subst e
    exact (plus_ring hP hC.1 (sqf_ring hP hC.1 hC.2) ha hb h1 h2 h3 h4).1)
theorem plus_comm {p g : Int} {F : Nat → Int} {a b : UV} (hC : CS p g F) (ha : GP p g F a) (hb : GP p g F b) : cplus p F g a b = cplus p F g b a :=
  with_ring hC.1 (fun R _ co f hP e => by
    obtain ⟨U1, V1, h1, h2⟩ := ha.rep hP
    obtain ⟨U2, V2, h3, h4⟩ := hb.rep hP
    subst e
    have hS := sqf_ring hP hC.1 hC.2
    obtain ⟨g1, U, V, x1, x2, x3⟩ := plus_ring hP hC.1 hS ha hb h1 h2 h3 h4
    obtain ⟨g2, U', V', y1, y2, y3⟩ := plus_ring hP hC.1 hS hb ha h3 h4 h1 h2
    exact eqv_eq hP hC.1 g1.1 g2.1 x1 x2 y1 y2 ((x3.sy.tr hP (Eqv.of hP (fun _ => ⟨ppr_comm, ppr_comm⟩))).tr hP y3))
theorem plus_assoc {p g : Int} {F : Nat → Int} {a b c : UV} (hC : CS p g F) (ha : GP p g F a) (hb : GP p g F b) (hc : GP p g F c) : cplus p F g (cplus p F g a b) c = cplus p F g a (cplus p F g b c) :=
  with_ring hC.1 (fun R _ co f hP e => by
    obtain ⟨U1, V1, h1, h2⟩ := ha.rep hP
    obtain ⟨U2, V2, h3, h4⟩ := hb.rep hP
    obtain ⟨U3, V3, h5, h6⟩ := hc.rep hP
    subst e
    have hS := sqf_ring hP hC.1 hC.2
    obtain ⟨g1, X, Y, x1, x2, x3⟩ := plus_ring hP hC.1 hS ha hb h1 h2 h3 h4
    obtain ⟨g2, X', Y', y1, y2, y3⟩ := plus_ring hP hC.1 hS hb hc h3 h4 h5 h6
    obtain ⟨g3, S, T, z1, z2, z3⟩ := plus_ring hP hC.1 hS g1 hc x1 x2 h5 h6
    obtain ⟨g4, S', T', w1, w2, w3⟩ := plus_ring hP hC.1 hS ha g2 h1 h2 y1 y2
    refine eqv_eq hP hC.1 g3.1 g4.1 z1 z2 w1 w2 ?_
    exact (((z3.sy.tr hP x3.sy.pp).tr hP (Eqv.of hP (fun _ => ⟨ppr_asc, ppr_asc'⟩))).tr hP (Eqv.pp2 hP y3)).tr hP w3)
theorem zero_GP {p g : Int} {F : Nat → Int} (hC : CF p g F) : GP p g F czero :=
  with_ring hC (fun R _ co f hP e => by
    subst e
    have c1 : co (1 : R) = pone := funext fun i => by rw [hP.2.2.2.2.2.1]; rfl
    have c0 : co (0 : R) = pzero := funext fun i => hP.2.2.2.2.1 i
    have hg := hC.2.2.2.2
    exact ⟨czero_ok hC.1 (by omega), (Vl_ring hP (a := czero) c1 c0).mpr ⟨f, hC.2.2.1, by grind⟩⟩)
theorem plus_zero {p g : Int} {F : Nat → Int} {a : UV} (hC : CS p g F) (ha : GP p g F a) : cplus p F g a czero = a :=
  with_ring hC.1 (fun R _ co f hP e => by
    obtain ⟨U1, V1, h1, h2⟩ := ha.rep hP
    subst e
    have c1 : co (1 : R) = pone := funext fun i => by rw [hP.2.2.2.2.2.1]; rfl
    have c0 : co (0 : R) = pzero := funext fun i => hP.2.2.2.2.1 i
    have hS := sqf_ring hP hC.1 hC.2
    obtain ⟨g1, U, V, x1, x2, x3⟩ := plus_ring hP hC.1 hS ha (zero_GP hC.1) h1 h2 (b := czero) c1 c0
    obtain ⟨W, -, hW⟩ := (Vl_ring hP h1 h2).mp ha.2
    exact eqv_eq hP hC.1 g1.1 ha.1 x1 x2 h1 h2 (x3.sy.tr hP (Eqv.of hP (fun s => all_id ⟨W, hW⟩))))
theorem neg_GP {p g : Int} {F : Nat → Int} {a : UV} (hC : CF p g F) (ha : GP p g F a) : GP p g F (cneg p a) :=
  with_ring hC (fun R _ co f hP e => by
    obtain ⟨U1, V1, h1, h2⟩ := ha.rep hP
    subst e
    obtain ⟨W, w1, hW⟩ := (Vl_ring hP h1 h2).mp ha.2
    exact ⟨cneg_ok hC.1 ha.1, (Vl_ring hP (a := cneg p a) (U := U1) (V := -V1) h1 (by rw [cR_neg hP, h2]; rfl)).mpr ⟨W, w1, by rw [hW]; grind⟩⟩)
theorem plus_neg {p g : Int} {F : Nat → Int} {a : UV} (hC : CS p g F) (ha : GP p g F a) : cplus p F g a (cneg p a) = czero :=
  with_ring hC.1 (fun R _ co f hP e => by
    obtain ⟨U1, V1, h1, h2⟩ := ha.rep hP
    subst e
    have c1 : co (1 : R) = pone := funext fun i => by rw [hP.2.2.2.2.2.1]; rfl
    have c0 : co (0 : R) = pzero := funext fun i => hP.2.2.2.2.1 i
    have hS := sqf_ring hP hC.1 hC.2
    obtain ⟨W, w1, hW⟩ := (Vl_ring hP h1 h2).mp ha.2
    have h3 : co (-V1) = (cneg p a).2 := by rw [cR_neg hP, h2]; rfl
    obtain ⟨g1, U, V, x1, x2, x3⟩ := plus_ring hP hC.1 hS ha (neg_GP hC.1 ha) h1 h2 (b := cneg p a) h1 h3
    exact eqv_eq hP hC.1 g1.1 (zero_GP hC.1).1 x1 x2 c1 c0 (x3.sy.tr hP (neg_eqv hP hS (cR_nz hP (by rw [h1]; exact ha.1.2.2.1)) hW)))
theorem zero_plus {p g : Int} {F : Nat → Int} {a : UV} (hC : CS p g F) (ha : GP p g F a) : cplus p F g czero a = a := by
  rw [plus_comm hC (zero_GP hC.1) ha, plus_zero hC ha]
/-- what is alike behind a sum was alike ahead of it -/
theorem plus_can {p g : Int} {F : Nat → Int} {a b c : UV} (hC : CS p g F) (ha : GP p g F a) (hb : GP p g F b) (hc : GP p g F c) (h : cplus p F g a c = cplus p F g b c) : a = b := by
  have e : ∀ d : UV, GP p g F d → cplus p F g (cplus p F g d c) (cneg p c) = d := fun d hd => by
    rw [plus_assoc hC hd hc (neg_GP hC.1 hc), plus_neg hC hc, plus_zero hC hd]
  rw [← e a ha, h, e b hb]
theorem pnt_GP {p g : Int} {F : Nat → Int} (hC : CF p g F) {X Y : Int} (h : Y * Y % p = ev p F X) : GP p g F (pnt p X Y) :=
  with_ring hC (fun R _ co f hP e => by
    subst e
    have hr := hC.1.rg
    have hg := hC.2.2.2.2
    have rp := ulin_ok (p := p) (g := g) (X := X) hC.1 (by omega) Y
    obtain ⟨U, hU⟩ := cR_mk hP rp.1.1 rp.1.2
    obtain ⟨V, hV⟩ := cR_mk hP rp.2.1.1 rp.2.1.2
    refine ⟨rp, (Vl_ring hP hU hV).mpr ?_⟩
    have d1 : pd (co U) = 1 := by rw [hU]; exact pd_eq (m := 1) (by decide) (by show ulin p X 1 ≠ 0; unfold ulin; rw [if_neg (by decide), if_pos rfl]; decide) (fun i hi => by show ulin p X i = 0; unfold ulin; rw [if_neg (by omega), if_neg (by omega)])
    have fV : pd (co V) ≤ 0 := by rw [hV]; exact pd_le (by decide) (fun i hi => by show pcon (Y % p) i = 0; unfold pcon; rw [if_neg (by omega)])
    have fF : Fin (co (f - V * V)) := by rw [cR_sub hP, cR_mul hP]; exact padd_fin hC.2.2.1 (pmul_fin (by rw [hV]; exact rp.2.1.2) (by rw [hV]; exact rp.2.1.2) (by omega))
    obtain ⟨q, r, q1, q2, q3⟩ := cR_div hP (f := f - V * V) (g := U) fF (by rw [hU]; exact rp.1.2) (by omega)
    have lt := pd_dvR_lt hC.1 fF (cR_in hP U) (by omega)
    rw [← q2] at lt
    have fr : Fin (co r) := by rw [q2]; exact dvr_fin fF (by omega)
    -- the rest is the value at X, and that is 0
    have r0 : r = 0 := by
      refine hP.z (fun i _ => ?_)
      by_cases ci : i = 0
      · rw [ci]
        have evm : ∀ a : R, Fin (co a) → ∀ X : Int, ev p (co a) X = smT 24 (fun i => co a i * X ^ i) % p := fun a fa X => by
          unfold ev
          rw [hor_sum (by omega) 24 0 ⟨by omega, by omega⟩, Int.zero_mul, Int.zero_add]
        have key : ∀ (S : Type) (_ : Lean.Grind.CommRing S) (cs : S → Nat → Int) (c : Int → S) (tp : Nat → S), SerR p cs c tp → co r 0 = 0 := fun S _ cs c tp hS => by
          have E : ∀ a : R, EV c (c X) 24 (co a) = EV c (c X) 24 (co a) := fun a => rfl
          have dl : ∀ a : R, Fin (co a) → Dlt (co a) 24 := fun a fa => fa
          have eU : EV c (c X) 24 (co U) = 0 := by
            rw [hU]
            have d2 : Dlt (pnt p X Y).1 2 := fun i hi => by show ulin p X i = 0; unfold ulin; rw [if_neg (by omega), if_neg (by omega)]
            rw [EV_bd hS.2.1 (c X) (show 2 ≤ 24 by decide) d2]
            show c ((-X) % p) + c X * (c 1 + c X * 0) = 0
            rw [hS.2.1.2.2.1, c_neg hS.2.1, hS.2.1.2.2.2.2]; grind
          have eV : EV c (c X) 24 (co V) = c Y := by
            rw [hV]
            have d2 : Dlt (pnt p X Y).2 1 := fun i hi => by show pcon (Y % p) i = 0; unfold pcon; rw [if_neg (by omega)]
            rw [EV_bd hS.2.1 (c X) (show 1 ≤ 24 by decide) d2]
            show c (Y % p) + c X * 0 = c Y
            rw [hS.2.1.2.2.1]; grind
          have er : EV c (c X) 24 (co r) = c (co r 0) := by
            have d2 : Dlt (co r) 1 := fun i hi => pd_hi fr i (by omega)
            rw [EV_bd hS.2.1 (c X) (show 1 ≤ 24 by decide) d2]
            show c (co r 0) + c X * 0 = c (co r 0)
            grind
          have eF : EV c (c X) 24 (co f) = c (Y * Y) := by
            rw [show c (Y * Y) = c (Y * Y % p) from (hS.2.1.2.2.1 _).symm, h]
            have := ev_co hS (θ := c X) (X := X) (by rw [hS.2.2.2.2.2.1, if_pos rfl]) (co f)
            rw [this]
            -- a constant series
            have cst : ∀ (n : Nat) (w : Nat → Int), ∃ k : Int, EV c (c X) n w = c k := fun n => by
              induction n with
              | zero => exact fun w => ⟨0, by show (0 : S) = c 0; rw [hS.2.1.2.2.2.1]⟩
              | succ n ih =>
                intro w
                obtain ⟨k, hk⟩ := ih (shL w)
                exact ⟨w 0 + X * k, by show c (w 0) + c X * EV c (c X) n (shL w) = _; rw [hk, hS.2.1.1, hS.2.1.2.1]⟩
            obtain ⟨k, hk⟩ := cst 24 (co f)
            rw [hk, hS.2.2.2.2.2.1, if_pos rfl, hS.2.1.2.2.1]
          have tot : f = V * V + (U * q + r) := by rw [← q3]; grind
          have fVV : Dlt (co V) 1 := fun i hi => pd_hi (by rw [hV]; exact rp.2.1.2) i (by omega)
          have fUU : Dlt (co U) 2 := fun i hi => pd_hi (by rw [hU]; exact rp.1.2) i (by omega)
          have fq : Dlt (co q) 22 := fun i hi => by
            rw [q1]
            have := pd_dvQ (p := p) (f := co (f - V * V)) (g := co U)
            have k5 : pd (co (f - V * V)) ≤ 5 := by
              rw [cR_sub hP, cR_mul hP]
              have fv : Fin (co V) := by rw [hV]; exact rp.2.1.2
              have z1 := pd_pmul (p := p) fv fv
              have z2 := pd_padd (p := p) (c := -1) hC.2.2.1 (pmul_fin (p := p) fv fv (by omega))
              have z3 := hC.2.2.2.1
              omega
            exact pd_hi (dvq_fin (by omega)) i (by omega)
          have eq : EV c (c X) 24 (co f) = EV c (c X) 24 (co V) * EV c (c X) 24 (co V) + (EV c (c X) 24 (co U) * EV c (c X) 24 (co q) + EV c (c X) 24 (co r)) := by
            conv => lhs; rw [tot]
            rw [cR_add hP, EV_padd hS.2.1, cR_mul hP, EV_pmul hS.2.1 (c X) fVV fVV (by decide), cR_add hP, EV_padd hS.2.1, cR_mul hP, EV_pmul hS.2.1 (c X) fUU fq (by decide), hS.2.1.2.2.2.2]
            grind
          rw [eU, eV, er, eF, hS.2.1.2.1] at eq
          have z : c (co r 0) = 0 := by grind
          have := hS.2.2.2.2.2.1 (co r 0) 0
          rw [z, if_pos rfl, co_0 hS, Int.emod_eq_of_lt (hP.2.1 r 0).1 (hP.2.1 r 0).2] at this
          exact this.symm
        exact key _ (srRing (by omega)) _ _ _ (sr_Ser hC.1 (by omega))
      · exact pd_hi fr i (by omega)
    exact ⟨q, by rw [q1]; exact dvq_fin (by omega), by rw [r0] at q3; grind⟩)
