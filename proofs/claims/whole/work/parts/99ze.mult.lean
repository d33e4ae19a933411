/-! ===== how often a number is a root ===== -/
theorem ev_cst {p : Int} (hp : IsP p) {f : Nat → Int} (h : Dlt f 1) (X : Int) : ev p f X = f 0 % p := by
  have hr := hp.rg
  unfold ev
  rw [hor_sum (by omega) 24 0 ⟨by omega, by omega⟩, Int.zero_mul, Int.zero_add, smT_one (k := 0) (by decide) (fun i _ hi => by rw [h i (by omega), Int.zero_mul]), Int.pow_zero, Int.mul_one]
theorem lin_div {p : Int} (hp : IsP p) {f : Nat → Int} (jf : InP p f) (df : Dlt f 10) {X : Int} (h0 : ev p f X = 0) : f = pmul p (lin p X) (dvQ p f (lin p X)) ∧ InP p (dvQ p f (lin p X)) ∧ Dlt (dvQ p f (lin p X)) 9 ∧ (0 ≤ pd f → pd (dvQ p f (lin p X)) + 1 = pd f ∧ 0 ≤ pd (dvQ p f (lin p X))) := by
  have hr := hp.rg
  have hp1 : 1 < p := by omega
  have il := lin_in (X := X) hp1
  have pl := pd_lin (p := p) X
  have fl : Fin (lin p X) := fun i hi => by unfold lin; rw [if_neg (by omega), if_neg (by omega)]
  have ff : Fin f := Dlt_fin df (by decide)
  have hd := Dlt_pd df (by decide)
  have iQ : InP p (dvQ p f (lin p X)) := dvQ_in (by omega)
  have dQ : Dlt (dvQ p f (lin p X)) 9 := fun i hi => by
    unfold dvQ
    exact dvq_hi _ _ i (by rw [pl]; omega)
  have iR : InP p (dvR p f (lin p X)) := dvR_in (by omega) jf
  have dR : Dlt (dvR p f (lin p X)) 1 := fun i hi => by
    have h1 := pd_dvR_lt hp ff il (g := lin p X) (by omega)
    exact pd_hi (dvr_fin ff (by omega)) i (by omega)
  have e := dv_id (p := p) jf fl (by omega)
  have hS := sr_Ser hp hp1
  have key : ∀ (R : Type) (_ : Lean.Grind.CommRing R) (co : R → Nat → Int) (c : Int → R) (tp : Nat → R), SerR p co c tp → dvR p f (lin p X) 0 = 0 := fun R _ co c tp hS => by
    have hX := th_0 hS X (sh := 1) (Nat.le_refl 1)
    have e1 := ev_co hS hX f
    rw [h0, e, EV_padd hS.2.1, EV_pmul hS.2.1 _ (n := 2) (m := 9) (fun i hi => by unfold lin; rw [if_neg (by omega), if_neg (by omega)]) dQ (by decide), EV_lin0 hS, hS.2.1.2.2.2.2] at e1
    rw [hS.2.2.2.1, co_t hS, if_neg (by omega), Int.zero_add, show (1 : R) * EV c (c X + tp 1) 24 (dvR p f (lin p X)) = EV c (c X + tp 1) 24 (dvR p f (lin p X)) by grind, ← ev_co hS hX, ev_cst hp dR] at e1
    have r := iR 0
    rw [Int.emod_emod, Int.emod_eq_of_lt r.1 r.2] at e1
    exact e1.symm
  have r0 := key (Sr p) (srRing hp1) _ _ _ hS
  have rz : ∀ i, dvR p f (lin p X) i = 0 := fun i => by
    cases i with
    | zero => exact r0
    | succ i => exact dR (i + 1) (by omega)
  refine ⟨?_, iQ, dQ, fun h => ?_⟩
  · refine e.trans (funext fun i => ?_)
    show (pmul p (lin p X) (dvQ p f (lin p X)) i + 1 * dvR p f (lin p X) i) % p = _
    rw [rz i, Int.mul_zero, Int.add_zero]
    exact in_md (pmul_in (by omega)) i
  · by_cases c : pd f = 0
    · have d1 : Dlt f 1 := fun i hi => pd_hi ff i (by omega)
      have l := pd_lead jf h
      rw [c] at l
      rw [ev_cst hp d1] at h0
      have l2 : 0 < f 0 ∧ f 0 < p := l
      rw [Int.emod_eq_of_lt (by omega) l2.2] at h0
      omega
    · have := pd_dvQ_eq hp jf il (by omega) (by omega : pd (lin p X) ≤ pd f)
      omega
theorem ofQ_ser {p : Int} (hp : IsP p) {X : Int} : ∀ (m : Nat) (f : Nat → Int), InP p f → Dlt f 10 → (InP p (ofQ p X m f).2 ∧ Dlt (ofQ p X m f).2 10) ∧ ((ofQ p X m f).1 = m ∨ ev p (ofQ p X m f).2 X ≠ 0) ∧ (0 ≤ pd f → ((ofQ p X m f).1 : Int) + pd (ofQ p X m f).2 = pd f ∧ 0 ≤ pd (ofQ p X m f).2) ∧ ∀ (R : Type) (_ : Lean.Grind.CommRing R) (co : R → Nat → Int) (c : Int → R) (tp : Nat → R), SerR p co c tp → ∀ sh : Nat, EV c (c X + tp sh) 24 f = tp sh ^ (ofQ p X m f).1 * EV c (c X + tp sh) 24 (ofQ p X m f).2
  | 0, f, jf, df => ⟨⟨jf, df⟩, Or.inl rfl, fun h => ⟨by show (0 : Int) + pd f = pd f; omega, h⟩, fun R _ co c tp hS sh => by
      show _ = tp sh ^ 0 * EV c (c X + tp sh) 24 f
      rw [Lean.Grind.Semiring.pow_zero]; grind⟩
  | m + 1, f, jf, df => by
    by_cases h0 : ev p f X = 0
    · obtain ⟨e1, e2, e3, e4⟩ := lin_div hp jf df h0
      have ih := ofQ_ser hp (X := X) m (dvQ p f (lin p X)) e2 (fun i hi => e3 i (by omega))
      have eq : ofQ p X (m + 1) f = ((ofQ p X m (dvQ p f (lin p X))).1 + 1, (ofQ p X m (dvQ p f (lin p X))).2) := by
        conv => lhs; unfold ofQ
        rw [if_pos h0]
      rw [eq]
      refine ⟨ih.1, ih.2.1.imp (fun h => by show _ + 1 = m + 1; omega) id, fun h => ?_, fun R _ co c tp hS sh => ?_⟩
      · obtain ⟨a1, a2⟩ := e4 h
        obtain ⟨b1, b2⟩ := ih.2.2.1 a2
        exact ⟨by show (((ofQ p X m (dvQ p f (lin p X))).1 + 1 : Nat) : Int) + pd (ofQ p X m (dvQ p f (lin p X))).2 = pd f; omega, b2⟩
      · have := ih.2.2.2 R _ co c tp hS sh
        show EV c (c X + tp sh) 24 f = tp sh ^ ((ofQ p X m (dvQ p f (lin p X))).1 + 1) * EV c (c X + tp sh) 24 (ofQ p X m (dvQ p f (lin p X))).2
        conv => lhs; rw [e1]
        rw [EV_pmul hS.2.1 _ (n := 2) (m := 9) (fun i hi => by unfold lin; rw [if_neg (by omega), if_neg (by omega)]) e3 (by decide), EV_lin0 hS, this, Lean.Grind.Semiring.pow_succ]
        grind
    · have eq : ofQ p X (m + 1) f = (0, f) := by
        conv => lhs; unfold ofQ
        rw [if_neg h0]
      rw [eq]
      exact ⟨⟨jf, df⟩, Or.inr h0, fun h => ⟨by show (0 : Int) + pd f = pd f; omega, h⟩, fun R _ co c tp hS sh => by
        show _ = tp sh ^ 0 * EV c (c X + tp sh) 24 f
        rw [Lean.Grind.Semiring.pow_zero]; grind⟩
/-- so often, exactly -/
theorem mult_or {p : Int} (hp : IsP p) {X : Int} {f : Nat → Int} (jf : InP p f) (df : Dlt f 10) (h0 : 0 ≤ pd f) : mOo p X f = ((ofQ p X 90 f).1 : Int) ∧ ((ofQ p X 90 f).1 : Int) ≤ pd f ∧ ∀ (R : Type) (_ : Lean.Grind.CommRing R) (co : R → Nat → Int) (c : Int → R) (tp : Nat → R), SerR p co c tp → ∀ sh : Nat, 1 ≤ sh → OrS co (EV c (c X + tp sh) 24 f) (sh * (ofQ p X 90 f).1) := by
  obtain ⟨⟨a1, a2⟩, a3, a4, a5⟩ := ofQ_ser hp (X := X) 90 f jf df
  obtain ⟨b1, b2⟩ := a4 h0
  have hd := Dlt_pd df (by decide)
  refine ⟨by unfold mOo; rw [if_neg (by omega)], by omega, fun R _ co c tp hS sh hs => ?_⟩
  rw [a5 R _ co c tp hS sh]
  have h1 : ev p (ofQ p X 90 f).2 X ≠ 0 := a3.resolve_left (by omega)
  refine OrS.mul hS (l := 0) (OrS.pow hS (OrS.tp hS sh) _) ⟨fun j hj => by omega, ?_⟩
  rw [← ev_co hS (th_0 hS X hs)]
  exact h1
/-- one that is 0, or is a root at least so often -/
theorem mult_ge {p : Int} (hp : IsP p) {X : Int} {f : Nat → Int} (jf : InP p f) (df : Dlt f 10) {m : Nat} (hm : (m : Int) ≤ mOo p X f) : (ofQ p X m f).1 = m ∧ ((m : Int) = mOo p X f → m < 90 → ev p (ofQ p X m f).2 X ≠ 0) := by
  have mono : ∀ (k m : Nat) (f : Nat → Int), m ≤ (ofQ p X (m + k) f).1 → (ofQ p X m f).1 = m ∧ ((ofQ p X (m + k) f).1 = m → ofQ p X (m + k) f = ofQ p X m f) := by
    intro k m
    induction m with
    | zero => exact fun f _ => ⟨rfl, fun h => by
        cases k with
        | zero => rfl
        | succ k =>
          by_cases c : ev p f X = 0
          · have eq : ofQ p X (0 + (k + 1)) f = ((ofQ p X k (dvQ p f (lin p X))).1 + 1, (ofQ p X k (dvQ p f (lin p X))).2) := by
              rw [Nat.zero_add]
              conv => lhs; unfold ofQ
              rw [if_pos c]
            rw [eq] at h
            have h : (ofQ p X k (dvQ p f (lin p X))).1 + 1 = 0 := h
            omega
          · rw [Nat.zero_add]
            conv => lhs; unfold ofQ
            rw [if_neg c]
            rfl⟩
    | succ m ih =>
      intro f h
      have e9 : m + 1 + k = (m + k) + 1 := by omega
      rw [e9] at h ⊢
      by_cases c : ev p f X = 0
      · have eq : ∀ q : Nat, ofQ p X (q + 1) f = ((ofQ p X q (dvQ p f (lin p X))).1 + 1, (ofQ p X q (dvQ p f (lin p X))).2) := fun q => by
          conv => lhs; unfold ofQ
          rw [if_pos c]
        rw [eq] at h ⊢
        rw [eq]
        have h : m + 1 ≤ (ofQ p X (m + k) (dvQ p f (lin p X))).1 + 1 := h
        obtain ⟨i1, i2⟩ := ih (dvQ p f (lin p X)) (by omega)
        refine ⟨by show _ + 1 = m + 1; omega, fun h2 => ?_⟩
        have h2 : (ofQ p X (m + k) (dvQ p f (lin p X))).1 + 1 = m + 1 := h2
        rw [i2 (by omega)]
      · have eq : ofQ p X (m + k + 1) f = (0, f) := by
          conv => lhs; unfold ofQ
          rw [if_neg c]
        rw [eq] at h
        have h : m + 1 ≤ 0 := h
        omega
  by_cases h0 : 0 ≤ pd f
  · obtain ⟨a1, a2, -⟩ := mult_or hp jf df h0 (X := X)
    rw [a1] at hm ⊢
    have hd := Dlt_pd df (by decide)
    have m90 : m ≤ 90 := by omega
    have := mono (90 - m) m f (by rw [show m + (90 - m) = 90 from by omega]; omega)
    rw [show m + (90 - m) = 90 from by omega] at this
    refine ⟨this.1, fun e _ => ?_⟩
    rw [← this.2 (by omega)]
    obtain ⟨-, b3, -, -⟩ := ofQ_ser hp (X := X) 90 f jf df
    exact b3.resolve_left (by omega)
  · have z : ∀ i, f i = 0 := fun i => pd_hi (Dlt_fin df (by decide)) i (by have := dg_ge f 24; have h0 : ¬ 0 ≤ dg f 24 := h0; show dg f 24 < i; omega)
    have zz : ∀ (m : Nat) (f : Nat → Int), InP p f → Dlt f 10 → pd f < 0 → (ofQ p X m f).1 = m := by
      intro m
      induction m with
      | zero => exact fun f _ _ _ => rfl
      | succ m ih =>
        intro f jf df hf
        have z : ∀ i, f i = 0 := fun i => pd_hi (Dlt_fin df (by decide)) i (by omega)
        have c : ev p f X = 0 := by
          have hr := hp.rg
          unfold ev
          rw [hor_sum (by omega) 24 0 ⟨by omega, by omega⟩, smT_one (k := 0) (by decide) (fun i _ hi => by rw [z i, Int.zero_mul]), z 0]; simp
        have eq : ofQ p X (m + 1) f = ((ofQ p X m (dvQ p f (lin p X))).1 + 1, (ofQ p X m (dvQ p f (lin p X))).2) := by
          conv => lhs; unfold ofQ
          rw [if_pos c]
        rw [eq]
        have qz : ∀ i, dvQ p f (lin p X) i = 0 := fun i => by unfold dvQ; exact dvq_hi _ _ i (by rw [pd_lin]; omega)
        have := ih (dvQ p f (lin p X)) (fun i => by rw [qz]; have := hp.rg; omega) (fun i _ => qz i) (by
          have : pd (dvQ p f (lin p X)) ≤ -1 := pd_le (by decide) (fun i _ => qz i)
          omega)
        show _ + 1 = m + 1
        omega
    refine ⟨zz m f jf df (by omega), fun e h90 => ?_⟩
    unfold mOo at e
    rw [if_pos (by omega)] at e
    omega
