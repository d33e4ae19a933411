theorem OI.lst {x : Wx} {Z Z' : Zt} {a : Nat} {S : Ab} (h : OI x Z a S) {c : Nat} (hc : Z a 14 = (c : Int)) (h1 : LsA Z' (a + 229) (S.nw.p c) (S.nw.F c) (gen (S.nw.F c))) (h2 : Z' (a + 229) 0 = 1) (h3 : ∀ i : Nat, i ≠ 0 → i ≠ 14 → Z' (a + 229) i = Z (a + 229) i) (ho : Oth Z Z' (fun b => b = (a + 229) ∨ ((a + 229) + 6 < b ∧ b < (a + 229) + 53))) : OI x Z' a S ∧ Fx a x x Z Z' := by
  obtain ⟨g1, g2, g3, g4, g5, g6⟩ := h.cv hc
  obtain ⟨o, k1, rr1, t1, i1, hV, _⟩ := id h
  obtain ⟨_, _, _, σ, hl, hcc⟩ := h.crv hc
  have z2 : ∀ b, ¬ (a + 229 ≤ b ∧ b < a + 282) → Z' b = Z b := fun b hb => ho b (by omega)
  have f : Fx a x x Z Z' := ⟨rfl, rfl, fun b hb => ⟨rfl, z2 b (by omega)⟩, rfl⟩
  refine ⟨⟨o, k1.fx f, rr1, t1.kept (fun b b1 b2 => z2 b (by omega)), i1.fx f, hV, σ, hl, Or.inr ⟨c, ?_, g1, ?_, g5.1, g5.2.1, ?_, Or.inr ⟨h2, h1⟩, ?_⟩⟩, f⟩
  · rw [z2 a (by omega)]; exact hc
  · exact g4.kept (fun b b1 b2 => z2 b (by omega)) (fun i _ => by rw [z2 _ (by omega)])
  · rw [h3 3 (by decide) (by decide)]; exact g6.2.2.2
  · have g7 := hcc.2.2.2.2.2.2
    unfold SumC at g7 ⊢
    rw [z2 a (by omega)]
    rcases g7 with g7 | ⟨s, q1, q2, q3, q4, q5⟩
    · exact Or.inl g7
    · refine Or.inr ⟨s, q1, q2, q3, q4.kept g3 (fun b b1 b2 => z2 b (by omega)), ?_⟩
      rcases q5 with e | ⟨e, w1, w2⟩
      · exact Or.inl e
      · refine Or.inr ⟨e, w1.kept g3 (fun i hi => by rw [z2 _ (by omega)]) (fun b hb => z2 b (by omega)), ?_⟩
        rw [z2 (a + 116) (by omega), z2 (a + 116 + 1) (by omega)]; exact w2
theorem mxO_ext {O O' : Nat → Int} : ∀ {m : Nat}, (∀ i : Nat, i < m → O i = O' i) → mxO O m = mxO O' m
  | 0, _ => rfl
  | m + 1, h => by unfold mxO; rw [mxO_ext (m := m) (fun i hi => h i (by omega)), h m (by omega)]
theorem klO_ext {O O' : Nat → Int} {d : Int} : ∀ {m : Nat}, (∀ i : Nat, i < m → O i = O' i) → klO O d m = klO O' d m
  | 0, _ => rfl
  | m + 1, h => by unfold klO; rw [klO_ext (m := m) (fun i hi => h i (by omega)), h m (by omega)]
def clN (p : Int) (F : Nat → Int) : Nat := min (clsL p F (gen F)).length 450
def clO (p : Int) (F : Nat → Int) : Nat → Int := orA p F (gen F) (clsL p F (gen F)) (clN p F)
def aTorsion (T : Td) (c d : Int) : Int := if (0 ≤ c ∧ c < T.ct 0) ∧ 0 ≤ d ∧ d ≤ 99 then (if d = 0 then mxO (clO (T.p c.toNat) (T.F c.toNat)) (clN (T.p c.toNat) (T.F c.toNat)) else klO (clO (T.p c.toNat) (T.F c.toNat)) d (clN (T.p c.toNat) (T.F c.toNat))) else -1
theorem sp_X11_torsion {k n : Nat} {x : Wx} {Z : Zt} {Q : Option Value → Wx → Zt → Prop} {a : Nat} {v w : Int} (o : Is11 x a) {S : Ab} (hI : OI x Z a S) (hv : Rg v) (hw : Rg w) (h : RAn a S x Z Q (aTorsion S.nw v w)) : V mX11_torsion k n 0 [some (r_ a), some (i_ v), some (i_ w)] [] x Z Q := by
  unfold aTorsion at h
  have no : ∀ (x' : Wx) (Z' : Zt), OI x' Z' a S → Fx a x x' Z Z' → ¬ ((0 ≤ v ∧ v < S.nw.ct 0) ∧ 0 ≤ w ∧ w ≤ 99) → V mX11_torsion k n 18 [none, none, none] [] x' Z' Q := fun x' Z' h1 h2 h3 => b_X11_torsion_18 (by rw [if_neg h3] at h; exact h x' Z' h1 h2)
  refine b_X11_torsion_0 o ⟨hw, fun c => no x Z hI Fx.rf (by omega), fun c => ⟨fun c0 => no x Z hI Fx.rf (by omega), fun c0 => ⟨S, hI, hv, fun x1 Z1 r1 hq => ?_⟩⟩⟩
  obtain ⟨q1, q2, q3, q4⟩ := hq
  subst q3
  refine ⟨q1.1, q1.1.i4.1, q1.1.i4.2, bI_rg _, fun c1 => ?_, fun c1 => no x1 Z1 q1 q2 (fun e => of_decide_eq_false (bI_0 c1) e.1)⟩
  have hc := of_decide_eq_true (bI_1 c1)
  obtain ⟨d, hd⟩ : ∃ d : Nat, v = (d : Int) := ⟨v.toNat, by omega⟩
  have h14 : Z1 a 14 = (d : Int) := by rw [q4 hc, hd]
  obtain ⟨g1, g2, g3, g4, g5, g6⟩ := q1.cv h14
  obtain ⟨_, _, _, σ, hl, hcc⟩ := q1.crv h14
  have hls := hcc.2.2.2.2.2.1
  rw [if_pos ⟨hc, c, c0⟩, hd, Int.toNat_natCast] at h
  have go : ∀ Z2 : Zt, OI x1 Z2 a S → Fx a x x1 Z Z2 → LsA Z2 (a + 229) (S.nw.p d) (S.nw.F d) (gen (S.nw.F d)) → V mX11_torsion k n 41 [some (r_ a), none, some (i_ w)] [] x1 Z2 Q := fun Z2 i2 f2 l2 => by
    have hO : ∀ i : Nat, i < 450 → Z2 (a + 229 + 51) i = clO (S.nw.p d) (S.nw.F d) i := l2.2
    have hN : Z2 (a + 229) 14 = (clN (S.nw.p d) (S.nw.F d) : Int) := l2.1.1
    have h450 : clN (S.nw.p d) (S.nw.F d) ≤ 450 := by unfold clN; omega
    have hr : ∀ i : Nat, i < clN (S.nw.p d) (S.nw.F d) → 0 ≤ Z2 (a + 229 + 51) i ∧ Z2 (a + 229 + 51) i ≤ 1000 := fun i hi => by rw [hO i (by omega)]; exact orA_rg _ _ _ _ _ _
    refine b_X11_torsion_41 q1.1 ⟨hw, fun c2 => ⟨_, ⟨hN, h450⟩, hr, ⟨by omega, by omega⟩, ?_⟩, fun c2 => ⟨_, ⟨hN, h450⟩, hr, ?_⟩⟩
    · rw [if_neg c2] at h
      rw [klO_ext (O' := clO (S.nw.p d) (S.nw.F d)) (fun i hi => hO i (by omega))]; exact h x1 Z2 i2 f2
    · rw [if_pos c2] at h
      rw [mxO_ext (O' := clO (S.nw.p d) (S.nw.F d)) (fun i hi => hO i (by omega))]; exact h x1 Z2 i2 f2
  refine ⟨?_, fun c2 => go Z1 q1 q2 (hls.resolve_left c2).2, fun c2 => ⟨S.nw.p d, gen (S.nw.F d), S.nw.F d, g5.1, g5.2.1, ⟨by omega, by omega⟩, by omega, g6, g4.2.2.1, fun Z2 hz2 => ?_⟩⟩
  · rcases hls with e | ⟨e, _⟩ <;> rw [e] <;> exact ⟨by decide, by decide⟩
  · have hI2 := q1.lst h14 hz2.1 hz2.2.1 hz2.2.2.1 hz2.2.2.2
    exact go Z2 hI2.1 (q2.tr hI2.2) hz2.1
theorem scC_n {p k : Int} (hk : 0 ≤ k) {F M : Nat → Int} {A B : Int} : ∀ (m : Nat) (c f : Int), f ≤ k → (scC p k F M A B m c f).2 = none → (scC p k F M A B m c f).1 ≤ k
  | 0, _, f, hf, _ => hf
  | m + 1, c, f, hf, h => by
    unfold scC at h ⊢
    by_cases e : isMv p (c * c % p) F M 6 0 = true
    · rw [if_pos e] at h ⊢
      by_cases e2 : f + 1 ≤ k ∨ k < 0
      · rw [if_pos e2] at h ⊢; exact scC_n hk m (c + 1) (f + 1) (by omega) h
      · rw [if_neg e2] at h; cases h
    · rw [if_neg e] at h ⊢; exact scC_n hk m (c + 1) f hf h
theorem scC_s {p k : Int} {F M : Nat → Int} {A B : Int} {q : Int × Int × Int} : ∀ (m : Nat) (c f : Int), (scC p k F M A B m c f).2 = some q → 0 ≤ k ∧ k < (scC p k F M A B m c f).1
  | 0, _, f, h => by cases h
  | m + 1, c, f, h => by
    unfold scC at h ⊢
    by_cases e : isMv p (c * c % p) F M 6 0 = true
    · rw [if_pos e] at h ⊢
      by_cases e2 : f + 1 ≤ k ∨ k < 0
      · rw [if_pos e2] at h ⊢; exact scC_s m (c + 1) (f + 1) h
      · rw [if_neg e2]; show 0 ≤ k ∧ k < f + 1; omega
    · rw [if_neg e] at h ⊢; exact scC_s m (c + 1) f h
theorem scB_n {p k : Int} (hk : 0 ≤ k) {F G : Nat → Int} {A : Int} : ∀ (m : Nat) (B f : Int), f ≤ k → (scB p k F G A m B f).2 = none → (scB p k F G A m B f).1 ≤ k
  | 0, _, f, hf, _ => hf
  | m + 1, B, f, hf, h => by
    unfold scB at h ⊢
    cases hq : (scC p k F (mvd p A B G) A B (p.toNat - 1) 1 f).2 with
    | none =>
      rw [hq] at h
      exact scB_n hk m (B + 1) _ (scC_n hk _ _ _ hf hq) h
    | some q =>
      rw [hq] at h
      have h' : (scC p k F (mvd p A B G) A B (p.toNat - 1) 1 f).2 = none := h
      rw [hq] at h'; cases h'
theorem scB_s {p k : Int} {F G : Nat → Int} {A : Int} {q : Int × Int × Int} : ∀ (m : Nat) (B f : Int), (scB p k F G A m B f).2 = some q → 0 ≤ k ∧ k < (scB p k F G A m B f).1
  | 0, _, f, h => by cases h
  | m + 1, B, f, h => by
    unfold scB at h ⊢
    cases hq : (scC p k F (mvd p A B G) A B (p.toNat - 1) 1 f).2 with
    | none =>
      rw [hq] at h
      exact scB_s m (B + 1) _ h
    | some q' => exact scC_s _ _ _ hq
theorem scA_n {p k : Int} (hk : 0 ≤ k) {F G : Nat → Int} : ∀ (m : Nat) (A f : Int), f ≤ k → (scA p k F G m A f).2 = none → (scA p k F G m A f).1 ≤ k
  | 0, _, f, hf, _ => hf
  | m + 1, A, f, hf, h => by
    unfold scA at h ⊢
    cases hq : (scB p k F G A p.toNat 0 f).2 with
    | none =>
      rw [hq] at h
      exact scA_n hk m (A + 1) _ (scB_n hk _ _ _ hf hq) h
    | some q =>
      rw [hq] at h
      have h' : (scB p k F G A p.toNat 0 f).2 = none := h
      rw [hq] at h'; cases h'
theorem scA_s {p k : Int} {F G : Nat → Int} {q : Int × Int × Int} : ∀ (m : Nat) (A f : Int), (scA p k F G m A f).2 = some q → 0 ≤ k ∧ k < (scA p k F G m A f).1
  | 0, _, f, h => by cases h
  | m + 1, A, f, h => by
    unfold scA at h ⊢
    cases hq : (scB p k F G A p.toNat 0 f).2 with
    | none =>
      rw [hq] at h
      exact scA_s m (A + 1) _ h
    | some q' => exact scB_s _ _ _ hq
theorem scA_rg {p k : Int} (hp : IsP p) {F G : Nat → Int} : ∀ (m : Nat) (A f : Int), f ≤ (scA p k F G m A f).1 ∧ (scA p k F G m A f).1 ≤ f + 156 * m
  | 0, _, f => ⟨by show f ≤ f; omega, by show f ≤ f + 156 * (0 : Nat); omega⟩
  | m + 1, A, f => by
    have hpr := hp.rg
    have h1 := scB_rg (k := k) hp (F := F) (G := G) (A := A) p.toNat 0 f
    have h2 := scA_rg (k := k) hp (F := F) (G := G) m (A + 1) (scB p k F G A p.toNat 0 f).1
    unfold scA
    split <;> omega
theorem sch_rg {p k : Int} (hp : IsP p) (F G : Nat → Int) : 0 ≤ (sch p k F G).1 ∧ (sch p k F G).1 ≤ 3000 := by
  have hpr := hp.rg
  have := scA_rg (k := k) hp (F := F) (G := G) (p.toNat - 1) 1 0
  unfold sch; omega
def chV (q : Sc) (k w : Int) : Int := if k = -1 then q.1 else match q.2 with
  | none => -1
  | some e => if w = 0 then e.1 else if w = 1 then e.2.1 else e.2.2
def aChange (T : Td) (c k w : Int) : Int := if (0 ≤ c ∧ c < T.ct 0) ∧ -1 ≤ k ∧ (0 ≤ w ∧ w ≤ 2) ∧ (k = -1 → w = 0) then chV (sch (T.p c.toNat) k (T.F c.toNat) (T.F c.toNat)) k w else -1
theorem sp_X11_change {k n : Nat} {x : Wx} {Z : Zt} {Q : Option Value → Wx → Zt → Prop} {a : Nat} {v i w : Int} (o : Is11 x a) {S : Ab} (hI : OI x Z a S) (hv : Rg v) (hi : Rg i) (hw : Rg w) (h : RAn a S x Z Q (aChange S.nw v i w)) : V mX11_change k n 0 [some (r_ a), some (i_ v), some (i_ i), some (i_ w), none] [] x Z Q := by
  unfold aChange at h
  have no : ∀ (x' : Wx) (Z' : Zt), OI x' Z' a S → Fx a x x' Z Z' → ¬ ((0 ≤ v ∧ v < S.nw.ct 0) ∧ -1 ≤ i ∧ (0 ≤ w ∧ w ≤ 2) ∧ (i = -1 → w = 0)) → V mX11_change k n 31 [none, none, none, none, none] [] x' Z' Q := fun x' Z' h1 h2 h3 => b_X11_change_31 (by rw [if_neg h3] at h; exact h x' Z' h1 h2)
  have go : -1 ≤ i ∧ (0 ≤ w ∧ w ≤ 2) ∧ (i = -1 → w = 0) → V mX11_change k n 23 [some (r_ a), some (i_ v), some (i_ i), some (i_ w), none] [] x Z Q := fun hr => by
    refine b_X11_change_23 o ⟨S, hI, hv, fun x1 Z1 r1 hq => ?_⟩
    obtain ⟨q1, q2, q3, q4⟩ := hq
    subst q3
    refine ⟨q1.1, bI_rg _, fun c1 => ?_, fun c1 => no x1 Z1 q1 q2 (fun e => of_decide_eq_false (bI_0 c1) e.1)⟩
    have hc := of_decide_eq_true (bI_1 c1)
    obtain ⟨d, hd⟩ : ∃ d : Nat, v = (d : Int) := ⟨v.toNat, by omega⟩
    obtain ⟨g1, g2, g3, g4, g5, g6⟩ := q1.cv (c := d) (by rw [q4 hc, hd])
    rw [if_pos ⟨hc, hr⟩, hd, Int.toNat_natCast] at h
    refine ⟨S.nw.p d, S.nw.F d, S.nw.F d, g3, g4.1.1, g4.2.1, g4.2.1, hi, fun Z2 hz2 => ?_⟩
    obtain ⟨z1, z2, z3⟩ := hz2
    have hI2 := q1.scr (Z' := Z2) (fun b hb h1 h2 => z3 b (fun e => hb (by unfold Scr; omega))) (fun j _ => by rw [z3 _ (by omega)]) (fun j _ _ => by rw [z3 _ (by omega)])
    have hf := q2.tr hI2.2
    have hsr := sch_rg (k := i) g3 (S.nw.F d) (S.nw.F d)
    have hsn := fun (hk : 0 ≤ i) => scA_n (p := S.nw.p d) (F := S.nw.F d) (G := S.nw.F d) hk ((S.nw.p d).toNat - 1) 1 0 hk
    have hss := fun q => scA_s (p := S.nw.p d) (k := i) (F := S.nw.F d) (G := S.nw.F d) (q := q) ((S.nw.p d).toNat - 1) 1 0
    have hsd : scA (S.nw.p d) i (S.nw.F d) (S.nw.F d) ((S.nw.p d).toNat - 1) 1 0 = sch (S.nw.p d) i (S.nw.F d) (S.nw.F d) := rfl
    rw [hsd] at hsn hss
    generalize sch (S.nw.p d) i (S.nw.F d) (S.nw.F d) = R at h z1 z2 hsr hsn hss ⊢
    unfold chV at h
    refine ⟨hi, fun c2 => ⟨⟨by omega, by omega⟩, fun c3 => ?_, fun c3 => ⟨by omega, by omega, ?_⟩⟩, fun c2 => ?_⟩
    · rw [if_neg c2] at h
      cases hR : R.2 with
      | none => rw [hR] at h; exact h x1 Z2 hI2.1 hf
      | some q => have := hss q hR; omega
    · rw [if_neg c2] at h
      cases hR : R.2 with
      | none => have := hsn (by omega) hR; omega
      | some q =>
        rw [hR] at h
        obtain ⟨A, B, C⟩ := q
        have hz := z1 A B C hR
        have hw3 : w = 0 ∨ w = 1 ∨ w = 2 := by omega
        rcases hw3 with e | e | e
        · subst e; rw [show Z2 (a + 52) (0 : Int).toNat = A from hz.1]; exact h x1 Z2 hI2.1 hf
        · subst e; rw [show Z2 (a + 52) (1 : Int).toNat = B from hz.2.1]; exact h x1 Z2 hI2.1 hf
        · subst e; rw [show Z2 (a + 52) (2 : Int).toNat = C from hz.2.2]; exact h x1 Z2 hI2.1 hf
    · rw [if_pos c2] at h; exact h x1 Z2 hI2.1 hf
  exact b_X11_change_0 ⟨hi, fun c => no x Z hI Fx.rf (by omega), fun c => ⟨hw, fun c0 => no x Z hI Fx.rf (by omega), fun c0 => ⟨fun c1 => no x Z hI Fx.rf (by omega), fun c1 => ⟨fun c2 => go (by omega), fun c2 => ⟨fun c3 => no x Z hI Fx.rf (by omega), fun c3 => go (by omega)⟩⟩⟩⟩⟩
def aLike (T : Td) (c e : Int) : Int := if ((0 ≤ c ∧ c < T.ct 0) ∧ (0 ≤ e ∧ e < T.ct 0)) ∧ (T.rw e.toNat 0 = T.p c.toNat ∧ T.rw e.toNat 1 = pd (T.F c.toNat)) ∧ 0 < (sch (T.p c.toNat) 0 (T.F c.toNat) (T.F e.toNat)).1 then 1 else 0
theorem sp_X11_like {k n : Nat} {x : Wx} {Z : Zt} {Q : Option Value → Wx → Zt → Prop} {a : Nat} {v w : Int} (o : Is11 x a) {S : Ab} (hI : OI x Z a S) (hv : Rg v) (hw : Rg w) (h : RAn a S x Z Q (aLike S.nw v w)) : V mX11_like k n 0 [some (r_ a), some (i_ v), some (i_ w), none] [] x Z Q := by
  unfold aLike at h
  have no : ∀ (x' : Wx) (Z' : Zt), OI x' Z' a S → Fx a x x' Z Z' → ¬ (((0 ≤ v ∧ v < S.nw.ct 0) ∧ (0 ≤ w ∧ w < S.nw.ct 0)) ∧ (S.nw.rw w.toNat 0 = S.nw.p v.toNat ∧ S.nw.rw w.toNat 1 = pd (S.nw.F v.toNat)) ∧ 0 < (sch (S.nw.p v.toNat) 0 (S.nw.F v.toNat) (S.nw.F w.toNat)).1) → Q (some (i_ 0)) x' Z' := fun x' Z' h1 h2 h3 => by rw [if_neg h3] at h; exact h x' Z' h1 h2
  obtain ⟨_, hk, _, _, _, hV, _⟩ := id hI
  have hct := hI.ct
  have hcr := hV.1.2.2.2.2.1
  refine b_X11_like_0 o ?_
  rw [show Z (a + 1 + 2) (Int.toNat (0 : Int)) = S.nw.ct 0 from hct.1]
  refine ⟨hk.1, hk.2.1, by decide, hw, ⟨by omega, by show S.nw.ct 0 ≤ 2; omega⟩, fun hn => b_X11_like_54 (no x Z hI Fx.rf (fun e => rqn hn e.1.2)), fun b hb => ?_⟩
  obtain ⟨hc2, hb1⟩ := rqs hb
  obtain ⟨t, ht⟩ : ∃ t : Nat, w = (t : Int) := ⟨w.toNat, by omega⟩
  have hbe : b = a + 1 + 4 + t := by rw [hb1, ht]; show a + 1 + 4 + (0 + (t : Int)).toNat = _; omega
  have hrow := hI.row (r := t) (by omega)
  have hT := hV.1.2.2.2.2.2.2.2.1 t (by omega)
  rw [hbe]
  refine ⟨hrow.1, S, hI, hv, fun x1 Z1 r1 hq => ?_⟩
  obtain ⟨q1, q2, q3, q4⟩ := hq
  subst q3
  refine ⟨by rw [q2.1]; exact hrow.1, q1.1, bI_rg _, fun c1 => b_X11_like_54 (no x1 Z1 q1 q2 (fun e => of_decide_eq_false (bI_0 c1) e.1.1)), fun c1 => ?_⟩
  have hc := of_decide_eq_true (bI_1 c1)
  obtain ⟨d, hd⟩ : ∃ d : Nat, v = (d : Int) := ⟨v.toNat, by omega⟩
  have h14 : Z1 a 14 = (d : Int) := by rw [q4 hc, hd]
  obtain ⟨g1, g2, g3, g4, g5, g6⟩ := q1.cv h14
  have hrow1 := (q1.row (r := t) (by omega)).2
  have e44 : Z1 (a + 44) 0 = pd (S.nw.F d) := g4.2.1.deg
  have e41 : Z1 (a + 41) 0 = S.nw.p d := g4.1.1
  have hp := g3.rg
  have hp2 := hT.1.rg
  have hd2 := hT.2.1
  have hge := pd_ge (S.nw.F d)
  have hlt := pd_lt (S.nw.F d)
  have ev : v.toNat = d := by omega
  have ew : w.toNat = t := by omega
  rw [ev, ew] at h no
  rw [hrow1, e44, e41]
  refine ⟨⟨by omega, by omega⟩, ⟨by omega, by omega⟩, fun c3 => b_X11_like_54 (no x1 Z1 q1 q2 (fun e => c3 e.2.1.1)), fun c3 => ⟨⟨by omega, by omega⟩, ⟨by omega, by omega⟩, fun c4 => ⟨S.nw.p d, by omega, by decide, by omega, by omega, fun i hi => crvR_rg hT i hi, rfl, ⟨by omega, by omega⟩, fun Z2 hz2 => ?_⟩, fun c4 => b_X11_like_54 (no x1 Z1 q1 q2 (fun e => c4 e.2.1.2))⟩⟩
  have hG : ptak (S.nw.p d) (S.nw.rw t) (Int.toNat (2 : Int)) (Int.toNat (S.nw.rw t 1)) = S.nw.F t := by
    rw [← c3]; rfl
  rw [hG] at hz2
  have n2 : ∀ q : Nat, q ≠ a + 36 → q ≠ a + 37 → ¬ At2 (a + 36) q := fun q h1 h2 hh => by rcases hh with hh | hh <;> omega
  have hI2 := q1.scr (Z' := Z2) (fun b hb h1 h2 => hz2.2 b (fun e => hb (by unfold Scr; rcases e with e | e <;> omega))) (fun j _ => by rw [hz2.2 _ (n2 _ (by omega) (by omega))]) (fun j _ _ => by rw [hz2.2 _ (n2 _ (by omega) (by omega))])
  have h142 : Z2 a 14 = (d : Int) := by rw [hz2.2 a (n2 _ (by omega) (by omega))]; exact h14
  have g42 := (hI2.1.cv h142).2.2.2.1
  have hsr := sch_rg (k := 0) g3 (S.nw.F d) (S.nw.F t)
  refine ⟨S.nw.p d, S.nw.F d, S.nw.F t, g3, g42.1.1, g42.2.1, hz2.1, ⟨by decide, by decide⟩, fun Z3 hz3 => ?_⟩
  have hI3 := hI2.1.scr (Z' := Z3) (fun b hb h1 h2 => hz3.2.2 b (fun e => hb (by unfold Scr; omega))) (fun j _ => by rw [hz3.2.2 _ (by omega)]) (fun j _ _ => by rw [hz3.2.2 _ (by omega)])
  have hf := q2.tr (hI2.2.tr hI3.2)
  refine ⟨⟨by omega, by omega⟩, fun c5 => no x1 Z3 hI3.1 hf (fun e => by omega), fun c5 => ?_⟩
  rw [if_pos ⟨⟨hc, hc2⟩, ⟨c3, c4⟩, c5⟩] at h
  exact h x1 Z3 hI3.1 hf
