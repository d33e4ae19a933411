/-! ===== ORDER and NORM: class and reference answer alike ===== -/
theorem pln_co {R : Type} [Lean.Grind.CommRing R] {p : Int} {co : R → Nat → Int} {c : Int → R} {tp : Nat → R} (hS : SerR p co c tp) (j : Nat) : pln j = co (1 : R) j := by
  rw [← hS.2.1.2.2.2.2, hS.2.2.2.2.2.1]
  unfold pln
  have h1 : (1 : Int) % p = 1 := by rcases hS.1 with rfl | rfl | rfl | rfl | rfl <;> rfl
  rw [h1]
/-- the first terms that ordN looks at -/
theorem ord_tot {R : Type} [Lean.Grind.CommRing R] {p : Int} {co : R → Nat → Int} {c : Int → R} {tp : Nat → R} (hS : SerR p co c tp) {F A B : Nat → Int} {X y : Int} {fx : Bool} {s : R} (dA : Dlt A 5) (dB : Dlt B 3) (hs : ∀ j : Nat, (j : Int) < 10 → bgY p F X y 10 fx j = co s j) {k : Nat} (hk : k < 10) (hO : OrS co (EV c (c X + tp (if fx = true then 2 else 1)) 24 A + EV c (c X + tp (if fx = true then 2 else 1)) 24 B * s) k) : ordN p F A B X y fx = (k : Int) := by
  unfold ordN
  have e : ∀ j : Nat, j < 10 → bgn A B (pwI p X (if fx = true then 2 else 1) 10 pln) (pwI p X (if fx = true then 2 else 1) 10 (bgY p F X y 10 fx)) 5 j % p = co (EV c (c X + tp (if fx = true then 2 else 1)) 24 A + EV c (c X + tp (if fx = true then 2 else 1)) 24 B * s) j := fun j hj => by
    rw [bgn_co hS (θ := c X + tp (if fx = true then 2 else 1)) (s := s) (fun i => pwI_co hS (fun j _ => pln_co hS j) i j (by omega)) (fun i => pwI_co hS hs i j (by omega)) 5, EV_bd hS.2.1 _ (show 5 ≤ 24 by decide) dA, EV_bd hS.2.1 _ (show 5 ≤ 24 by decide) (fun i hi => dB i (by omega))]
  refine ordL_eq (k := k) (by rw [e k hk]; exact hO.2) 10 0 (Nat.zero_le k) (by omega) (fun i _ hi => by rw [e i (by omega)]; exact hO.1 i hi)
theorem OrS.low {R : Type} [Lean.Grind.CommRing R] {p : Int} {co : R → Nat → Int} {c : Int → R} {tp : Nat → R} (hS : SerR p co c tp) {a b : R} {k l : Nat} (ha : OrS co a k) (hb : OrS co b l) (h : k < l) : OrS co (a + b) k ∧ OrS co (b + a) k := by
  have h1 := OrS.add hS ha (fun j hj => hb.1 j (by omega))
  refine ⟨h1, ?_⟩
  rw [show b + a = a + b by grind]
  exact h1
theorem ord_fix {p g : Int} {F A B : Nat → Int} (hF : CF p g F) (jA : InP p A) (dA : Dlt A 5) (jB : InP p B) (dB : Dlt B 3) (h0 : 0 ≤ pd A ∨ 0 ≤ pd B) {X y : Int} : ordN p F A B X y true = mOr1 p F A B X y true := by
  have hp := hF.1
  have hr := hp.rg
  have hp1 : 1 < p := by omega
  have key : ∀ (R : Type) (_ : Lean.Grind.CommRing R) (co : R → Nat → Int) (c : Int → R) (tp : Nat → R), SerR p co c tp → ordN p F A B X y true = mOr1 p F A B X y true := fun R _ co c tp hS => by
    have fA := Dlt_fin dA (by decide)
    have fB := Dlt_fin dB (by decide)
    have pA := Dlt_pd dA (by decide)
    have pB := Dlt_pd dB (by decide)
    have hs : ∀ j : Nat, (j : Int) < 10 → bgY p F X y 10 true j = co (tp 1) j := fun j _ => by
      rw [hS.2.2.2.2.2.2.1]
      unfold bgY
      rw [if_pos rfl]
    have tot := fun (k : Nat) (hk : k < 10) => ord_tot hS (F := F) (X := X) (y := y) (fx := true) (s := tp 1) dA dB hs hk
    unfold mOr1
    rw [if_pos rfl]
    have zr : ∀ f : Nat → Int, Fin f → pd f < 0 → EV c (c X + tp 2) 24 f = 0 := fun f hf h => EV_0 hS.2.1 _ 24 f (pd_neg hf h)
    by_cases cA : 0 ≤ pd A
    · obtain ⟨a1, a2, a3⟩ := mult_or hp (X := X) jA (fun i hi => dA i (by omega)) cA
      have oA := a3 R _ co c tp hS 2 (by decide)
      by_cases cB : 0 ≤ pd B
      · obtain ⟨b1, b2, b3⟩ := mult_or hp (X := X) jB (fun i hi => dB i (by omega)) cB
        have oB := OrS.mul hS (b3 R _ co c tp hS 2 (by decide)) (OrS.tp hS 1)
        rw [a1, b1]
        by_cases cc : 2 * ((ofQ p X 90 A).1 : Int) < 2 * ((ofQ p X 90 B).1 : Int) + 1
        · rw [if_pos cc, tot _ (by omega) (OrS.low hS oA oB (by omega)).1]; omega
        · rw [if_neg cc, tot _ (by omega) (OrS.low hS oB oA (by omega)).2]; omega
      · have eB : mOo p X B = 90 := by unfold mOo; rw [if_pos (by omega)]
        rw [a1, eB, if_pos (by omega)]
        rw [tot (2 * (ofQ p X 90 A).1) (by omega) (by
          show OrS co (EV c (c X + tp 2) 24 A + EV c (c X + tp 2) 24 B * tp 1) _
          rw [zr B fB (by omega), show EV c (c X + tp 2) 24 A + 0 * tp 1 = EV c (c X + tp 2) 24 A by grind]
          exact oA)]
        omega
    · have cB : 0 ≤ pd B := by omega
      obtain ⟨b1, b2, b3⟩ := mult_or hp (X := X) jB (fun i hi => dB i (by omega)) cB
      have oB := OrS.mul hS (b3 R _ co c tp hS 2 (by decide)) (OrS.tp hS 1)
      have eA : mOo p X A = 90 := by unfold mOo; rw [if_pos (by omega)]
      rw [b1, eA, if_neg (by omega)]
      rw [tot (2 * (ofQ p X 90 B).1 + 1) (by omega) (by
        show OrS co (EV c (c X + tp 2) 24 A + EV c (c X + tp 2) 24 B * tp 1) _
        rw [zr A fA (by omega), show (0 : R) + EV c (c X + tp 2) 24 B * tp 1 = EV c (c X + tp 2) 24 B * tp 1 by grind]
        exact oB)]
      omega
  exact key (Sr p) (srRing hp1) _ _ _ (sr_Ser hp hp1)
theorem two_zero {p u v y : Int} (hp : IsP p) (hu : 0 ≤ u ∧ u < p) (hv : 0 ≤ v ∧ v < p) (hy : 0 < y ∧ y < p) (h1 : (u + v * y) % p = 0) (h2 : (u + -1 * (v * y)) % p = 0) : u = 0 ∧ v = 0 := by
  have e1 : (2 * u) % p = 0 := by
    have : 2 * u = (u + v * y) + (u + -1 * (v * y)) := by omega
    rw [this, Int.add_emod, h1, h2]; rfl
  have hu0 : u = 0 := by
    by_cases c : u = 0
    · exact c
    · have hr := hp.rg
      have := (nzp hp 2 u ⟨by decide, by omega⟩ ⟨by omega, hu.2⟩).1
      exact absurd e1 this
  refine ⟨hu0, ?_⟩
  by_cases c : v = 0
  · exact c
  · have := (nzp hp v y ⟨by omega, hv.2⟩ hy).1
    rw [hu0, Int.zero_add] at h1
    exact absurd h1 this
theorem ord_non {p g : Int} {F A B : Nat → Int} (hF : CF p g F) (jA : InP p A) (dA : Dlt A 5) (jB : InP p B) (dB : Dlt B 3) (h0 : 0 ≤ pd A ∨ 0 ≤ pd B) {X y : Int} (hy : 0 < y ∧ y < p) (he : y * y % p = ev p F X) : ordN p F A B X y false = mOr1 p F A B X y false := by
  have hp := hF.1
  have hr := hp.rg
  have hp1 : 1 < p := by omega
  obtain ⟨jN, dN, pN⟩ := nrm_pd hF jA dA jB dB
  have dF : Dlt F 6 := fun i hi => pd_hi hF.2.2.1 i (by have := hF.2.2.2.1; have := hF.2.2.2.2; omega)
  have key : ∀ (R : Type) (_ : Lean.Grind.CommRing R) (co : R → Nat → Int) (c : Int → R) (tp : Nat → R), SerR p co c tp → ordN p F A B X y false = mOr1 p F A B X y false := fun R _ co c tp hS => by
    have pA := Dlt_pd dA (by decide)
    have pB := Dlt_pd dB (by decide)
    have dA' : Dlt A 10 := fun i hi => dA i (by omega)
    have dB' : Dlt B 10 := fun i hi => dB i (by omega)
    obtain ⟨s, hs⟩ := hS.2.2.2.2.2.2.2.2 (mSr p F X y) (fun i => rtT_rg (by omega) ⟨by omega, hy.2⟩ 95 i)
    have hsY : ∀ j : Nat, (j : Int) < 10 → bgY p F X y 10 false j = co s j := fun j hj => by
      rw [hs]
      unfold bgY
      rw [if_neg (by decide)]
      cases j with
      | zero => rw [if_pos rfl]; exact rtT_z.symm
      | succ j =>
        rw [if_neg (by omega), if_pos hj]
        exact (rtT_up 55 40 (j + 1) (by omega)).symm
    have tot := fun (k : Nat) (hk : k < 10) => ord_tot hS (F := F) (X := X) (y := y) (fx := false) (s := s) dA dB hsY hk
    have sq : SmS co (s * s) (EV c (c X + tp 1) 24 F) 10 := fun j hj => by
      rw [hS.2.2.2.2.1, show co s = mSr p F X y from funext hs]
      exact root_sq hS dF hy he (by omega)
    have hX := th_0 hS X (sh := 1) (Nat.le_refl 1)
    have mA0 : 0 ≤ mOo p X A := by unfold mOo; split <;> omega
    have mB0 : 0 ≤ mOo p X B := by unfold mOo; split <;> omega
    have mA9 : 0 ≤ pd A → mOo p X A ≤ 9 := fun h => by have := mult_or hp (X := X) jA dA' h; omega
    have mB9 : 0 ≤ pd B → mOo p X B ≤ 9 := fun h => by have := mult_or hp (X := X) jB dB' h; omega
    obtain ⟨E, hE⟩ : ∃ E : Nat, mBo p X A B = (E : Int) := ⟨(mBo p X A B).toNat, by unfold mBo; split <;> omega⟩
    have hE2 : mBo p X A B ≤ mOo p X A ∧ mBo p X A B ≤ mOo p X B ∧ (mBo p X A B = mOo p X A ∨ mBo p X A B = mOo p X B) := by unfold mBo; split <;> omega
    obtain ⟨gA1, gA2⟩ := mult_ge hp (X := X) jA dA' (m := E) (by omega)
    obtain ⟨gB1, gB2⟩ := mult_ge hp (X := X) jB dB' (m := E) (by omega)
    obtain ⟨⟨iA, -⟩, -, -, qA⟩ := ofQ_ser hp (X := X) E A jA dA'
    obtain ⟨⟨iB, -⟩, -, -, qB⟩ := ofQ_ser hp (X := X) E B jB dB'
    have qA := qA R _ co c tp hS 1
    have qB := qB R _ co c tp hS 1
    rw [gA1] at qA
    rw [gB1] at qB
    have eA := ev_co hS hX (ofQ p X E A).2
    have eB := ev_co hS hX (ofQ p X E B).2
    have nz : ¬ (ev p (ofQ p X E A).2 X = 0 ∧ ev p (ofQ p X E B).2 X = 0) := fun h => by
      rcases hE2.2.2 with e | e
      · exact gA2 (by omega) (by omega) h.1
      · exact gB2 (by omega) (by omega) h.2
    have E9 : E ≤ 9 := by
      rcases h0 with h | h
      · have := mA9 h; omega
      · have := mB9 h; omega
    unfold mOr1
    rw [if_neg (by decide), hE, Int.toNat_natCast]
    have oT := OrS.pow hS (OrS.tp hS 1) E
    rw [Nat.one_mul] at oT
    have s0 : co s 0 = y := by rw [hs]; exact rtT_z
    generalize hu : (ofQ p X E A).2 = A' at *
    generalize hv : (ofQ p X E B).2 = B' at *
    have tt : EV c (c X + tp 1) 24 A + EV c (c X + tp 1) 24 B * s = tp 1 ^ E * (EV c (c X + tp 1) 24 A' + EV c (c X + tp 1) 24 B' * s) := by rw [qA, qB]; grind
    have c0 : co (EV c (c X + tp 1) 24 A' + EV c (c X + tp 1) 24 B' * s) 0 = (ev p A' X + ev p B' X * y) % p := by
      rw [hS.2.2.2.1, hS.2.2.2.2.1, cv_0, ← eA, ← eB, s0, Int.add_emod_emod]
    have r1 := hS.2.2.1 (EV c (c X + tp 1) 24 A') 0
    have r2 := hS.2.2.1 (EV c (c X + tp 1) 24 B') 0
    rw [← eA] at r1
    rw [← eB] at r2
    by_cases cz : (ev p A' X + ev p B' X * y) % p = 0
    · rw [if_pos cz]
      have d0 : co (EV c (c X + tp 1) 24 A' + c (-1) * (EV c (c X + tp 1) 24 B' * s)) 0 = (ev p A' X + -1 * (ev p B' X * y)) % p := by
        rw [hS.2.2.2.1, co_c hS, hS.2.2.2.2.1, cv_0, ← eA, ← eB, s0, Int.add_emod_emod, Int.mul_comm (-1) (ev p B' X * y % p), Int.add_emod, mul_md, ← Int.add_emod, Int.mul_comm (-1)]
      have oD : OrS co (EV c (c X + tp 1) 24 A' + c (-1) * (EV c (c X + tp 1) 24 B' * s)) 0 := ⟨fun j hj => by omega, by
        rw [d0]
        exact fun h => nz (two_zero hp r1 r2 hy cz h)⟩
      have oTD := OrS.mul hS oT oD
      rw [Nat.add_zero] at oTD
      have pN0 : 0 ≤ pd (mNr p F A B) := by
        rw [pN]
        have := hF.2.2.2.2
        split <;> split <;> omega
      have pN9 := Dlt_pd dN (by decide)
      obtain ⟨n1, n2, n3⟩ := mult_or hp (X := X) jN dN pN0
      have oN := n3 R _ co c tp hS 1 (Nat.le_refl 1)
      rw [Nat.one_mul] at oN
      have bb : ∀ j, co (EV c (c X + tp 1) 24 (pmul p B B)) j = co (EV c (c X + tp 1) 24 B * EV c (c X + tp 1) 24 B) j := fun j => by rw [EV_pmul hS.2.1 _ dB dB (by decide)]
      have dBB : Dlt (pmul p B B) 6 := fun i hi => pmul_hi (u := 2) (v := 2) (fun i hi => dB i (by omega)) (fun i hi => dB i (by omega)) i (by omega)
      have eN : EV c (c X + tp 1) 24 (mNr p F A B) = EV c (c X + tp 1) 24 A * EV c (c X + tp 1) 24 A + c (-1) * (EV c (c X + tp 1) 24 F * (EV c (c X + tp 1) 24 B * EV c (c X + tp 1) 24 B)) := by
        unfold mNr
        rw [EV_padd hS.2.1, EV_pmul hS.2.1 _ dA dA (by decide), EV_pmul hS.2.1 _ dF dBB (by decide), EV_pmul hS.2.1 _ dB dB (by decide)]
      have sm : SmS co (EV c (c X + tp 1) 24 (mNr p F A B)) ((EV c (c X + tp 1) 24 A + EV c (c X + tp 1) 24 B * s) * (tp 1 ^ E * (EV c (c X + tp 1) 24 A' + c (-1) * (EV c (c X + tp 1) 24 B' * s)))) 10 := by
        rw [eN]
        have e9 : (EV c (c X + tp 1) 24 A + EV c (c X + tp 1) 24 B * s) * (tp 1 ^ E * (EV c (c X + tp 1) 24 A' + c (-1) * (EV c (c X + tp 1) 24 B' * s))) = EV c (c X + tp 1) 24 A * EV c (c X + tp 1) 24 A + c (-1) * ((s * s) * (EV c (c X + tp 1) 24 B * EV c (c X + tp 1) 24 B)) := by
          rw [EV_neg hS.2.1]
          have h1 : tp 1 ^ E * (EV c (c X + tp 1) 24 A' + (-1) * (EV c (c X + tp 1) 24 B' * s)) = EV c (c X + tp 1) 24 A + (-1) * (EV c (c X + tp 1) 24 B * s) := by rw [qA, qB]; grind
          rw [h1]
          generalize EV c (c X + tp 1) 24 A = a
          generalize EV c (c X + tp 1) 24 B = b
          grind
        rw [e9]
        exact SmS.add hS (fun _ _ => rfl) (SmS.mul hS (fun _ _ => rfl) (SmS.mul hS (fun j hj => (sq j hj).symm) (fun _ _ => rfl)))
      have oP := oN.same sm (by omega)
      obtain ⟨l1, l2⟩ := OrS.div hS oP oTD
      have := tot ((ofQ p X 90 (mNr p F A B)).1 - E) (by omega) l2
      rw [this, n1]
      omega
    · rw [if_neg cz]
      have := tot E (by omega) (by
        show OrS co (EV c (c X + tp 1) 24 A + EV c (c X + tp 1) 24 B * s) E
        rw [tt]
        have := OrS.mul hS (l := 0) oT ⟨fun j hj => by omega, by rw [c0]; exact cz⟩
        exact this)
      exact this
  exact key (Sr p) (srRing hp1) _ _ _ (sr_Ser hp hp1)
theorem ord_tie {p g : Int} {F A B : Nat → Int} (hF : CF p g F) (hg : g = gen F) (jA : InP p A) (dA : Dlt A 5) (jB : InP p B) (dB : Dlt B 3) (h0 : 0 ≤ pd A ∨ 0 ≤ pd B) {v : Int} (hv : 0 ≤ v ∧ v < (pall p F).length) : ordA p F A B v = mOrd p F A B v := by
  have hp := hF.1
  have hr := hp.rg
  unfold ordA mOrd
  by_cases c : v + 1 = (pall p F).length
  · rw [if_pos c, if_pos c]
    unfold ordFar mFar
    have := hF.2.2.2.2
    rw [← hg]
    split <;> split <;> split <;> omega
  · rw [if_neg c, if_neg c]
    obtain ⟨q1, q2, q3⟩ := pall_get (p := p) (F := F) (by omega) (k := v.toNat) (by omega)
    cases hfx : fxd (pall p F) v with
    | true => exact ord_fix hF jA dA jB dB h0
    | false =>
      have hn : ¬ (v + 1 = (pall p F).length ∨ ((pall p F).getD v.toNat (0, 0)).2 = 0) := of_decide_eq_false hfx
      exact ord_non hF jA dA jB dB h0 ⟨by omega, q2.2⟩ q3
theorem fn_ok {p : Int} (hp : IsP p) (r : Nat → Int) : (InP p (fnA p r) ∧ Dlt (fnA p r) 5) ∧ (InP p (fnB p r) ∧ Dlt (fnB p r) 3) := by
  have hr := hp.rg
  refine ⟨⟨fun i => ?_, fun i hi => ?_⟩, fun i => ?_, fun i hi => ?_⟩
  · show 0 ≤ (if i ≤ 4 then r (0 + i) % p else 0) ∧ (if i ≤ 4 then r (0 + i) % p else 0) < p
    split
    · exact emr _ (by omega)
    · omega
  · show (if i ≤ 4 then r (0 + i) % p else 0) = 0
    rw [if_neg (by omega)]
  · show 0 ≤ (if i ≤ 2 then r (5 + i) % p else 0) ∧ (if i ≤ 2 then r (5 + i) % p else 0) < p
    split
    · exact emr _ (by omega)
    · omega
  · show (if i ≤ 2 then r (5 + i) % p else 0) = 0
    rw [if_neg (by omega)]
theorem nrm_eq (p : Int) (F A B : Nat → Int) : nrm p F A B = mNr p F A B := by
  unfold nrm mNr
  rw [pmul_comm p (pmul p B B) F]
theorem mes_tie {T : Td} (hV : TdV T) (c f : Int) : mesB T c f = mesMb T c f := by
  unfold mesB mesMb
  by_cases h : (0 ≤ c ∧ c < T.ct 0) ∧ (0 ≤ f ∧ f < T.ct 2)
  · have hF := (Td.crv hV (q := c.toNat) (by omega)).1
    obtain ⟨⟨a1, a2⟩, b1, b2⟩ := fn_ok hF.1 (T.rw (5 + f.toNat))
    have e := (nrm_pd hF a1 a2 b1 b2).2.2
    have pA := Dlt_pd a2 (by decide)
    have hg := hF.2.2.2.2
    congr 1
    apply propext
    refine and_congr_right (fun _ => ?_)
    show 0 ≤ pd (nrm (T.p c.toNat) (T.F c.toNat) (fnA (T.p c.toNat) (T.rw (5 + f.toNat))) (fnB (T.p c.toNat) (T.rw (5 + f.toNat)))) ↔ (0 ≤ pd (fnA (T.p c.toNat) (T.rw (5 + f.toNat))) ∨ 0 ≤ pd (fnB (T.p c.toNat) (T.rw (5 + f.toNat))))
    rw [nrm_eq, e]
    split <;> split <;> omega
  · rw [decide_eq_false (fun e => h e.1), decide_eq_false (fun e => h e.1)]
theorem tie_order {T : Td} (hV : TdV T) (c f v : Int) : aOrder T c f v = mAOrder T c f v := by
  unfold aOrder mAOrder
  rw [mes_tie hV]
  by_cases h : mesMb T c f = true ∧ 0 ≤ v ∧ v < (T.L c.toNat).length
  · rw [if_pos h, if_pos h]
    have hm := of_decide_eq_true h.1
    have hF := (Td.crv hV (q := c.toNat) (by omega)).1
    obtain ⟨⟨a1, a2⟩, b1, b2⟩ := fn_ok hF.1 (T.rw (5 + f.toNat))
    exact ord_tie hF rfl a1 a2 b1 b2 hm.2 h.2
  · rw [if_neg h, if_neg h]
theorem rat_tie {p g : Int} {F A B : Nat → Int} (hF : CF p g F) (hg : g = gen F) (jA : InP p A) (dA : Dlt A 5) (jB : InP p B) (dB : Dlt B 3) (h0 : 0 ≤ pd A ∨ 0 ≤ pd B) : ∀ n : Nat, n ≤ (pall p F).length → ratS p F A B n = mRat p F A B n
  | 0, _ => rfl
  | n + 1, h => by
    show ratS p F A B n + ordA p F A B n = mRat p F A B n + mOrd p F A B n
    rw [rat_tie hF hg jA dA jB dB h0 n (by omega), ord_tie hF hg jA dA jB dB h0 (v := (n : Int)) (by omega)]
theorem tie_norm {T : Td} (hV : TdV T) (c f w : Int) : aNorm T c f w = mANorm T c f w := by
  unfold aNorm mANorm
  rw [mes_tie hV]
  by_cases h : mesMb T c f = true
  · have hm := of_decide_eq_true h
    have hF := (Td.crv hV (q := c.toNat) (by omega)).1
    obtain ⟨⟨a1, a2⟩, b1, b2⟩ := fn_ok hF.1 (T.rw (5 + f.toNat))
    have eN : T.N c.toNat f.toNat = mNr (T.p c.toNat) (T.F c.toNat) (T.A c.toNat f.toNat) (T.B c.toNat f.toNat) := nrm_eq _ _ _ _
    have hl := pall_len hF.1 (T.F c.toNat)
    have eR : ratS (T.p c.toNat) (T.F c.toNat) (T.A c.toNat f.toNat) (T.B c.toNat f.toNat) ((T.L c.toNat).length - 1) = mRat (T.p c.toNat) (T.F c.toNat) (T.A c.toNat f.toNat) (T.B c.toNat f.toNat) ((T.L c.toNat).length - 1) := rat_tie hF rfl a1 a2 b1 b2 hm.2 _ (Nat.sub_le _ _)
    have eF : ordA (T.p c.toNat) (T.F c.toNat) (T.A c.toNat f.toNat) (T.B c.toNat f.toNat) ((T.L c.toNat).length - 1) = -(pd (mNr (T.p c.toNat) (T.F c.toNat) (T.A c.toNat f.toNat) (T.B c.toNat f.toNat))) := by
      unfold ordA
      rw [if_pos (by show ((pall (T.p c.toNat) (T.F c.toNat)).length : Int) - 1 + 1 = _; omega)]
      have e := (nrm_pd hF a1 a2 b1 b2).2.2
      have e2 : pd (mNr (T.p c.toNat) (T.F c.toNat) (T.A c.toNat f.toNat) (T.B c.toNat f.toNat)) = max (if pd (T.A c.toNat f.toNat) < 0 then -1 else 2 * pd (T.A c.toNat f.toNat)) (if pd (T.B c.toNat f.toNat) < 0 then -1 else 2 * pd (T.B c.toNat f.toNat) + 2 * gen (T.F c.toNat) + 1) := e
      rw [e2]
      unfold ordFar
      have hg := hF.2.2.2.2
      have h2 := hm.2
      split <;> split <;> omega
    rw [eN, eR, eF, if_pos h]
    by_cases h1 : (0 ≤ w ∧ w ≤ 19) ∧ (w ≤ 2 ∨ 10 ≤ w)
    · rw [if_pos ⟨h, h1⟩]
      by_cases h2 : 10 ≤ w
      · rw [if_pos h2, if_neg (by omega), if_pos (by omega)]
      · rw [if_neg h2]
        by_cases h3 : w = 0
        · rw [if_pos h3, if_pos h3]
        · rw [if_neg h3, if_neg h3, if_neg (show ¬ (10 ≤ w ∧ w ≤ 19) by omega)]
          by_cases h4 : w = 1
          · rw [if_pos h4, if_pos h4]
          · rw [if_neg h4, if_neg h4, if_pos (show w = 2 by omega)]; omega
    · rw [if_neg (fun e => h1 e.2), if_neg (show ¬ w = 0 by omega), if_neg (show ¬ (10 ≤ w ∧ w ≤ 19) by omega), if_neg (show ¬ w = 1 by omega), if_neg (show ¬ w = 2 by omega)]
  · rw [if_neg (fun e => h e.1), if_neg h]
