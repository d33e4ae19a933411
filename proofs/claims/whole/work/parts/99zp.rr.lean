/-! ===== the two bounds from which on powers lead; their sum ===== -/
theorem mRw_gen {p : Int} (hp : IsP p) {F O D : Nat → Int} (po : Nat) : MOkk p (gen F).toNat po (mRw p F O D (po : Int)).2 (mRw p F O D (po : Int)).1 := by
  have hr := hp.rg
  have k : LqK p (gen F).toNat (po : Int) (mRw p F O D (po : Int)) := mRx_k (by omega) (by omega) p.toNat 0 _ (fun q j => ⟨⟨Int.le_refl 0, by show (0 : Int) < p; omega⟩, fun _ => rfl, fun _ => rfl⟩)
  exact fun i _ j _ => ⟨(k i j).1, fun h => (k i j).2.2 h⟩
theorem mRw_40 {p : Int} (hp : IsP p) {F O D : Nat → Int} (hA : smT 169 (abF O) ≤ 40) (mo : Int) : (mRw p F O D mo).2 ≤ 40 := by
  have hpr := hp.rg
  have hO := ab_rg hA
  have e13 : smT 169 (abF O) = smT 13 (axS O) := axS_sum O 13
  have hp13 : smT p.toNat (axS O) ≤ smT 13 (axS O) := by
    have := smT_add (axS O) p.toNat (13 - p.toNat)
    rw [show p.toNat + (13 - p.toNat) = 13 from by omega] at this
    have h2 := smT_nn (f := fun i => axS O (p.toNat + i)) (n := 13 - p.toNat) (fun i _ => axS_nn O _)
    omega
  have h1 := mRx_2 hp (F := F) (D := D) (g := (gen F).toNat) (mo := mo) hO p.toNat 0 (fun _ _ => 0, 0) (by omega)
  rw [Nat.zero_add] at h1
  have h1 : ((mRw p F O D mo).2 : Int) + 0 ≤ ((0 : Nat) : Int) + smT p.toNat (axS O) := h1
  omega
/-- how many rows are asked over one X -/
def zOf (p : Int) (F O D : Nat → Int) (q : Nat) : Int := if D q = 0 then 0 else if ev p F q = 0 then 2 * mDp p F O q - O (13 * q) else (cntY p (ev p F q) (p.toNat - 1) 1 : Int) * mDp p F O q - sgC p (ev p F q) O q (p.toNat - 1) 1
theorem mRx_z {p : Int} (hp : IsP p) {F O D : Nat → Int} {g : Nat} {mo : Int} (hO : ORg O) : ∀ (m q : Nat) (W : Lq), (q : Int) + m ≤ p → ((mRx p F O D g mo m q W).2 : Int) + smT q (zOf p F O D) = W.2 + smT (q + m) (zOf p F O D)
  | 0, q, W, _ => rfl
  | m + 1, q, W, h => by
    have hpr := hp.rg
    unfold mRx
    have ih := mRx_z hp (F := F) (D := D) (g := g) (mo := mo) hO m (q + 1) (if D q = 0 then W else mCd p F O g mo q W) (by omega)
    rw [show q + 1 + m = q + (m + 1) from by omega] at ih
    have e : smT (q + 1) (zOf p F O D) = smT q (zOf p F O D) + zOf p F O D q := rfl
    have key : (((if D q = 0 then W else mCd p F O g mo q W)).2 : Int) = W.2 + zOf p F O D q := by
      unfold zOf
      by_cases cD : D q = 0
      · rw [if_pos cD, if_pos cD]; omega
      · rw [if_neg cD, if_neg cD]
        unfold mCd
        by_cases c : ev p F q = 0
        · rw [if_pos c, if_pos c]
          have hj := hO (13 * (q : Int)).toNat (by omega)
          rw [show 13 * q = (13 * (q : Int)).toNat from by omega]
          have hr : 0 ≤ 2 * mDp p F O q - O (13 * (q : Int)).toNat := by
            unfold mDp
            rw [if_pos c]
            split
            · rw [Int.tdiv_eq_ediv_of_nonneg (by omega)]; omega
            · omega
          have e1 : Int.tdiv (2 * mDp p F O q - O (13 * (q : Int)).toNat + 1) 2 = (2 * mDp p F O q - O (13 * (q : Int)).toNat + 1) / 2 := Int.tdiv_eq_ediv_of_nonneg (by omega)
          have e2 : Int.tdiv (2 * mDp p F O q - O (13 * (q : Int)).toNat) 2 = (2 * mDp p F O q - O (13 * (q : Int)).toNat) / 2 := Int.tdiv_eq_ediv_of_nonneg (by omega)
          show (((W.2 + (Int.tdiv (2 * mDp p F O q - O (13 * (q : Int)).toNat + 1) 2).toNat + (Int.tdiv (2 * mDp p F O q - O (13 * (q : Int)).toNat) 2).toNat : Nat)) : Int) = _
          rw [e1, e2]
          generalize 2 * mDp p F O q - O (13 * (q : Int)).toNat = r at hr
          omega
        · rw [if_neg c, if_neg c]
          have hge : ∀ y : Int, 1 ≤ y → y < p → y * y % p = ev p F q → O (13 * (q : Int) + y).toNat ≤ mDp p F O q := fun y h1 h2 h3 => by
            unfold mDp
            rw [if_neg c]
            exact mDy_ge hO (by omega) h3 (p.toNat - 1) 1 0 (by omega) (by omega) (by omega) (by omega) (by omega)
          rw [mCy_2 hO (by omega) hge (p.toNat - 1) 1 W (by omega) (by omega), rwC_eq]
    omega
theorem mRw_z {p : Int} (hp : IsP p) {F O D : Nat → Int} (hO : ORg O) (mo : Int) : ((mRw p F O D mo).2 : Int) = smT p.toNat (zOf p F O D) := by
  have hpr := hp.rg
  have h1 := mRx_z hp (F := F) (D := D) (g := (gen F).toNat) (mo := mo) hO p.toNat 0 (fun _ _ => 0, 0) (by omega)
  rw [Nat.zero_add] at h1
  have h1 : ((mRw p F O D mo).2 : Int) + 0 = ((0 : Nat) : Int) + smT p.toNat (zOf p F O D) := h1
  omega
theorem leads {R : Type} [Lean.Grind.CommRing R] {p : Int} {co : R → Nat → Int} {c : Int → R} {tp : Nat → R} (hS : SerR p co c tp) {F O D : Nat → Int} (hg : (gen F).toNat ≤ 2) (hA : smT 169 (abF O) ≤ 40) : ∃ N0 N1 : Nat, TE co c tp p F O D (gen F).toNat N0 ∧ TO co c tp p F O D (gen F).toNat N1 ∧ (N0 : Int) + N1 ≤ smT p.toNat (zOf p F O D) ∧ smT p.toNat (zOf p F O D) ≤ 40 ∧ ∀ po : Nat, po ≤ 700 → ((slvN p (gen F).toNat po (mRw p F O D (po : Int)).2 (mRw p F O D (po : Int)).1 (po + 1)).2.2.2.2 : Int) = max 0 (((po : Int) + 2) / 2 - N0) + max 0 (((po : Int) + 1 - 2 * (gen F).toNat) / 2 - N1) := by
  have hp := hS.1
  obtain ⟨N0, a1, a2⟩ := from_on (P := TE co c tp p F O D (gen F).toNat) 350 (fun N hN h => h.up hS (by omega))
  obtain ⟨N1, b1, b2⟩ := from_on (P := TO co c tp p F O D (gen F).toNat) 350 (fun N hN h => h.up hS (by omega))
  have cnt : ∀ po : Nat, po ≤ 700 → ((slvN p (gen F).toNat po (mRw p F O D (po : Int)).2 (mRw p F O D (po : Int)).1 (po + 1)).2.2.2.2 : Int) = max 0 (((po : Int) + 2) / 2 - N0) + max 0 (((po : Int) + 1 - 2 * (gen F).toNat) / 2 - N1) := fun po hpo => by
    obtain ⟨-, -, -, h4⟩ := slv_all hp (mRw_gen hp (F := F) (O := O) (D := D) po) (po + 1) (Nat.le_refl _)
    have e : (slvN p (gen F).toNat po (mRw p F O D (po : Int)).2 (mRw p F O D (po : Int)).1 (po + 1)).2.2.2.2 = (enL (slvN p (gen F).toNat po (mRw p F O D (po : Int)).2 (mRw p F O D (po : Int)).1 (po + 1)).2.2.1 (po + 1)).2 := congrArg Prod.snd h4
    rw [e, enL_cnt (g := (gen F).toNat) (N0 := N0) (N1 := N1) (po + 1) (fun j hj => ?_)]
    · rw [show (((po + 1 : Nat) : Int) + 1) = (po : Int) + 2 from by omega, show (((po + 1 : Nat) : Int) - 2 * ((gen F).toNat : Nat)) = (po : Int) + 1 - 2 * ((gen F).toNat : Nat) from by omega]
    · rw [lead_T hS hpo (show j ≤ po by omega)]
      constructor
      · rintro (⟨h1, h2⟩ | ⟨h1, h2, h3⟩)
        · exact Or.inl ⟨h1, (a2 _ (by omega)).mp h2⟩
        · exact Or.inr ⟨h1, h2, (b2 _ (by omega)).mp h3⟩
      · rintro (⟨h1, h2⟩ | ⟨h1, h2, h3⟩)
        · exact Or.inl ⟨h1, (a2 _ (by omega)).mpr h2⟩
        · exact Or.inr ⟨h1, h2, (b2 _ (by omega)).mpr h3⟩
  have z40 := mRw_40 hp (F := F) (D := D) hA ((700 : Nat) : Int)
  have zz := mRw_z hp (F := F) (D := D) (ab_rg hA) ((700 : Nat) : Int)
  have c7 := cnt 700 (by omega)
  have s7 := slv_cnt (p := p) (g := (gen F).toNat) (po := 700) (u := (mRw p F O D ((700 : Nat) : Int)).2) (M := (mRw p F O D ((700 : Nat) : Int)).1) (700 + 1)
  have r7 := (slv_all hp (mRw_gen hp (F := F) (O := O) (D := D) 700) (700 + 1) (Nat.le_refl _)).1.2.1
  generalize (slvN p (gen F).toNat 700 (mRw p F O D ((700 : Nat) : Int)).2 (mRw p F O D ((700 : Nat) : Int)).1 (700 + 1)) = w at c7 s7 r7
  generalize (gen F).toNat = g at *
  generalize (mRw p F O D ((700 : Nat) : Int)).2 = u at *
  have hN : (N0 : Int) + N1 ≤ smT p.toNat (zOf p F O D) := by omega
  refine ⟨N0, N1, (a2 N0 (by omega)).mpr (Nat.le_refl _), (b2 N1 (by omega)).mpr (Nat.le_refl _), hN, by omega, cnt⟩
/-- both roots over X -/
theorem lead_two {R : Type} [Lean.Grind.CommRing R] {p : Int} {co : R → Nat → Int} {c : Int → R} {tp : Nat → R} (hS : SerR p co c tp) {F : Nat → Int} {x v : Int} {A B C E H : R} {m : Nat} (sqy : ∀ y : Int, 1 ≤ y → y < p → y * y % p = v → ∀ s : R, (∀ i, co s i = mSr p F x y i) → VZ co ((A + B * s) * (C + E * s)) m ∧ SmS co (s * s) H 90) (hp : IsP p) {z : Int} (hz : 1 ≤ z ∧ z < p) (z2 : z * z % p = v) (hm : m ≤ 90) : VZ co (A * E + B * C) m := by
  have hr := hp.rg
  obtain ⟨s, hs⟩ := hS.2.2.2.2.2.2.2.2 (mSr p F x z) (fun i => rtT_rg (by omega) ⟨by omega, hz.2⟩ 95 i)
  obtain ⟨t, ht⟩ := hS.2.2.2.2.2.2.2.2 (mSr p F x (p - z)) (fun i => rtT_rg (by omega) ⟨by omega, by omega⟩ 95 i)
  have e2 : (p - z) * (p - z) % p = v := by
    rw [show (p - z) * (p - z) = z * z + p * (p - 2 * z) by grind, Int.add_mul_emod_self_left]; exact z2
  obtain ⟨u1, u2⟩ := sqy z hz.1 hz.2 z2 s hs
  obtain ⟨w1, w2⟩ := sqy (p - z) (by omega) (by omega) e2 t ht
  have s0 : co s 0 = z := by rw [hs]; exact rtT_z
  have t0 : co t 0 = p - z := by rw [ht]; exact rtT_z
  have ho : OrS co (s + c (-1) * t) 0 := by
    refine ⟨fun j hj => by omega, ?_⟩
    rw [hS.2.2.2.1, co_c hS, s0, t0, Int.add_emod_emod, show z + -1 * (p - z) = 2 * z + p * (-1) by grind, Int.add_mul_emod_self_left]
    rcases hp with e | e | e | e | e <;> subst e <;> omega
  have sd : VZ co (s * s + c (-1) * (t * t)) m := fun j hj => by
    rw [hS.2.2.2.1, co_c hS, u2 j (by omega), w2 j (by omega), Int.add_emod_emod, show co H j + -1 * co H j = 0 by omega]; rfl
  have k0 : VZ co (c (-1) * (B * E * (s * s + c (-1) * (t * t)))) m := by
    have := VZ.mul hS (a := B * E) (m := 0) (fun t ht => by omega) sd
    rw [Nat.zero_add] at this
    exact VZ.c hS this _
  have k1 := VZ.add hS (VZ.add hS u1 (VZ.c hS w1 (-1))) k0
  have n1 : c (-1) = -1 := EV_neg hS.2.1
  rw [show (A + B * s) * (C + E * s) + c (-1) * ((A + B * t) * (C + E * t)) + c (-1) * (B * E * (s * s + c (-1) * (t * t))) = (A * E + B * C) * (s + c (-1) * t) by rw [n1]; grind] at k1
  exact VZ.div hS k1 ho
/-- both sides' lead multiplied -/
theorem lead_mul {R : Type} [Lean.Grind.CommRing R] {p : Int} {co : R → Nat → Int} {c : Int → R} {tp : Nat → R} (hS : SerR p co c tp) {F O O' D : Nat → Int} (dF : Dlt F 6) (hO : ORg O) (hO' : ∀ j, O' j = -O j) {g N M : Nat} (hN : N ≤ 40) (hM : M ≤ 40) (hg : g ≤ 2) (h1 : TE co c tp p F O D g N) (h2 : TO co c tp p F O' D g M) : smT p.toNat (fun x => mDt p F O D x + mDt p F O' D x) ≤ (N : Int) + M := by
  have hp := hS.1
  have hr := hp.rg
  have hOr' : ORg O' := fun j hj => by rw [hO']; have := hO j hj; omega
  obtain ⟨fA, fB, a1, a2, a3, a4⟩ := h1
  obtain ⟨gA, gB, b1, b2, b3, b4⟩ := h2
  have dBC : Dg co (fB * gA) (N + M) := by
    by_cases cg : N ≤ g
    · have fz : fB = 0 := hS.2.2.2.2.2.2.2.1 _ _ (fun i => by rw [a3 i (by omega), co_0 hS])
      rw [fz, show (0 : R) * gA = 0 by grind]
      exact fun i _ => co_0 hS i
    · have a3' : Dg co fB ((N - g - 1) + 1) := by rw [show N - g - 1 + 1 = N - g from by omega]; exact a3
      have := (Dg.mul hS a3' (show Dg co gA ((M + g) + 1) from b3)).1
      rw [show N - g - 1 + (M + g) + 1 = N + M from by omega] at this
      exact this
  obtain ⟨m1, m2⟩ := Dg.mul hS a1 b1
  have nz : co (fA * gB + fB * gA) (N + M) ≠ 0 := by
    rw [hS.2.2.2.1, m2, dBC (N + M) (Nat.le_refl _), Int.add_zero, Int.emod_emod]
    have r1 := hS.2.2.1 fA N
    have r2 := hS.2.2.1 gB M
    exact (nzp hp _ _ ⟨by omega, r1.2⟩ ⟨by omega, r2.2⟩).1
  have h := deg_roots hS (C := fun x => (mDt p F O D x + mDt p F O' D x).toNat) (N := N + M) (a := fA * gB + fB * gA) (by omega) (Dg.add hS m1 (dBC.le (by omega))) (fun e => nz (by rw [e]; exact co_0 hS _)) (fun x hx => ?_)
  · have nn : ∀ (Q : Nat → Int), ORg Q → ∀ i : Nat, i < p.toNat → 0 ≤ mDt p F Q D i := fun Q hQ i hi => by
      unfold mDt
      split
      · omega
      · exact (mDp_rg hp hQ (by omega)).1
    rw [smT_ext (g := fun x => mDt p F O D x + mDt p F O' D x) (fun i hi => by
      have := nn O hO i hi
      have := nn O' hOr' i hi
      show (((mDt p F O D i + mDt p F O' D i).toNat : Nat) : Int) = _
      omega)] at h
    omega
  · show VZ co (PH co c (c x + tp 1) (fA * gB + fB * gA)) (mDt p F O D x + mDt p F O' D x).toNat
    unfold mDt
    by_cases cD : D x = 0
    · rw [if_pos cD, if_pos cD]; exact fun t ht => absurd ht (by omega)
    · rw [if_neg cD, if_neg cD, PH_add hS, PH_mul hS _ a1 b1 (by omega), PH_mul hS _ a3 b3 (by omega)]
      have ka := a4 x hx cD
      have kb := b4 x hx cD
      unfold CnX at ka kb
      have d1 := mDp_rg hp (F := F) (X := (x : Int)) hO (by omega)
      have d2 := mDp_rg hp (F := F) (X := (x : Int)) hOr' (by omega)
      generalize PH co c (c x + tp 1) fA = A at *
      generalize PH co c (c x + tp 1) fB = B at *
      generalize PH co c (c x + tp 1) gA = C at *
      generalize PH co c (c x + tp 1) gB = E at *
      by_cases c0 : ev p F x = 0
      · obtain ⟨ka1, ka2⟩ := ka.1 c0
        obtain ⟨kb1, kb2⟩ := kb.1 c0
        rw [hO'] at kb1 kb2
        have hj := hO (13 * (x : Int)).toNat (by omega)
        have q1 : 0 ≤ 2 * mDp p F O x - O (13 * (x : Int)).toNat := by
          unfold mDp
          rw [if_pos c0]
          split
          · rw [Int.tdiv_eq_ediv_of_nonneg (by omega)]; omega
          · omega
        have q2 : 0 ≤ 2 * mDp p F O' x - -O (13 * (x : Int)).toNat := by
          unfold mDp
          rw [if_pos c0, hO']
          split
          · rw [Int.tdiv_eq_ediv_of_nonneg (by omega)]; omega
          · omega
        rw [Int.tdiv_eq_ediv_of_nonneg (by omega)] at ka1 ka2 kb1 kb2
        generalize mDp p F O x = e1 at *
        generalize mDp p F O' x = e2 at *
        generalize O (13 * (x : Int)).toNat = o at *
        have v1 := VZ.mul hS ka1 kb2
        have v2 := VZ.mul hS ka2 kb1
        have s1 : ((2 * e1 - o + 1) / 2).toNat + ((2 * e2 - -o) / 2).toNat = (e1 + e2).toNat := by omega
        have s2 : ((2 * e1 - o) / 2).toNat + ((2 * e2 - -o + 1) / 2).toNat = (e1 + e2).toNat := by omega
        rw [s1] at v1
        rw [s2] at v2
        exact VZ.add hS v1 v2
      · have sqy : ∀ y : Int, 1 ≤ y → y < p → y * y % p = ev p F x → ∀ s : R, (∀ i, co s i = mSr p F x y i) → VZ co ((A + B * s) * (C + E * s)) (mDp p F O x + mDp p F O' x).toNat ∧ SmS co (s * s) (EV c (c x + tp 1) 24 F) 90 := fun y y1 y2 y3 s hs => by
          have ua := ka.2 c0 y y1 y2 y3 s hs
          have ub := kb.2 c0 y y1 y2 y3 s hs
          rw [hO'] at ub
          have g1 : O (13 * (x : Int) + y).toNat ≤ mDp p F O x := by
            unfold mDp
            rw [if_neg c0]
            exact mDy_ge hO (by omega) y3 (p.toNat - 1) 1 0 (by omega) (by omega) (by omega) (by omega) (by omega)
          have g2 : -O (13 * (x : Int) + y).toNat ≤ mDp p F O' x := by
            have := mDy_ge (p := p) (X := (x : Int)) (v := ev p F x) hOr' (by omega) y3 (p.toNat - 1) 1 0 (by omega) (by omega) (by omega) (by omega) (by omega)
            rw [hO'] at this
            unfold mDp
            rw [if_neg c0]
            exact this
          have v := VZ.mul hS ua ub
          rw [show (mDp p F O x - O (13 * (x : Int) + y).toNat).toNat + (mDp p F O' x - -O (13 * (x : Int) + y).toNat).toNat = (mDp p F O x + mDp p F O' x).toNat from by omega] at v
          refine ⟨v, fun j hj => ?_⟩
          rw [hS.2.2.2.2.1, show co s = mSr p F x y from funext hs]
          exact root_sq hS dF (by omega) y3 (by omega)
        rcases mDy_ex (p := p) (v := ev p F x) (O := O) (X := (x : Int)) (p.toNat - 1) 1 0 with e0 | ⟨z, z1, z2, z3⟩
        · rcases mDy_ex (p := p) (v := ev p F x) (O := O') (X := (x : Int)) (p.toNat - 1) 1 0 with e0' | ⟨z, z1, z2, z3⟩
          · have h1 : mDp p F O x = 0 := by unfold mDp; rw [if_neg c0]; exact e0
            have h2 : mDp p F O' x = 0 := by unfold mDp; rw [if_neg c0]; exact e0'
            rw [h1, h2]; exact fun t ht => absurd ht (by omega)
          · exact lead_two hS sqy hp (by omega) z2 (by omega)
        · exact lead_two hS sqy hp (by omega) z2 (by omega)
