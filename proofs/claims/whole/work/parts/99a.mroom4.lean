/-! ===== the reference: rooms: conditions, lines ===== -/
def mCy (p : Int) (F O : Nat → Int) (g : Nat) (mo X e : Int) : Nat → Int → Lq → Lq
  | 0, _, W => W
  | m + 1, y, W => mCy p F O g mo X e m (y + 1) (if y * y % p = ev p F X then wtM p g mo X (mSr p F X y) 0 (e - O (13 * X + y).toNat).toNat W else W)
def mCd (p : Int) (F O : Nat → Int) (g : Nat) (mo X : Int) (W : Lq) : Lq := if ev p F X = 0 then wtM p g mo X (fun _ => 0) 2 (Int.tdiv (2 * mDp p F O X - O (13 * X).toNat) 2).toNat (wtM p g mo X (fun _ => 0) 1 (Int.tdiv (2 * mDp p F O X - O (13 * X).toNat + 1) 2).toNat W) else mCy p F O g mo X (mDp p F O X) (p.toNat - 1) 1 W
theorem mCy_le {p : Int} {F O : Nat → Int} {g : Nat} {mo X e : Int} : ∀ (m : Nat) (y : Int) (W : Lq), W.2 ≤ (mCy p F O g mo X e m y W).2
  | 0, _, _ => Nat.le_refl _
  | m + 1, y, W => by
    unfold mCy
    have := mCy_le (p := p) (F := F) (O := O) (g := g) (mo := mo) (X := X) (e := e) m (y + 1) (if y * y % p = ev p F X then wtM p g mo X (mSr p F X y) 0 (e - O (13 * X + y).toNat).toNat W else W)
    split at this
    · rw [if_pos (by assumption)]
      have h2 : (wtM p g mo X (mSr p F X y) 0 (e - O (13 * X + y).toNat).toNat W).2 = W.2 + (e - O (13 * X + y).toNat).toNat := rfl
      omega
    · rw [if_neg (by assumption)]; exact this
theorem mCd_le {p : Int} {F O : Nat → Int} {g : Nat} {mo X : Int} (W : Lq) : W.2 ≤ (mCd p F O g mo X W).2 := by
  unfold mCd
  split
  · show W.2 ≤ W.2 + _ + _
    omega
  · exact mCy_le _ _ _
/-- the rows so far -/
def RS (Z : Zt) (b : Nat) (W : Lq) : Prop := MM Z b W.1 ∧ Z b 26 = (W.2 : Int) ∧ ∀ q j : Nat, W.2 ≤ q → W.1 q j = 0
theorem wtM_z {p : Int} {g : Nat} {mo X : Int} {S : Nat → Int} {t : Int} {w : Nat} {W : Lq} (h : ∀ q j : Nat, W.2 ≤ q → W.1 q j = 0) : ∀ q j : Nat, (wtM p g mo X S t w W).2 ≤ q → (wtM p g mo X S t w W).1 q j = 0 := fun q j hq => by
  have hq : W.2 + w ≤ q := hq
  show (if W.2 ≤ q ∧ q < W.2 + w then _ else W.1 q j) = 0
  rw [if_neg (by omega)]; exact h q j (by omega)
def CFr (b : Nat) (Z Z' : Zt) : Prop := (∀ c, c ≠ b → c ≠ b + 13 → c ≠ b + 16 → c ≠ b + 17 → c ≠ b + 18 → c ≠ b + 19 → Z' c = Z c) ∧ ∀ i : Nat, i ≠ 26 → Z' b i = Z b i
theorem CFr.rf {b : Nat} {Z : Zt} : CFr b Z Z := ⟨fun _ _ _ _ _ _ _ => rfl, fun _ _ => rfl⟩
theorem CFr.tr {b : Nat} {Z Z1 Z2 : Zt} (h : CFr b Z Z1) (g : CFr b Z1 Z2) : CFr b Z Z2 := ⟨fun c h1 h2 h3 h4 h5 h6 => (g.1 c h1 h2 h3 h4 h5 h6).trans (h.1 c h1 h2 h3 h4 h5 h6), fun i hi => (g.2 i hi).trans (h.2 i hi)⟩
theorem WF.cf {b : Nat} {Z Z1 : Zt} (h : WF b Z Z1) : CFr b Z Z1 := ⟨fun c h1 h2 _ _ h5 h6 => h.1 c h1 h2 h5 h6, h.2⟩
theorem CFr.ser {b : Nat} {Z Z1 : Zt} (h : Oth Z Z1 (fun c => c = b + 16 ∨ c = b + 17)) : CFr b Z Z1 := ⟨fun c _ _ h3 h4 _ _ => h c (by show ¬ (c = b + 16 ∨ c = b + 17); omega), fun i _ => by rw [h b (by show ¬ (b = b + 16 ∨ b = b + 17); omega)]⟩
theorem MF.cf {b : Nat} {Z Z1 : Zt} {p : Int} {F : Nat → Int} (h : MF Z b p F) (g : CFr b Z Z1) : MF Z1 b p F := by
  obtain ⟨h1, h2, P, h3, h4⟩ := h
  exact ⟨h1.kept ⟨g.2 _ (by decide), g.2 _ (by decide), g.2 _ (by decide)⟩ (g.1 _ (by omega) (by omega) (by omega) (by omega) (by omega) (by omega)) (g.1 _ (by omega) (by omega) (by omega) (by omega) (by omega) (by omega)), h2, P, h3.kept (g.1 _ (by omega) (by omega) (by omega) (by omega) (by omega) (by omega)), h4⟩
theorem MSq.cf {b : Nat} {Z Z1 : Zt} {fr : Int} {O D : Nat → Int} (h : MSq Z b fr O D) (g : CFr b Z Z1) : MSq Z1 b fr O D := by
  obtain ⟨h1, h2, h3⟩ := h
  refine ⟨by rw [g.2 21 (by decide)]; exact h1, fun j hj => ?_, fun q hq => ?_⟩
  · rw [g.1 _ (by omega) (by omega) (by omega) (by omega) (by omega) (by omega)]; exact h2 j hj
  · rw [g.1 _ (by omega) (by omega) (by omega) (by omega) (by omega) (by omega)]; exact h3 q hq
theorem mSr_in {p : Int} (hp : 0 < p) {F : Nat → Int} {X y : Int} (hy : 0 ≤ y ∧ y < p) : InP p (mSr p F X y) := fun j => rtT_rg hp hy 95 j
theorem sp_X12_conditionsAt {k n : Nat} {x : Wx} {Z : Zt} {Q : Option Value → Wx → Zt → Prop} {b : Nat} {X : Int} (o : Is12 x b) {p fr mo : Int} {F O D : Nat → Int} {W : Lq} (hF : MF Z b p F) (hS : MSq Z b fr O D) (hO : ORg O) (hX : 0 ≤ X ∧ X < p) (hmo : Z b 24 = mo ∧ 0 ≤ mo ∧ mo ≤ 95) (hW : RS Z b W) (hk : (mCd p F O (gen F).toNat mo X W).2 ≤ 100) (h : ∀ Z' : Zt, (RS Z' b (mCd p F O (gen F).toNat mo X W) ∧ CFr b Z Z') → Q none x Z') : V mX12_conditionsAt k n 0 [some (r_ b), some (i_ X), none, none, none] [] x Z Q := by
  obtain ⟨hMC, hCF, P, mP, p0⟩ := id hF
  have hp := hCF.1
  have hpr := hp.rg
  have iF := hCF.2.1
  have b11 := hMC.1.1
  have hv := ev_rg (p := p) (by omega) F X
  have hgn := gen_rg F
  obtain ⟨g, hg⟩ : ∃ g : Nat, gen F = (g : Int) := ⟨(gen F).toNat, by omega⟩
  have b12 : Z b 12 = (g : Int) := by rw [← hg]; exact hMC.1.2
  rw [hg, Int.toNat_natCast] at hk h
  have hd := mDp_rg hp (F := F) hO hX
  have t0 : (0 : Int).toNat = 0 := rfl
  have lp : ev p F X ≠ 0 → ∀ (m : Nat) (y : Int) (Z1 : Zt) (W1 : Lq), 1 ≤ y → y + m = p → CFr b Z Z1 → RS Z1 b W1 → mCy p F O g mo X (mDp p F O X) m y W1 = mCd p F O g mo X W → V mX12_conditionsAt k n 52 [some (r_ b), some (i_ X), some (i_ (mDp p F O X)), some (i_ y), none] [] x Z1 Q := by
    intro hne m
    induction m with
    | zero =>
      intro y Z1 W1 hy hm hc hR he
      have he : W1 = mCd p F O g mo X W := he
      have b1 : Z1 b 11 = p := by rw [hc.2 11 (by decide)]; exact b11
      refine b_X12_conditionsAt_52 o ?_
      rw [b1]
      exact ⟨⟨by omega, by omega⟩, ⟨by omega, by omega⟩, fun _ => h Z1 ⟨by rw [← he]; exact hR, hc⟩, fun c => by omega⟩
    | succ m ih =>
      intro y Z1 W1 hy hm hc hR he
      have b1 : Z1 b 11 = p := by rw [hc.2 11 (by decide)]; exact b11
      have m1 : MS Z1 b P := mP.kept (hc.1 _ (by omega) (by omega) (by omega) (by omega) (by omega) (by omega))
      have q := mul13 (a := y) (b := y) (by omega) (by omega)
      have q2 := emr (y * y) (show 0 < p by omega)
      have hj := hO (13 * X + y).toNat (by omega)
      unfold mCy at he
      refine b_X12_conditionsAt_52 o ?_
      rw [b1]
      refine ⟨⟨by omega, by omega⟩, ⟨by omega, by omega⟩, fun c => by omega, fun _ => ⟨⟨by omega, by omega⟩, by omega, by omega, P, p, ⟨hp, rfl⟩, m1, by decide, by omega, by rw [t0, p0]; exact iF, ?_⟩⟩
      rw [t0, p0]
      refine ⟨⟨by omega, by omega⟩, ⟨by omega, by omega⟩, fun c => ⟨by omega, by omega, ?_⟩, fun c => b_X12_conditionsAt_110 (ih (y + 1) Z1 W1 (by omega) (by omega) hc hR (by rw [if_neg c] at he; exact he))⟩
      rw [if_pos c] at he
      rw [(hS.cf hc).2.1 _ (by omega)]
      have hge : O (13 * X + y).toNat ≤ mDp p F O X := by
        unfold mDp
        rw [if_neg hne]
        exact mDy_ge hO (by omega) c (p.toNat - 1) 1 0 (by omega) (by omega) (by omega) (by omega) (by omega)
      have hle := mCy_le (p := p) (F := F) (O := O) (g := g) (mo := mo) (X := X) (e := mDp p F O X) m (y + 1) (wtM p g mo X (mSr p F X y) 0 (mDp p F O X - O (13 * X + y).toNat).toNat W1)
      rw [he] at hle
      have hle : W1.2 + (mDp p F O X - O (13 * X + y).toNat).toNat ≤ (mCd p F O g mo X W).2 := hle
      refine ⟨p, F, hF.cf hc, hX, by omega, by omega, fun Z2 hz2 => ?_⟩
      have hc2 : CFr b Z Z2 := hc.tr (CFr.ser hz2.2)
      refine ⟨p, mo, g, mSr p F X y, W1, ⟨hp, by rw [hc2.2 11 (by decide)]; exact b11⟩, ⟨by rw [hc2.2 12 (by decide)]; exact b12, by omega⟩, ⟨by rw [hc2.2 24 (by decide)]; exact hmo.1, hmo.2⟩, ⟨hR.1.kept (hz2.2 _ (by show ¬ (b + 13 = b + 16 ∨ b + 13 = b + 17); omega)), ?_, hR.2.2⟩, hX, by omega, Or.inl rfl, ⟨mSr_in (by omega) (by omega), fun _ => hz2.1⟩, fun Z3 hz3 => b_X12_conditionsAt_110 (ih (y + 1) Z3 _ (by omega) (by omega) (hc2.tr hz3.2.2.cf) ⟨hz3.1, hz3.2.1, wtM_z hR.2.2⟩ he)⟩
      rw [hz2.2 b (by show ¬ (b = b + 16 ∨ b = b + 17); omega)]; exact hR.2.1
  refine b_X12_conditionsAt_0 o ⟨p, fr, F, O, D, hF, hS, hO, hX, P, p, ⟨hp, b11⟩, mP, by decide, by omega, by rw [t0, p0]; exact iF, ?_⟩
  rw [t0, p0]
  refine ⟨⟨by omega, by omega⟩, fun c => lp c (p.toNat - 1) 1 Z W (by omega) (by omega) CFr.rf hW ?_, fun c => ⟨by omega, by omega, ?_⟩⟩
  · unfold mCd; rw [if_neg c]
  · have hj := hO (13 * X).toNat (by omega)
    rw [hS.2.1 _ (by omega)]
    have hr : 0 ≤ 2 * mDp p F O X - O (13 * X).toNat ∧ 2 * mDp p F O X - O (13 * X).toNat ≤ 40 := by
      unfold mDp
      rw [if_pos c]
      split
      · rw [Int.tdiv_eq_ediv_of_nonneg (by omega)]; omega
      · omega
    unfold mCd at hk h
    rw [if_pos c] at hk h
    have e1 : Int.tdiv (2 * mDp p F O X - O (13 * X).toNat + 1) 2 = (2 * mDp p F O X - O (13 * X).toNat + 1) / 2 := Int.tdiv_eq_ediv_of_nonneg (by omega)
    have e2 : Int.tdiv (2 * mDp p F O X - O (13 * X).toNat) 2 = (2 * mDp p F O X - O (13 * X).toNat) / 2 := Int.tdiv_eq_ediv_of_nonneg (by omega)
    rw [e1, e2] at hk h ⊢
    generalize 2 * mDp p F O X - O (13 * X).toNat = r at hr hk h
    have hk : W.2 + ((r + 1) / 2).toNat + (r / 2).toNat ≤ 100 := hk
    refine ⟨⟨by omega, by omega⟩, p, mo, g, fun _ => 0, W, ⟨hp, b11⟩, ⟨b12, by omega⟩, hmo, hW, hX, by omega, Or.inr (Or.inl rfl), ⟨fun j => by show (0 : Int) ≤ 0 ∧ 0 < p; omega, fun e => absurd e (by decide)⟩, fun Z1 hz1 => ⟨⟨by omega, by omega⟩, ?_⟩⟩
    obtain ⟨z1, z2, z3⟩ := hz1
    have hc1 := z3.cf
    refine ⟨p, mo, g, fun _ => 0, _, ⟨hp, by rw [hc1.2 11 (by decide)]; exact b11⟩, ⟨by rw [hc1.2 12 (by decide)]; exact b12, by omega⟩, ⟨by rw [hc1.2 24 (by decide)]; exact hmo.1, hmo.2⟩, ⟨z1, z2, wtM_z hW.2.2⟩, hX, ?_, Or.inr (Or.inr rfl), ⟨fun j => by show (0 : Int) ≤ 0 ∧ 0 < p; omega, fun e => absurd e (by decide)⟩, fun Z2 hz2 => h Z2 ⟨⟨hz2.1, hz2.2.1, wtM_z (wtM_z hW.2.2)⟩, hc1.tr hz2.2.2.cf⟩⟩
    show 0 ≤ r / 2 ∧ r / 2 ≤ 95 ∧ (((W.2 + ((r + 1) / 2).toNat : Nat) : Int)) + r / 2 ≤ 100
    omega
theorem sp_X12_swaps {k n : Nat} {x : Wx} {Z : Zt} {Q : Option Value → Wx → Zt → Prop} {b : Nat} {l r : Nat} (o : Is12 x b) {M : Nat → Nat → Int} (hM : MM Z b M) (hl : l < 100 ∧ r < 100) (h : ∀ Z' : Zt, (MM Z' b (swM M l r) ∧ Oth Z Z' (fun c => c = b + 13)) → Q none x Z') : V mX12_swaps k n 0 [some (r_ b), some (i_ (l : Int)), some (i_ (r : Int)), none, none] [] x Z Q := by
  have lp : ∀ (m j : Nat) (Z1 : Zt), j + m = 96 → Oth Z Z1 (fun c => c = b + 13) → MM Z1 b (fun q i => if i < j then swM M l r q i else M q i) → V mX12_swaps k n 2 [some (r_ b), some (i_ (l : Int)), some (i_ (r : Int)), some (i_ (j : Int)), none] [] x Z1 Q := by
    intro m
    induction m with
    | zero =>
      intro j Z1 hj ho hm
      exact b_X12_swaps_2 o ⟨⟨by omega, by omega⟩, fun _ => h Z1 ⟨hm.eq (fun q i _ hi => by rw [if_pos (by omega)]), ho⟩, fun c => by omega⟩
    | succ m ih =>
      intro j Z1 hj ho hm
      have e1 : Z1 (b + 13) (96 * l + j) = (if j < j then swM M l r l j else M l j) := hm l j hl.1 (by omega)
      have e2 : Z1 (b + 13) (96 * r + j) = (if j < j then swM M l r r j else M r j) := hm r j hl.2 (by omega)
      rw [if_neg (by omega)] at e1 e2
      refine b_X12_swaps_2 o ?_
      rw [show (96 * (l : Int) + (j : Int)).toNat = 96 * l + j from by omega, show (96 * (r : Int) + (j : Int)).toNat = 96 * r + j from by omega, e1, e2]
      refine ⟨⟨by omega, by omega⟩, fun c => by omega, fun _ => ⟨by omega, by omega, by omega, by omega, fun Z2 e3 Z3 e4 => ?_⟩⟩
      refine ih (j + 1) Z3 (by omega) (ho.tr (fun c hc => by rw [e4, up_row _ _ _ _ _ hc, e3, up_row _ _ _ _ _ hc])) (((hm.put (by omega) e3).put (by omega) e4).eq (fun q i _ hi => ?_))
      unfold putM swM
      dsimp only
      by_cases ci : i = j
      · subst ci
        rw [if_pos (show i < i + 1 by omega), if_neg (Nat.lt_irrefl i)]
        by_cases cr : q = r
        · rw [if_pos ⟨cr, rfl⟩, if_pos cr]
        · rw [if_neg (fun e => cr e.1), if_neg cr]
          by_cases cl : q = l
          · rw [if_pos ⟨cl, rfl⟩, if_pos cl]
          · rw [if_neg (fun e => cl e.1), if_neg cl]
      · rw [if_neg (fun e => ci e.2), if_neg (fun e => ci e.2)]
        by_cases cj : i < j
        · rw [if_pos cj, if_pos (show i < j + 1 by omega)]
        · rw [if_neg cj, if_neg (show ¬ i < j + 1 by omega)]
  exact b_X12_swaps_0 (lp 96 0 Z rfl Oth.rf (hM.eq (fun q i _ _ => by rw [if_neg (by omega)])))
theorem sp_X12_takesRow {k n : Nat} {x : Wx} {Z : Zt} {Q : Option Value → Wx → Zt → Prop} {b : Nat} {a r : Nat} {v : Int} (o : Is12 x b) {M : Nat → Nat → Int} {p : Int} (hp : IsP p ∧ Z b 11 = p) (hM : MM Z b M) (hl : (a < 100 ∧ r < 100) ∧ a ≠ r) (hv : 0 ≤ v ∧ v < p) (hr : ∀ j : Nat, j < 96 → (0 ≤ M a j ∧ M a j < p) ∧ (0 ≤ M r j ∧ M r j < p)) (h : ∀ Z' : Zt, (MM Z' b (fun q j => if q = a then (M a j - v * M r j) % p else M q j) ∧ Oth Z Z' (fun c => c = b + 13)) → Q none x Z') : V mX12_takesRow k n 0 [some (r_ b), some (i_ (a : Int)), some (i_ (r : Int)), some (i_ v), none] [] x Z Q := by
  obtain ⟨hp, hb⟩ := hp
  have hpr := hp.rg
  have lp : ∀ (m j : Nat) (Z1 : Zt), j + m = 96 → Oth Z Z1 (fun c => c = b + 13) → MM Z1 b (fun q i => if q = a ∧ i < j then (M a i - v * M r i) % p else M q i) → V mX12_takesRow k n 3 [some (r_ b), some (i_ (a : Int)), some (i_ (r : Int)), some (i_ v), some (i_ (j : Int))] [] x Z1 Q := by
    intro m
    induction m with
    | zero =>
      intro j Z1 hj ho hm
      refine b_X12_takesRow_3 o ⟨⟨by omega, by omega⟩, fun _ => h Z1 ⟨hm.eq (fun q i _ hi => ?_), ho⟩, fun c => by omega⟩
      by_cases c : q = a
      · rw [if_pos ⟨c, by omega⟩, if_pos c]
      · rw [if_neg (fun e => c e.1), if_neg c]
    | succ m ih =>
      intro j Z1 hj ho hm
      have b1 : Z1 b 11 = p := by rw [ho b (by show ¬ (b = b + 13); omega)]; exact hb
      have e1 : Z1 (b + 13) (96 * a + j) = (if a = a ∧ j < j then (M a j - v * M r j) % p else M a j) := hm a j hl.1.1 (by omega)
      have e2 : Z1 (b + 13) (96 * r + j) = (if r = a ∧ j < j then (M a j - v * M r j) % p else M r j) := hm r j hl.1.2 (by omega)
      rw [if_neg (by omega)] at e1 e2
      obtain ⟨r1, r2⟩ := hr j (by omega)
      have q := mul13 (a := v) (b := M r j) (by omega) (by omega)
      refine b_X12_takesRow_3 o ?_
      rw [show (96 * (a : Int) + (j : Int)).toNat = 96 * a + j from by omega, show (96 * (r : Int) + (j : Int)).toNat = 96 * r + j from by omega, e1, e2, b1]
      refine ⟨⟨by omega, by omega⟩, fun c => by omega, fun _ => ⟨by omega, by omega, by omega, by omega, ⟨by omega, by omega⟩, by omega, by omega, fun Z2 e3 => ?_⟩⟩
      refine ih (j + 1) Z2 (by omega) (ho.tr (fun c hc => by rw [e3, up_row _ _ _ _ _ hc])) ((hm.put (by omega) e3).eq (fun q i _ hi => ?_))
      unfold putM
      dsimp only
      by_cases cq : q = a
      · subst cq
        by_cases ci : i = j
        · rw [if_pos ⟨rfl, ci⟩, if_pos ⟨rfl, by omega⟩, ci]
        · rw [if_neg (fun e => ci e.2)]
          by_cases cj : i < j
          · rw [if_pos ⟨rfl, cj⟩, if_pos ⟨rfl, by omega⟩]
          · rw [if_neg (fun e => cj e.2), if_neg (by omega)]
      · rw [if_neg (fun e => cq e.1), if_neg (fun e => cq e.1), if_neg (fun e => cq e.1)]
  exact b_X12_takesRow_0 (lp 96 0 Z rfl Oth.rf (hM.eq (fun q i _ _ => by rw [if_neg (by omega)])))
theorem w_X12_swaps {k n : Nat} {x : Wx} {Z : Zt} {Q : Option Value → Wx → Zt → Prop} {b : Nat} {l r : Int} (o : Is12 x b) {M : Nat → Nat → Int} (hM : MM Z b M) (hl : (0 ≤ l ∧ l < 100) ∧ (0 ≤ r ∧ r < 100)) (h : ∀ Z' : Zt, (MM Z' b (swM M l.toNat r.toNat) ∧ Oth Z Z' (fun c => c = b + 13)) → Q none x Z') : V mX12_swaps k n 0 [some (r_ b), some (i_ l), some (i_ r), none, none] [] x Z Q := by
  obtain ⟨l', rfl⟩ : ∃ l' : Nat, l = (l' : Int) := ⟨l.toNat, by omega⟩
  obtain ⟨r', rfl⟩ : ∃ r' : Nat, r = (r' : Int) := ⟨r.toNat, by omega⟩
  rw [Int.toNat_natCast, Int.toNat_natCast] at h
  exact sp_X12_swaps o hM (by omega) h
theorem w_X12_takesRow {k n : Nat} {x : Wx} {Z : Zt} {Q : Option Value → Wx → Zt → Prop} {b : Nat} {a r v : Int} (o : Is12 x b) {M : Nat → Nat → Int} {p : Int} (hp : IsP p ∧ Z b 11 = p) (hM : MM Z b M) (hl : ((0 ≤ a ∧ a < 100) ∧ (0 ≤ r ∧ r < 100)) ∧ a ≠ r) (hv : 0 ≤ v ∧ v < p) (hr : ∀ j : Nat, j < 96 → (0 ≤ M a.toNat j ∧ M a.toNat j < p) ∧ (0 ≤ M r.toNat j ∧ M r.toNat j < p)) (h : ∀ Z' : Zt, (MM Z' b (fun q j => if q = a.toNat then (M a.toNat j - v * M r.toNat j) % p else M q j) ∧ Oth Z Z' (fun c => c = b + 13)) → Q none x Z') : V mX12_takesRow k n 0 [some (r_ b), some (i_ a), some (i_ r), some (i_ v), none] [] x Z Q := by
  obtain ⟨a', rfl⟩ : ∃ a' : Nat, a = (a' : Int) := ⟨a.toNat, by omega⟩
  obtain ⟨r', rfl⟩ : ∃ r' : Nat, r = (r' : Int) := ⟨r.toNat, by omega⟩
  rw [Int.toNat_natCast, Int.toNat_natCast] at h hr
  exact sp_X12_takesRow o hp hM (by omega) hv hr h
theorem dX12_eliminates_0 : decode cX12_eliminates 0 = .ok (.iconst 0, 1) := by decide +kernel
theorem dX12_eliminates_1 : decode cX12_eliminates 1 = .ok (.istore_n 1, 1) := by decide +kernel
theorem dX12_eliminates_2 : decode cX12_eliminates 2 = .ok (.aload_n 0, 1) := by decide +kernel
theorem dX12_eliminates_3 : decode cX12_eliminates 3 = .ok (.iconst 0, 1) := by decide +kernel
theorem dX12_eliminates_4 : decode cX12_eliminates 4 = .ok (.putfield 324, 3) := by decide +kernel
theorem dX12_eliminates_7 : decode cX12_eliminates 7 = .ok (.iconst 0, 1) := by decide +kernel
theorem dX12_eliminates_8 : decode cX12_eliminates 8 = .ok (.istore_n 2, 1) := by decide +kernel
theorem dX12_eliminates_9 : decode cX12_eliminates 9 = .ok (.iload_n 2, 1) := by decide +kernel
theorem dX12_eliminates_10 : decode cX12_eliminates 10 = .ok (.aload_n 0, 1) := by decide +kernel
theorem dX12_eliminates_11 : decode cX12_eliminates 11 = .ok (.getfield 306, 3) := by decide +kernel
theorem dX12_eliminates_14 : decode cX12_eliminates 14 = .ok (.if_icmp .gt 226, 3) := by decide +kernel
theorem dX12_eliminates_17 : decode cX12_eliminates 17 = .ok (.aload_n 0, 1) := by decide +kernel
theorem dX12_eliminates_18 : decode cX12_eliminates 18 = .ok (.getfield 51, 3) := by decide +kernel
theorem dX12_eliminates_21 : decode cX12_eliminates 21 = .ok (.iload_n 2, 1) := by decide +kernel
theorem dX12_eliminates_22 : decode cX12_eliminates 22 = .ok (.iconst (-1), 1) := by decide +kernel
theorem dX12_eliminates_23 : decode cX12_eliminates 23 = .ok (.iastore, 1) := by decide +kernel
theorem dX12_eliminates_24 : decode cX12_eliminates 24 = .ok (.aload_n 0, 1) := by decide +kernel
theorem dX12_eliminates_25 : decode cX12_eliminates 25 = .ok (.iload_n 2, 1) := by decide +kernel
theorem dX12_eliminates_26 : decode cX12_eliminates 26 = .ok (.invokevirtual 327, 3) := by decide +kernel
theorem dX12_eliminates_29 : decode cX12_eliminates 29 = .ok (.ifCond .ne 6, 3) := by decide +kernel
theorem dX12_eliminates_32 : decode cX12_eliminates 32 = .ok (.goto 202, 3) := by decide +kernel
theorem dX12_eliminates_35 : decode cX12_eliminates 35 = .ok (.iload_n 1, 1) := by decide +kernel
theorem dX12_eliminates_36 : decode cX12_eliminates 36 = .ok (.istore_n 3, 1) := by decide +kernel
theorem dX12_eliminates_37 : decode cX12_eliminates 37 = .ok (.iload_n 3, 1) := by decide +kernel
theorem dX12_eliminates_38 : decode cX12_eliminates 38 = .ok (.aload_n 0, 1) := by decide +kernel
theorem dX12_eliminates_39 : decode cX12_eliminates 39 = .ok (.getfield 309, 3) := by decide +kernel
theorem dX12_eliminates_42 : decode cX12_eliminates 42 = .ok (.if_icmp .ge 23, 3) := by decide +kernel
theorem dX12_eliminates_45 : decode cX12_eliminates 45 = .ok (.aload_n 0, 1) := by decide +kernel
theorem dX12_eliminates_46 : decode cX12_eliminates 46 = .ok (.getfield 48, 3) := by decide +kernel
theorem dX12_eliminates_49 : decode cX12_eliminates 49 = .ok (.bipush 96, 2) := by decide +kernel
theorem dX12_eliminates_51 : decode cX12_eliminates 51 = .ok (.iload_n 3, 1) := by decide +kernel
theorem dX12_eliminates_52 : decode cX12_eliminates 52 = .ok (.imul, 1) := by decide +kernel
theorem dX12_eliminates_53 : decode cX12_eliminates 53 = .ok (.iload_n 2, 1) := by decide +kernel
theorem dX12_eliminates_54 : decode cX12_eliminates 54 = .ok (.iadd, 1) := by decide +kernel
theorem dX12_eliminates_55 : decode cX12_eliminates 55 = .ok (.iaload, 1) := by decide +kernel
theorem dX12_eliminates_56 : decode cX12_eliminates 56 = .ok (.ifCond .ne 9, 3) := by decide +kernel
theorem dX12_eliminates_59 : decode cX12_eliminates 59 = .ok (.iinc 3 1, 3) := by decide +kernel
theorem dX12_eliminates_62 : decode cX12_eliminates 62 = .ok (.goto (-25), 3) := by decide +kernel
theorem dX12_eliminates_65 : decode cX12_eliminates 65 = .ok (.iload_n 3, 1) := by decide +kernel
theorem dX12_eliminates_66 : decode cX12_eliminates 66 = .ok (.aload_n 0, 1) := by decide +kernel
theorem dX12_eliminates_67 : decode cX12_eliminates 67 = .ok (.getfield 309, 3) := by decide +kernel
theorem dX12_eliminates_70 : decode cX12_eliminates 70 = .ok (.if_icmp .ne 26, 3) := by decide +kernel
theorem dX12_eliminates_73 : decode cX12_eliminates 73 = .ok (.aload_n 0, 1) := by decide +kernel
theorem dX12_eliminates_74 : decode cX12_eliminates 74 = .ok (.getfield 54, 3) := by decide +kernel
theorem dX12_eliminates_77 : decode cX12_eliminates 77 = .ok (.aload_n 0, 1) := by decide +kernel
theorem dX12_eliminates_78 : decode cX12_eliminates 78 = .ok (.getfield 324, 3) := by decide +kernel
theorem dX12_eliminates_81 : decode cX12_eliminates 81 = .ok (.iload_n 2, 1) := by decide +kernel
theorem dX12_eliminates_82 : decode cX12_eliminates 82 = .ok (.iastore, 1) := by decide +kernel
theorem dX12_eliminates_83 : decode cX12_eliminates 83 = .ok (.aload_n 0, 1) := by decide +kernel
theorem dX12_eliminates_84 : decode cX12_eliminates 84 = .ok (.dup, 1) := by decide +kernel
theorem dX12_eliminates_85 : decode cX12_eliminates 85 = .ok (.getfield 324, 3) := by decide +kernel
theorem dX12_eliminates_88 : decode cX12_eliminates 88 = .ok (.iconst 1, 1) := by decide +kernel
theorem dX12_eliminates_89 : decode cX12_eliminates 89 = .ok (.iadd, 1) := by decide +kernel
theorem dX12_eliminates_90 : decode cX12_eliminates 90 = .ok (.putfield 324, 3) := by decide +kernel
theorem dX12_eliminates_93 : decode cX12_eliminates 93 = .ok (.goto 141, 3) := by decide +kernel
theorem dX12_eliminates_96 : decode cX12_eliminates 96 = .ok (.aload_n 0, 1) := by decide +kernel
theorem dX12_eliminates_97 : decode cX12_eliminates 97 = .ok (.iload_n 3, 1) := by decide +kernel
theorem dX12_eliminates_98 : decode cX12_eliminates 98 = .ok (.iload_n 1, 1) := by decide +kernel
theorem dX12_eliminates_99 : decode cX12_eliminates 99 = .ok (.invokevirtual 330, 3) := by decide +kernel
theorem dX12_eliminates_102 : decode cX12_eliminates 102 = .ok (.aload_n 0, 1) := by decide +kernel
theorem dX12_eliminates_103 : decode cX12_eliminates 103 = .ok (.aload_n 0, 1) := by decide +kernel
theorem dX12_eliminates_104 : decode cX12_eliminates 104 = .ok (.getfield 48, 3) := by decide +kernel
theorem dX12_eliminates_107 : decode cX12_eliminates 107 = .ok (.bipush 96, 2) := by decide +kernel
theorem dX12_eliminates_109 : decode cX12_eliminates 109 = .ok (.iload_n 1, 1) := by decide +kernel
theorem dX12_eliminates_110 : decode cX12_eliminates 110 = .ok (.imul, 1) := by decide +kernel
theorem dX12_eliminates_111 : decode cX12_eliminates 111 = .ok (.iload_n 2, 1) := by decide +kernel
theorem dX12_eliminates_112 : decode cX12_eliminates 112 = .ok (.iadd, 1) := by decide +kernel
theorem dX12_eliminates_113 : decode cX12_eliminates 113 = .ok (.iaload, 1) := by decide +kernel
theorem dX12_eliminates_114 : decode cX12_eliminates 114 = .ok (.invokevirtual 202, 3) := by decide +kernel
theorem dX12_eliminates_117 : decode cX12_eliminates 117 = .ok (.istore 4, 2) := by decide +kernel
theorem dX12_eliminates_119 : decode cX12_eliminates 119 = .ok (.iconst 0, 1) := by decide +kernel
theorem dX12_eliminates_120 : decode cX12_eliminates 120 = .ok (.istore 5, 2) := by decide +kernel
theorem dX12_eliminates_122 : decode cX12_eliminates 122 = .ok (.iload 5, 2) := by decide +kernel
theorem dX12_eliminates_124 : decode cX12_eliminates 124 = .ok (.bipush 96, 2) := by decide +kernel
theorem dX12_eliminates_126 : decode cX12_eliminates 126 = .ok (.if_icmp .ge 40, 3) := by decide +kernel
theorem dX12_eliminates_129 : decode cX12_eliminates 129 = .ok (.aload_n 0, 1) := by decide +kernel
theorem dX12_eliminates_130 : decode cX12_eliminates 130 = .ok (.getfield 48, 3) := by decide +kernel
theorem dX12_eliminates_133 : decode cX12_eliminates 133 = .ok (.bipush 96, 2) := by decide +kernel
theorem dX12_eliminates_135 : decode cX12_eliminates 135 = .ok (.iload_n 1, 1) := by decide +kernel
theorem dX12_eliminates_136 : decode cX12_eliminates 136 = .ok (.imul, 1) := by decide +kernel
theorem dX12_eliminates_137 : decode cX12_eliminates 137 = .ok (.iload 5, 2) := by decide +kernel
theorem dX12_eliminates_139 : decode cX12_eliminates 139 = .ok (.iadd, 1) := by decide +kernel
theorem dX12_eliminates_140 : decode cX12_eliminates 140 = .ok (.aload_n 0, 1) := by decide +kernel
theorem dX12_eliminates_141 : decode cX12_eliminates 141 = .ok (.aload_n 0, 1) := by decide +kernel
theorem dX12_eliminates_142 : decode cX12_eliminates 142 = .ok (.getfield 48, 3) := by decide +kernel
theorem dX12_eliminates_145 : decode cX12_eliminates 145 = .ok (.bipush 96, 2) := by decide +kernel
theorem dX12_eliminates_147 : decode cX12_eliminates 147 = .ok (.iload_n 1, 1) := by decide +kernel
theorem dX12_eliminates_148 : decode cX12_eliminates 148 = .ok (.imul, 1) := by decide +kernel
theorem dX12_eliminates_149 : decode cX12_eliminates 149 = .ok (.iload 5, 2) := by decide +kernel
theorem dX12_eliminates_151 : decode cX12_eliminates 151 = .ok (.iadd, 1) := by decide +kernel
theorem dX12_eliminates_152 : decode cX12_eliminates 152 = .ok (.iaload, 1) := by decide +kernel
theorem dX12_eliminates_153 : decode cX12_eliminates 153 = .ok (.iload 4, 2) := by decide +kernel
theorem dX12_eliminates_155 : decode cX12_eliminates 155 = .ok (.imul, 1) := by decide +kernel
theorem dX12_eliminates_156 : decode cX12_eliminates 156 = .ok (.invokevirtual 182, 3) := by decide +kernel
theorem dX12_eliminates_159 : decode cX12_eliminates 159 = .ok (.iastore, 1) := by decide +kernel
theorem dX12_eliminates_160 : decode cX12_eliminates 160 = .ok (.iinc 5 1, 3) := by decide +kernel
theorem dX12_eliminates_163 : decode cX12_eliminates 163 = .ok (.goto (-41), 3) := by decide +kernel
theorem dX12_eliminates_166 : decode cX12_eliminates 166 = .ok (.iconst 0, 1) := by decide +kernel
theorem dX12_eliminates_167 : decode cX12_eliminates 167 = .ok (.istore 5, 2) := by decide +kernel
theorem dX12_eliminates_169 : decode cX12_eliminates 169 = .ok (.iload 5, 2) := by decide +kernel
theorem dX12_eliminates_171 : decode cX12_eliminates 171 = .ok (.aload_n 0, 1) := by decide +kernel
theorem dX12_eliminates_172 : decode cX12_eliminates 172 = .ok (.getfield 309, 3) := by decide +kernel
theorem dX12_eliminates_175 : decode cX12_eliminates 175 = .ok (.if_icmp .ge 49, 3) := by decide +kernel
theorem dX12_eliminates_178 : decode cX12_eliminates 178 = .ok (.iload 5, 2) := by decide +kernel
theorem dX12_eliminates_180 : decode cX12_eliminates 180 = .ok (.iload_n 1, 1) := by decide +kernel
theorem dX12_eliminates_181 : decode cX12_eliminates 181 = .ok (.if_icmp .eq 37, 3) := by decide +kernel
theorem dX12_eliminates_184 : decode cX12_eliminates 184 = .ok (.aload_n 0, 1) := by decide +kernel
theorem dX12_eliminates_185 : decode cX12_eliminates 185 = .ok (.getfield 48, 3) := by decide +kernel
theorem dX12_eliminates_188 : decode cX12_eliminates 188 = .ok (.bipush 96, 2) := by decide +kernel
theorem dX12_eliminates_190 : decode cX12_eliminates 190 = .ok (.iload 5, 2) := by decide +kernel
theorem dX12_eliminates_192 : decode cX12_eliminates 192 = .ok (.imul, 1) := by decide +kernel
theorem dX12_eliminates_193 : decode cX12_eliminates 193 = .ok (.iload_n 2, 1) := by decide +kernel
theorem dX12_eliminates_194 : decode cX12_eliminates 194 = .ok (.iadd, 1) := by decide +kernel
theorem dX12_eliminates_195 : decode cX12_eliminates 195 = .ok (.iaload, 1) := by decide +kernel
theorem dX12_eliminates_196 : decode cX12_eliminates 196 = .ok (.ifCond .eq 22, 3) := by decide +kernel
theorem dX12_eliminates_199 : decode cX12_eliminates 199 = .ok (.aload_n 0, 1) := by decide +kernel
theorem dX12_eliminates_200 : decode cX12_eliminates 200 = .ok (.iload 5, 2) := by decide +kernel
theorem dX12_eliminates_202 : decode cX12_eliminates 202 = .ok (.iload_n 1, 1) := by decide +kernel
theorem dX12_eliminates_203 : decode cX12_eliminates 203 = .ok (.aload_n 0, 1) := by decide +kernel
theorem dX12_eliminates_204 : decode cX12_eliminates 204 = .ok (.getfield 48, 3) := by decide +kernel
theorem dX12_eliminates_207 : decode cX12_eliminates 207 = .ok (.bipush 96, 2) := by decide +kernel
theorem dX12_eliminates_209 : decode cX12_eliminates 209 = .ok (.iload 5, 2) := by decide +kernel
theorem dX12_eliminates_211 : decode cX12_eliminates 211 = .ok (.imul, 1) := by decide +kernel
theorem dX12_eliminates_212 : decode cX12_eliminates 212 = .ok (.iload_n 2, 1) := by decide +kernel
theorem dX12_eliminates_213 : decode cX12_eliminates 213 = .ok (.iadd, 1) := by decide +kernel
theorem dX12_eliminates_214 : decode cX12_eliminates 214 = .ok (.iaload, 1) := by decide +kernel
theorem dX12_eliminates_215 : decode cX12_eliminates 215 = .ok (.invokevirtual 333, 3) := by decide +kernel
theorem dX12_eliminates_218 : decode cX12_eliminates 218 = .ok (.iinc 5 1, 3) := by decide +kernel
theorem dX12_eliminates_221 : decode cX12_eliminates 221 = .ok (.goto (-52), 3) := by decide +kernel
theorem dX12_eliminates_224 : decode cX12_eliminates 224 = .ok (.aload_n 0, 1) := by decide +kernel
theorem dX12_eliminates_225 : decode cX12_eliminates 225 = .ok (.getfield 51, 3) := by decide +kernel
theorem dX12_eliminates_228 : decode cX12_eliminates 228 = .ok (.iload_n 2, 1) := by decide +kernel
theorem dX12_eliminates_229 : decode cX12_eliminates 229 = .ok (.iload_n 1, 1) := by decide +kernel
theorem dX12_eliminates_230 : decode cX12_eliminates 230 = .ok (.iastore, 1) := by decide +kernel
theorem dX12_eliminates_231 : decode cX12_eliminates 231 = .ok (.iinc 1 1, 3) := by decide +kernel
theorem dX12_eliminates_234 : decode cX12_eliminates 234 = .ok (.iinc 2 1, 3) := by decide +kernel
theorem dX12_eliminates_237 : decode cX12_eliminates 237 = .ok (.goto (-228), 3) := by decide +kernel
theorem dX12_eliminates_240 : decode cX12_eliminates 240 = .ok (.return_, 1) := by decide +kernel
set_option maxRecDepth 20000 in
theorem b_X12_eliminates_0 {k n : Nat} {x : Wx} {Z : Zt} {Q : Option Value → Wx → Zt → Prop} {a0 : Nat} (o_a0 : Is12 x a0)
    (h : ∀ Z1 : Zt, Z1 = up Z a0 28 0 → (V mX12_eliminates k n 9 [some (r_ a0), some (i_ 0), some (i_ 0), none, none, none] [] x Z1 Q)) :
    V mX12_eliminates k n 0 [some (r_ a0), none, none, none, none, none] [] x Z Q :=
  V_iconst dX12_eliminates_0 (V_istore_n (lv' := [some (r_ a0), some (i_ 0), none, none, none, none]) dX12_eliminates_1 (Nat.le_of_ble_eq_true rfl) rfl (V_aload_n dX12_eliminates_2 rfl (V_iconst dX12_eliminates_3 (P_12_28 o_a0.1 lf_12_324 dX12_eliminates_4 (V_nmZ (fun Z1 eZ1 => V_iconst dX12_eliminates_7 (V_istore_n (lv' := [some (r_ a0), some (i_ 0), some (i_ 0), none, none, none]) dX12_eliminates_8 (Nat.le_of_ble_eq_true rfl) rfl (V_msk [true, true, true, false, false, false] rfl (h Z1 eZ1)))))))))
set_option maxRecDepth 20000 in
theorem b_X12_eliminates_9 {k n : Nat} {x : Wx} {Z : Zt} {Q : Option Value → Wx → Zt → Prop} {a0 : Nat} {v1 : Int} {v2 : Int} (o_a0 : Is12 x a0)
    (h : Rg v2 ∧ Rg (Z a0 24) ∧ (((Z a0 24 < v2) → (Q none x Z)) ∧ ((v2 ≤ Z a0 24) → (0 ≤ v2 ∧ v2 < 96 ∧ (∀ Z1 : Zt, Z1 = up Z (a0 + 14) v2.toNat (-1) → (∃ g1 : Nat, ((Z1 a0 12 = (g1 : Int) ∧ g1 ≤ 2) ∧ (0 ≤ v2 ∧ v2 ≤ 100) ∧ (∀ (r1 : Int), (((r1 = 0 ∧ (v2.toNat % 2 = 1 ∧ v2.toNat < 2 * g1 + 1)) ∨ (r1 = 1 ∧ ¬ (v2.toNat % 2 = 1 ∧ v2.toNat < 2 * g1 + 1)))) → (Rg r1 ∧ (((r1 ≠ 0) → (V mX12_eliminates k n 37 [some (r_ a0), some (i_ v1), some (i_ v2), some (i_ v1), none, none] [] x Z1 Q)) ∧ ((r1 = 0) → (V mX12_eliminates k n 234 [some (r_ a0), some (i_ v1), some (i_ v2), none, none, none] [] x Z1 Q)))))))))))) :
    V mX12_eliminates k n 9 [some (r_ a0), some (i_ v1), some (i_ v2), none, none, none] [] x Z Q :=
  V_iload_n dX12_eliminates_9 rfl (V_aload_n dX12_eliminates_10 rfl (G_12_24 o_a0.1 lf_12_306 dX12_eliminates_11 (V_icmp_gt (tgt := 240) dX12_eliminates_14 rfl h.1 h.2.1 (fun c1 => V_ret dX12_eliminates_240 rfl (h.2.2.1 c1)) (fun c1 => V_aload_n dX12_eliminates_17 rfl (G_12_27 o_a0.1 o_a0.qR27 lf_12_51 dX12_eliminates_18 (V_iload_n dX12_eliminates_21 rfl (V_iconst dX12_eliminates_22 (V_iast (t := 100) o_a0.qK27 (by decide) (by decide) rfl (h.2.2.2 c1).1 (h.2.2.2 c1).2.1 (Nat.le_of_ble_eq_true rfl) dX12_eliminates_23 (V_nmZ (fun Z1 eZ1 => V_aload_n dX12_eliminates_24 rfl (V_iload_n dX12_eliminates_25 rfl (Exists.elim ((h.2.2.2 c1).2.2 Z1 eZ1) (fun g1 w1 => V_callV (k' := 0) (n' := 0) (t := 12) (q := (RX12, TX12, 46)) [i_ v2] [] okX12_isColumn o_a0.1 rfl rfl lm_12_327 liX12_isColumn lqX12_isColumn (Nat.le_of_ble_eq_true rfl) (Nat.le_of_ble_eq_true rfl) (Nat.le_of_ble_eq_true rfl) (cat_of rfl) (Nat.le_of_ble_eq_true rfl) (Nat.zero_le _) (Nat.zero_le _) rfl dX12_eliminates_26 (sp_X12_isColumn o_a0 w1.1 w1.2.1 (fun r1 p1 => V_if_ne (tgt := 35) dX12_eliminates_29 rfl (w1.2.2 r1 p1).1 (fun c2 => V_iload_n dX12_eliminates_35 rfl (V_istore_n (lv' := [some (r_ a0), some (i_ v1), some (i_ v2), some (i_ v1), none, none]) dX12_eliminates_36 (Nat.le_of_ble_eq_true rfl) rfl (V_msk [true, true, true, true, false, false] rfl ((w1.2.2 r1 p1).2.1 c2)))) (fun c2 => V_goto (tgt := 234) dX12_eliminates_32 rfl (V_msk [true, true, true, false, false, false] rfl ((w1.2.2 r1 p1).2.2 c2))))))))))))))))))
set_option maxRecDepth 20000 in
theorem b_X12_eliminates_37 {k n : Nat} {x : Wx} {Z : Zt} {Q : Option Value → Wx → Zt → Prop} {a0 : Nat} {v1 : Int} {v2 : Int} {v3 : Int} (o_a0 : Is12 x a0)
    (h : Rg v3 ∧ Rg (Z a0 26) ∧ (((Z a0 26 ≤ v3) → (V mX12_eliminates k n 65 [some (r_ a0), some (i_ v1), some (i_ v2), some (i_ v3), none, none] [] x Z Q)) ∧ ((v3 < Z a0 26) → (0 ≤ (96 * v3) + v2 ∧ (96 * v3) + v2 < 9600 ∧ (Rg (Z (a0 + 13) ((96 * v3) + v2).toNat) ∧ (((Z (a0 + 13) ((96 * v3) + v2).toNat ≠ 0) → (V mX12_eliminates k n 65 [some (r_ a0), some (i_ v1), some (i_ v2), some (i_ v3), none, none] [] x Z Q)) ∧ ((Z (a0 + 13) ((96 * v3) + v2).toNat = 0) → (V mX12_eliminates k n 37 [some (r_ a0), some (i_ v1), some (i_ v2), some (i_ (v3 + 1)), none, none] [] x Z Q)))))))) :
    V mX12_eliminates k n 37 [some (r_ a0), some (i_ v1), some (i_ v2), some (i_ v3), none, none] [] x Z Q :=
  V_iload_n dX12_eliminates_37 rfl (V_aload_n dX12_eliminates_38 rfl (G_12_26 o_a0.1 lf_12_309 dX12_eliminates_39 (V_icmp_ge (tgt := 65) dX12_eliminates_42 rfl h.1 h.2.1 (fun c1 => V_msk [true, true, true, true, false, false] rfl (h.2.2.1 c1)) (fun c1 => V_aload_n dX12_eliminates_45 rfl (G_12_25 o_a0.1 o_a0.qR25 lf_12_48 dX12_eliminates_46 (V_bipush dX12_eliminates_49 rfl (V_iload_n dX12_eliminates_51 rfl (V_imul dX12_eliminates_52 (V_iload_n dX12_eliminates_53 rfl (V_iadd dX12_eliminates_54 (V_iald (t := 100) o_a0.qK25 (by decide) rfl (h.2.2.2 c1).1 (h.2.2.2 c1).2.1 (Nat.le_of_ble_eq_true rfl) dX12_eliminates_55 (V_if_ne (tgt := 65) dX12_eliminates_56 rfl (h.2.2.2 c1).2.2.1 (fun c2 => V_msk [true, true, true, true, false, false] rfl ((h.2.2.2 c1).2.2.2.1 c2)) (fun c2 => V_iinc (lv' := [some (r_ a0), some (i_ v1), some (i_ v2), some (i_ (v3 + 1)), none, none]) dX12_eliminates_59 rfl (Nat.le_of_ble_eq_true rfl) rfl (V_goto (tgt := 37) dX12_eliminates_62 rfl (V_msk [true, true, true, true, false, false] rfl ((h.2.2.2 c1).2.2.2.2 c2))))))))))))))))
set_option maxRecDepth 20000 in
theorem b_X12_eliminates_65 {k n : Nat} {x : Wx} {Z : Zt} {Q : Option Value → Wx → Zt → Prop} {a0 : Nat} {v1 : Int} {v2 : Int} {v3 : Int} (o_a0 : Is12 x a0)
    (h : Rg v3 ∧ Rg (Z a0 26) ∧ (((v3 ≠ Z a0 26) → (∃ g1 : Nat → Nat → Int, (MM Z a0 g1 ∧ ((0 ≤ v3 ∧ v3 < 100) ∧ (0 ≤ v1 ∧ v1 < 100)) ∧ (∀ (Z'1 : Zt), (MM Z'1 a0 (swM g1 v3.toNat v1.toNat) ∧ Oth Z Z'1 (fun c => c = a0 + 13)) → (0 ≤ (96 * v1) + v2 ∧ (96 * v1) + v2 < 9600 ∧ (∃ g2 : Int, ((IsP g2 ∧ Z'1 a0 11 = g2) ∧ (0 < (Z'1 (a0 + 13) ((96 * v1) + v2).toNat) ∧ (Z'1 (a0 + 13) ((96 * v1) + v2).toNat) < g2) ∧ (V mX12_eliminates k n 122 [some (r_ a0), some (i_ v1), some (i_ v2), none, some (i_ (inv g2 (Z'1 (a0 + 13) ((96 * v1) + v2).toNat))), some (i_ 0)] [] x Z'1 Q)))))))) ∧ ((v3 = Z a0 26) → (0 ≤ Z a0 28 ∧ Z a0 28 < 96 ∧ (∀ Z1 : Zt, Z1 = up Z (a0 + 15) (Z a0 28).toNat v2 → (∀ Z2 : Zt, Z2 = up Z1 a0 28 ((Z1 a0 28) + 1) → (V mX12_eliminates k n 234 [some (r_ a0), some (i_ v1), some (i_ v2), none, none, none] [] x Z2 Q))))))) :
    V mX12_eliminates k n 65 [some (r_ a0), some (i_ v1), some (i_ v2), some (i_ v3), none, none] [] x Z Q :=
  V_iload_n dX12_eliminates_65 rfl (V_aload_n dX12_eliminates_66 rfl (G_12_26 o_a0.1 lf_12_309 dX12_eliminates_67 (V_icmp_ne (tgt := 96) dX12_eliminates_70 rfl h.1 h.2.1 (fun c1 => V_aload_n dX12_eliminates_96 rfl (V_iload_n dX12_eliminates_97 rfl (V_iload_n dX12_eliminates_98 rfl (Exists.elim (h.2.2.1 c1) (fun g1 w1 => V_callV (k' := 0) (n' := 0) (t := 12) (q := (RX12, TX12, 46)) [i_ v3, i_ v1] [] okX12_swaps o_a0.1 rfl rfl lm_12_330 liX12_swaps lqX12_swaps (Nat.le_of_ble_eq_true rfl) (Nat.le_of_ble_eq_true rfl) (Nat.le_of_ble_eq_true rfl) (cat_of rfl) (Nat.le_of_ble_eq_true rfl) (Nat.zero_le _) (Nat.zero_le _) rfl dX12_eliminates_99 (w_X12_swaps o_a0 w1.1 w1.2.1 (fun Z'1 p1 => V_aload_n dX12_eliminates_102 rfl (V_aload_n dX12_eliminates_103 rfl (G_12_25 o_a0.1 o_a0.qR25 lf_12_48 dX12_eliminates_104 (V_bipush dX12_eliminates_107 rfl (V_iload_n dX12_eliminates_109 rfl (V_imul dX12_eliminates_110 (V_iload_n dX12_eliminates_111 rfl (V_iadd dX12_eliminates_112 (V_iald (t := 100) o_a0.qK25 (by decide) rfl (w1.2.2 Z'1 p1).1 (w1.2.2 Z'1 p1).2.1 (Nat.le_of_ble_eq_true rfl) dX12_eliminates_113 (Exists.elim (w1.2.2 Z'1 p1).2.2 (fun g2 w2 => V_callV (k' := 0) (n' := 0) (t := 12) (q := (RX12, TX12, 46)) [i_ (Z'1 (a0 + 13) ((96 * v1) + v2).toNat)] [] okX12_inverse o_a0.1 rfl rfl lm_12_202 liX12_inverse lqX12_inverse (Nat.le_of_ble_eq_true rfl) (Nat.le_of_ble_eq_true rfl) (Nat.le_of_ble_eq_true rfl) (cat_of rfl) (Nat.le_of_ble_eq_true rfl) (Nat.zero_le _) (Nat.zero_le _) rfl dX12_eliminates_114 (sp_X12_inverse o_a0 w2.1 w2.2.1 (V_istore (lv' := [some (r_ a0), some (i_ v1), some (i_ v2), some (i_ v3), some (i_ (inv g2 (Z'1 (a0 + 13) ((96 * v1) + v2).toNat))), none]) dX12_eliminates_117 (Nat.le_of_ble_eq_true rfl) rfl (V_iconst dX12_eliminates_119 (V_istore (lv' := [some (r_ a0), some (i_ v1), some (i_ v2), some (i_ v3), some (i_ (inv g2 (Z'1 (a0 + 13) ((96 * v1) + v2).toNat))), some (i_ 0)]) dX12_eliminates_120 (Nat.le_of_ble_eq_true rfl) rfl (V_msk [true, true, true, false, true, true] rfl w2.2.2)))))))))))))))))))))) (fun c1 => V_aload_n dX12_eliminates_73 rfl (G_12_29 o_a0.1 o_a0.qR29 lf_12_54 dX12_eliminates_74 (V_aload_n dX12_eliminates_77 rfl (G_12_28 o_a0.1 lf_12_324 dX12_eliminates_78 (V_iload_n dX12_eliminates_81 rfl (V_iast (t := 100) o_a0.qK29 (by decide) (by decide) rfl (h.2.2.2 c1).1 (h.2.2.2 c1).2.1 (Nat.le_of_ble_eq_true rfl) dX12_eliminates_82 (V_nmZ (fun Z1 eZ1 => V_aload_n dX12_eliminates_83 rfl (V_dup dX12_eliminates_84 rfl (G_12_28 o_a0.1 lf_12_324 dX12_eliminates_85 (V_iconst dX12_eliminates_88 (V_iadd dX12_eliminates_89 (P_12_28 o_a0.1 lf_12_324 dX12_eliminates_90 (V_nmZ (fun Z2 eZ2 => V_goto (tgt := 234) dX12_eliminates_93 rfl (V_msk [true, true, true, false, false, false] rfl (((h.2.2.2 c1).2.2 Z1 eZ1) Z2 eZ2))))))))))))))))))))
set_option maxRecDepth 20000 in
theorem b_X12_eliminates_122 {k n : Nat} {x : Wx} {Z : Zt} {Q : Option Value → Wx → Zt → Prop} {a0 : Nat} {v1 : Int} {v2 : Int} {v4 : Int} {v5 : Int} (o_a0 : Is12 x a0)
    (h : Rg v5 ∧ (((96 ≤ v5) → (V mX12_eliminates k n 169 [some (r_ a0), some (i_ v1), some (i_ v2), none, none, some (i_ 0)] [] x Z Q)) ∧ ((v5 < 96) → (0 ≤ (96 * v1) + v5 ∧ (96 * v1) + v5 < 9600 ∧ (Rg ((Z (a0 + 13) ((96 * v1) + v5).toNat) * v4) ∧ 0 < Z a0 11 ∧ Z a0 11 ≤ 13 ∧ (∀ Z1 : Zt, Z1 = up Z (a0 + 13) ((96 * v1) + v5).toNat (((Z (a0 + 13) ((96 * v1) + v5).toNat) * v4) % Z a0 11) → (V mX12_eliminates k n 122 [some (r_ a0), some (i_ v1), some (i_ v2), none, some (i_ v4), some (i_ (v5 + 1))] [] x Z1 Q))))))) :
    V mX12_eliminates k n 122 [some (r_ a0), some (i_ v1), some (i_ v2), none, some (i_ v4), some (i_ v5)] [] x Z Q :=
  V_iload dX12_eliminates_122 rfl (V_bipush dX12_eliminates_124 rfl (V_icmp_ge (tgt := 166) dX12_eliminates_126 rfl h.1 (rg_c rfl) (fun c1 => V_iconst dX12_eliminates_166 (V_istore (lv' := [some (r_ a0), some (i_ v1), some (i_ v2), none, some (i_ v4), some (i_ 0)]) dX12_eliminates_167 (Nat.le_of_ble_eq_true rfl) rfl (V_msk [true, true, true, false, false, true] rfl (h.2.1 c1)))) (fun c1 => V_aload_n dX12_eliminates_129 rfl (G_12_25 o_a0.1 o_a0.qR25 lf_12_48 dX12_eliminates_130 (V_bipush dX12_eliminates_133 rfl (V_iload_n dX12_eliminates_135 rfl (V_imul dX12_eliminates_136 (V_iload dX12_eliminates_137 rfl (V_iadd dX12_eliminates_139 (V_aload_n dX12_eliminates_140 rfl (V_aload_n dX12_eliminates_141 rfl (G_12_25 o_a0.1 o_a0.qR25 lf_12_48 dX12_eliminates_142 (V_bipush dX12_eliminates_145 rfl (V_iload_n dX12_eliminates_147 rfl (V_imul dX12_eliminates_148 (V_iload dX12_eliminates_149 rfl (V_iadd dX12_eliminates_151 (V_iald (t := 100) o_a0.qK25 (by decide) rfl (h.2.2 c1).1 (h.2.2 c1).2.1 (Nat.le_of_ble_eq_true rfl) dX12_eliminates_152 (V_iload dX12_eliminates_153 rfl (V_imul dX12_eliminates_155 (V_callV (k' := 0) (n' := 0) (t := 12) (q := (RX12, TX12, 46)) [i_ ((Z (a0 + 13) ((96 * v1) + v5).toNat) * v4)] [i_ ((96 * v1) + v5), r_ (a0 + 13)] okX12_mod o_a0.1 rfl rfl lm_12_182 liX12_mod lqX12_mod (Nat.le_of_ble_eq_true rfl) (Nat.le_of_ble_eq_true rfl) (Nat.le_of_ble_eq_true rfl) (cat_of rfl) (Nat.le_of_ble_eq_true rfl) (Nat.zero_le _) (Nat.zero_le _) rfl dX12_eliminates_156 (sp_X12_mod o_a0 (h.2.2 c1).2.2.1 (h.2.2 c1).2.2.2.1 (h.2.2 c1).2.2.2.2.1 (V_iast (t := 100) o_a0.qK25 (by decide) (by decide) rfl (h.2.2 c1).1 (h.2.2 c1).2.1 (Nat.le_of_ble_eq_true rfl) dX12_eliminates_159 (V_nmZ (fun Z1 eZ1 => V_iinc (lv' := [some (r_ a0), some (i_ v1), some (i_ v2), none, some (i_ v4), some (i_ (v5 + 1))]) dX12_eliminates_160 rfl (Nat.le_of_ble_eq_true rfl) rfl (V_goto (tgt := 122) dX12_eliminates_163 rfl (V_msk [true, true, true, false, true, true] rfl ((h.2.2 c1).2.2.2.2.2 Z1 eZ1))))))))))))))))))))))))))))
set_option maxRecDepth 20000 in
theorem b_X12_eliminates_169 {k n : Nat} {x : Wx} {Z : Zt} {Q : Option Value → Wx → Zt → Prop} {a0 : Nat} {v1 : Int} {v2 : Int} {v5 : Int} (o_a0 : Is12 x a0)
    (h : Rg v5 ∧ Rg (Z a0 26) ∧ (((Z a0 26 ≤ v5) → (0 ≤ v2 ∧ v2 < 96 ∧ (∀ Z1 : Zt, Z1 = up Z (a0 + 14) v2.toNat v1 → (V mX12_eliminates k n 234 [some (r_ a0), some (i_ (v1 + 1)), some (i_ v2), none, none, none] [] x Z1 Q)))) ∧ ((v5 < Z a0 26) → (Rg v1 ∧ (((v5 = v1) → (V mX12_eliminates k n 218 [some (r_ a0), some (i_ v1), some (i_ v2), none, none, some (i_ v5)] [] x Z Q)) ∧ ((v5 ≠ v1) → (0 ≤ (96 * v5) + v2 ∧ (96 * v5) + v2 < 9600 ∧ (Rg (Z (a0 + 13) ((96 * v5) + v2).toNat) ∧ (((Z (a0 + 13) ((96 * v5) + v2).toNat = 0) → (V mX12_eliminates k n 218 [some (r_ a0), some (i_ v1), some (i_ v2), none, none, some (i_ v5)] [] x Z Q)) ∧ ((Z (a0 + 13) ((96 * v5) + v2).toNat ≠ 0) → (∃ g1 : Nat → Nat → Int, (∃ g2 : Int, ((IsP g2 ∧ Z a0 11 = g2) ∧ MM Z a0 g1 ∧ (((0 ≤ v5 ∧ v5 < 100) ∧ (0 ≤ v1 ∧ v1 < 100)) ∧ v5 ≠ v1) ∧ (0 ≤ (Z (a0 + 13) ((96 * v5) + v2).toNat) ∧ (Z (a0 + 13) ((96 * v5) + v2).toNat) < g2) ∧ (∀ j : Nat, j < 96 → (0 ≤ g1 v5.toNat j ∧ g1 v5.toNat j < g2) ∧ (0 ≤ g1 v1.toNat j ∧ g1 v1.toNat j < g2)) ∧ (∀ (Z'1 : Zt), (MM Z'1 a0 (fun q j => if q = v5.toNat then (g1 v5.toNat j - (Z (a0 + 13) ((96 * v5) + v2).toNat) * g1 v1.toNat j) % g2 else g1 q j) ∧ Oth Z Z'1 (fun c => c = a0 + 13)) → (V mX12_eliminates k n 218 [some (r_ a0), some (i_ v1), some (i_ v2), none, none, some (i_ v5)] [] x Z'1 Q))))))))))))))) :
    V mX12_eliminates k n 169 [some (r_ a0), some (i_ v1), some (i_ v2), none, none, some (i_ v5)] [] x Z Q :=
  V_iload dX12_eliminates_169 rfl (V_aload_n dX12_eliminates_171 rfl (G_12_26 o_a0.1 lf_12_309 dX12_eliminates_172 (V_icmp_ge (tgt := 224) dX12_eliminates_175 rfl h.1 h.2.1 (fun c1 => V_aload_n dX12_eliminates_224 rfl (G_12_27 o_a0.1 o_a0.qR27 lf_12_51 dX12_eliminates_225 (V_iload_n dX12_eliminates_228 rfl (V_iload_n dX12_eliminates_229 rfl (V_iast (t := 100) o_a0.qK27 (by decide) (by decide) rfl (h.2.2.1 c1).1 (h.2.2.1 c1).2.1 (Nat.le_of_ble_eq_true rfl) dX12_eliminates_230 (V_nmZ (fun Z1 eZ1 => V_iinc (lv' := [some (r_ a0), some (i_ (v1 + 1)), some (i_ v2), none, none, some (i_ v5)]) dX12_eliminates_231 rfl (Nat.le_of_ble_eq_true rfl) rfl (V_msk [true, true, true, false, false, false] rfl ((h.2.2.1 c1).2.2 Z1 eZ1))))))))) (fun c1 => V_iload dX12_eliminates_178 rfl (V_iload_n dX12_eliminates_180 rfl (V_icmp_eq (tgt := 218) dX12_eliminates_181 rfl h.1 (h.2.2.2 c1).1 (fun c2 => V_msk [true, true, true, false, false, true] rfl ((h.2.2.2 c1).2.1 c2)) (fun c2 => V_aload_n dX12_eliminates_184 rfl (G_12_25 o_a0.1 o_a0.qR25 lf_12_48 dX12_eliminates_185 (V_bipush dX12_eliminates_188 rfl (V_iload dX12_eliminates_190 rfl (V_imul dX12_eliminates_192 (V_iload_n dX12_eliminates_193 rfl (V_iadd dX12_eliminates_194 (V_iald (t := 100) o_a0.qK25 (by decide) rfl ((h.2.2.2 c1).2.2 c2).1 ((h.2.2.2 c1).2.2 c2).2.1 (Nat.le_of_ble_eq_true rfl) dX12_eliminates_195 (V_if_eq (tgt := 218) dX12_eliminates_196 rfl ((h.2.2.2 c1).2.2 c2).2.2.1 (fun c3 => V_msk [true, true, true, false, false, true] rfl (((h.2.2.2 c1).2.2 c2).2.2.2.1 c3)) (fun c3 => V_aload_n dX12_eliminates_199 rfl (V_iload dX12_eliminates_200 rfl (V_iload_n dX12_eliminates_202 rfl (V_aload_n dX12_eliminates_203 rfl (G_12_25 o_a0.1 o_a0.qR25 lf_12_48 dX12_eliminates_204 (V_bipush dX12_eliminates_207 rfl (V_iload dX12_eliminates_209 rfl (V_imul dX12_eliminates_211 (V_iload_n dX12_eliminates_212 rfl (V_iadd dX12_eliminates_213 (V_iald (t := 100) o_a0.qK25 (by decide) rfl ((h.2.2.2 c1).2.2 c2).1 ((h.2.2.2 c1).2.2 c2).2.1 (Nat.le_of_ble_eq_true rfl) dX12_eliminates_214 (Exists.elim (((h.2.2.2 c1).2.2 c2).2.2.2.2 c3) (fun g1 w1 => Exists.elim w1 (fun g2 w2 => V_callV (k' := 0) (n' := 0) (t := 12) (q := (RX12, TX12, 46)) [i_ v5, i_ v1, i_ (Z (a0 + 13) ((96 * v5) + v2).toNat)] [] okX12_takesRow o_a0.1 rfl rfl lm_12_333 liX12_takesRow lqX12_takesRow (Nat.le_of_ble_eq_true rfl) (Nat.le_of_ble_eq_true rfl) (Nat.le_of_ble_eq_true rfl) (cat_of rfl) (Nat.le_of_ble_eq_true rfl) (Nat.zero_le _) (Nat.zero_le _) rfl dX12_eliminates_215 (w_X12_takesRow o_a0 w2.1 w2.2.1 w2.2.2.1 w2.2.2.2.1 w2.2.2.2.2.1 (fun Z'1 p1 => V_msk [true, true, true, false, false, true] rfl (w2.2.2.2.2.2 Z'1 p1))))))))))))))))))))))))))))))))
set_option maxRecDepth 20000 in
theorem b_X12_eliminates_218 {k n : Nat} {x : Wx} {Z : Zt} {Q : Option Value → Wx → Zt → Prop} {a0 : Nat} {v1 : Int} {v2 : Int} {v5 : Int} 
    (h : V mX12_eliminates k n 169 [some (r_ a0), some (i_ v1), some (i_ v2), none, none, some (i_ (v5 + 1))] [] x Z Q) :
    V mX12_eliminates k n 218 [some (r_ a0), some (i_ v1), some (i_ v2), none, none, some (i_ v5)] [] x Z Q :=
  V_iinc (lv' := [some (r_ a0), some (i_ v1), some (i_ v2), none, none, some (i_ (v5 + 1))]) dX12_eliminates_218 rfl (Nat.le_of_ble_eq_true rfl) rfl (V_goto (tgt := 169) dX12_eliminates_221 rfl (V_msk [true, true, true, false, false, true] rfl h))
set_option maxRecDepth 20000 in
theorem b_X12_eliminates_234 {k n : Nat} {x : Wx} {Z : Zt} {Q : Option Value → Wx → Zt → Prop} {a0 : Nat} {v1 : Int} {v2 : Int} 
    (h : V mX12_eliminates k n 9 [some (r_ a0), some (i_ v1), some (i_ (v2 + 1)), none, none, none] [] x Z Q) :
    V mX12_eliminates k n 234 [some (r_ a0), some (i_ v1), some (i_ v2), none, none, none] [] x Z Q :=
  V_iinc (lv' := [some (r_ a0), some (i_ v1), some (i_ (v2 + 1)), none, none, none]) dX12_eliminates_234 rfl (Nat.le_of_ble_eq_true rfl) rfl (V_goto (tgt := 9) dX12_eliminates_237 rfl (V_msk [true, true, true, false, false, false] rfl h))
