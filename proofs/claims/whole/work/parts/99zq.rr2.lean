/-! ===== ROOM of CANON less the SUM ===== -/
theorem cntY_02 {p v : Int} (hp : IsP p) (hv : 0 < v ∧ v < p) : cntY p v (p.toNat - 1) 1 = 0 ∨ cntY p v (p.toNat - 1) 1 = 2 := by
  have h3 : ∀ i : Nat, i < 3 → 0 < i → cntY 3 i 2 1 = 0 ∨ cntY 3 i 2 1 = 2 := by decide
  have h5 : ∀ i : Nat, i < 5 → 0 < i → cntY 5 i 4 1 = 0 ∨ cntY 5 i 4 1 = 2 := by decide
  have h7 : ∀ i : Nat, i < 7 → 0 < i → cntY 7 i 6 1 = 0 ∨ cntY 7 i 6 1 = 2 := by decide
  have h11 : ∀ i : Nat, i < 11 → 0 < i → cntY 11 i 10 1 = 0 ∨ cntY 11 i 10 1 = 2 := by decide
  have h13 : ∀ i : Nat, i < 13 → 0 < i → cntY 13 i 12 1 = 0 ∨ cntY 13 i 12 1 = 2 := by decide
  have hc : ((v.toNat : Nat) : Int) = v := by omega
  rcases hp with e | e | e | e | e
  · subst e; have := h3 v.toNat (by omega) (by omega); rw [hc] at this; exact this
  · subst e; have := h5 v.toNat (by omega) (by omega); rw [hc] at this; exact this
  · subst e; have := h7 v.toNat (by omega) (by omega); rw [hc] at this; exact this
  · subst e; have := h11 v.toNat (by omega) (by omega); rw [hc] at this; exact this
  · subst e; have := h13 v.toNat (by omega) (by omega); rw [hc] at this; exact this
theorem cntY_pos {p v z : Int} (hz : z * z % p = v) : ∀ (m : Nat) (y : Int), y ≤ z → z < y + m → 1 ≤ cntY p v m y
  | 0, y, h1, h2 => by omega
  | m + 1, y, h1, h2 => by
    unfold cntY
    by_cases c : y = z
    · rw [if_pos (by rw [c]; exact hz)]; omega
    · have := cntY_pos hz m (y + 1) (by omega) (by omega)
      split <;> omega
/-- how often the POINTS over X are in it -/
def sgX (p : Int) (F D O : Nat → Int) (q : Nat) : Int := if D q = 0 then 0 else if ev p F q = 0 then O (13 * q) else sgC p (ev p F q) O q (p.toNat - 1) 1
theorem zOf_eq {p : Int} (hp : IsP p) {F O D : Nat → Int} {q : Nat} (hq : (q : Int) < p) : zOf p F O D q = 2 * mDt p F O D q - sgX p F D O q := by
  have hr := hp.rg
  unfold zOf mDt sgX
  by_cases c1 : D q = 0
  · rw [if_pos c1, if_pos c1, if_pos c1]; omega
  · rw [if_neg c1, if_neg c1, if_neg c1]
    by_cases c2 : ev p F q = 0
    · rw [if_pos c2, if_pos c2]
    · rw [if_neg c2, if_neg c2]
      have hv := ev_rg (p := p) (by omega) F (q : Int)
      rcases cntY_02 hp (v := ev p F q) (by omega) with h | h
      · have e0 : mDp p F O q = 0 := by
          unfold mDp
          rw [if_neg c2]
          rcases mDy_ex (p := p) (v := ev p F q) (O := O) (X := (q : Int)) (p.toNat - 1) 1 0 with h1 | ⟨z, h1, h2, h3⟩
          · exact h1
          · have := cntY_pos h2 (p.toNat - 1) 1 h1.1 h1.2
            omega
        rw [h, e0]; omega
      · rw [h]; rfl
theorem sgC_neg {p v : Int} {O O' : Nat → Int} (h : ∀ j, O' j = -O j) {X : Int} : ∀ (m : Nat) (y : Int), sgC p v O' X m y = -sgC p v O X m y
  | 0, _ => rfl
  | m + 1, y => by
    unfold sgC
    rw [sgC_neg h m (y + 1)]
    by_cases c : y * y % p = v
    · rw [if_pos c, if_pos c, h]; omega
    · rw [if_neg c, if_neg c]; omega
theorem sgX_neg {p : Int} {F D O O' : Nat → Int} (h : ∀ j, O' j = -O j) (q : Nat) : sgX p F D O' q = -sgX p F D O q := by
  unfold sgX
  split
  · rfl
  · split
    · exact h _
    · exact sgC_neg h _ _
theorem sgC_upf {p v : Int} {O : Nat → Int} {X Y : Nat} {w : Int} (hY : (Y : Int) * Y % p = v) (hY13 : Y < 13) : ∀ (m : Nat) (y : Int), 0 ≤ y → y + m ≤ 13 → sgC p v (upf O (13 * X + Y) (O (13 * X + Y) + w)) X m y = sgC p v O X m y + if y ≤ Y ∧ (Y : Int) < y + m then w else 0
  | 0, y, _, _ => by show (0 : Int) = 0 + _; rw [if_neg (by omega)]; rfl
  | m + 1, y, h0, h1 => by
    unfold sgC
    rw [sgC_upf hY hY13 m (y + 1) (by omega) (by omega)]
    have up0 : (13 * (X : Int) + y).toNat = 13 * X + y.toNat := by omega
    have e0 : (if y ≤ (Y : Int) ∧ (Y : Int) < y + ((m + 1 : Nat) : Int) then w else 0) = (if y = (Y : Int) then w else 0) + (if y + 1 ≤ (Y : Int) ∧ (Y : Int) < y + 1 + (m : Int) then w else 0) := by
      by_cases c : y = (Y : Int)
      · rw [if_pos c, if_neg (show ¬ (y + 1 ≤ (Y : Int) ∧ (Y : Int) < y + 1 + (m : Int)) by omega), if_pos (show y ≤ (Y : Int) ∧ (Y : Int) < y + ((m + 1 : Nat) : Int) by omega)]; omega
      · rw [if_neg c]
        by_cases c2 : y + 1 ≤ (Y : Int) ∧ (Y : Int) < y + 1 + (m : Int)
        · rw [if_pos c2, if_pos (show y ≤ (Y : Int) ∧ (Y : Int) < y + ((m + 1 : Nat) : Int) by omega)]; omega
        · rw [if_neg c2, if_neg (show ¬ (y ≤ (Y : Int) ∧ (Y : Int) < y + ((m + 1 : Nat) : Int)) by omega)]; omega
    rw [e0]
    generalize (if y + 1 ≤ (Y : Int) ∧ (Y : Int) < y + 1 + (m : Int) then w else 0) = t0
    by_cases c : y = (Y : Int)
    · have hv : y * y % p = v := by rw [c]; exact hY
      rw [if_pos hv, if_pos hv, if_pos c, show (13 * (X : Int) + y).toNat = 13 * X + Y from by omega, upf_at]
      omega
    · rw [if_neg c, upf_ot (show (13 * (X : Int) + y).toNat ≠ 13 * X + Y by omega)]
      omega
theorem sgC_oth {p v : Int} {O : Nat → Int} {X Y q : Nat} {w : Int} (hq : q ≠ X) (hY13 : Y < 13) : ∀ (m : Nat) (y : Int), 0 ≤ y → y + m ≤ 13 → sgC p v (upf O (13 * X + Y) w) q m y = sgC p v O q m y
  | 0, y, _, _ => rfl
  | m + 1, y, h0, h1 => by
    unfold sgC
    rw [sgC_oth hq hY13 m (y + 1) (by omega) (by omega), upf_ot (show (13 * (q : Int) + y).toNat ≠ 13 * X + Y by omega)]
theorem sgX_upf {p : Int} (hp : IsP p) {F D O : Nat → Int} {X Y : Nat} {w : Int} (hX : (X : Int) < p) (hY : (Y : Int) < p) (he : (Y : Int) * Y % p = ev p F X) (hD : D X ≠ 0) (q : Nat) : sgX p F D (upf O (13 * X + Y) (O (13 * X + Y) + w)) q = 1 * sgX p F D O q + 1 * if q = X then w else 0 := by
  have hr := hp.rg
  unfold sgX
  by_cases c : q = X
  · rw [c, if_neg hD, if_neg hD, if_pos rfl]
    by_cases c0 : ev p F X = 0
    · rw [if_pos c0, if_pos c0]
      have := sq_0 hp (y := (Y : Int)) (by omega) (by rw [he]; exact c0)
      have : Y = 0 := by omega
      rw [this, Nat.add_zero, upf_at]; omega
    · rw [if_neg c0, if_neg c0, sgC_upf he (by omega) (p.toNat - 1) 1 (by omega) (by omega)]
      have : Y ≠ 0 := fun e => c0 (by rw [← he, e]; rfl)
      rw [if_pos (by omega)]; omega
  · rw [if_neg c]
    split
    · omega
    · split
      · rw [upf_ot (show 13 * q ≠ 13 * X + Y by omega)]; omega
      · rw [sgC_oth c (by omega) (p.toNat - 1) 1 (by omega) (by omega)]; omega
theorem mTd_has {r : Nat → Int} {i : Nat} : ∀ n : Nat, i < n → mTd r n (eX r i).toNat ≠ 0
  | 0, h => by omega
  | n + 1, h => by
    show upf (mTd r n) (eX r n).toNat 1 (eX r i).toNat ≠ 0
    unfold upf
    split
    · decide
    · rename_i h2
      by_cases c : i = n
      · exact absurd (by rw [c]) h2
      · exact mTd_has n (by omega)
theorem sgX_sum {p : Int} (hp : IsP p) {F r : Nat → Int} (hr : SumR r) (hc : carr (pall p F) r = true) : ∀ n : Nat, n ≤ (r 0).toNat → smT p.toNat (sgX p F (rT r) (mOf r 1 n)) = sdeg r n - r 1
  | 0, _ => by
    show _ = r 1 - r 1
    rw [smT_zero (fun i _ => ?_)]
    · omega
    · unfold sgX
      split
      · rfl
      · split
        · rfl
        · have z : ∀ (m : Nat) (y : Int), sgC p (ev p F i) (mOf r 1 0) i m y = 0 := fun m => by
            induction m with
            | zero => exact fun _ => rfl
            | succ m ih =>
              intro y
              show (if y * y % p = ev p F i then mOf r 1 0 (13 * (i : Int) + y).toNat else 0) + sgC p (ev p F i) (mOf r 1 0) i m (y + 1) = 0
              rw [ih]
              split <;> rfl
          exact z _ _
  | n + 1, h => by
    have hpr := hp.rg
    have ih := sgX_sum hp hr hc n (by omega)
    obtain ⟨q, -, q2, q3, q4⟩ := ent_pt hr hc (i := n) (by omega)
    have hm := pts_mem (p := p) (F := F) (by omega) (e := (pts p F).getD q (0, 0)) (by
      rw [List.getD_eq_getElem?_getD, List.getElem?_eq_getElem q2]; exact List.getElem_mem q2)
    rw [← pall_pts q2, q3, q4] at hm
    have e : mOf r 1 (n + 1) = upf (mOf r 1 n) (13 * (eX r n).toNat + (eY r n).toNat) (mOf r 1 n (13 * (eX r n).toNat + (eY r n).toNat) + eO r n) := by
      show upf (mOf r 1 n) (13 * eX r n + eY r n).toNat (mOf r 1 n (13 * eX r n + eY r n).toNat + 1 * eO r n) = _
      rw [show (13 * eX r n + eY r n).toNat = 13 * (eX r n).toNat + (eY r n).toNat from by omega, Int.one_mul]
    have ext : smT p.toNat (sgX p F (rT r) (mOf r 1 (n + 1))) = smT p.toNat (fun q => 1 * sgX p F (rT r) (mOf r 1 n) q + 1 * if q = (eX r n).toNat then eO r n else 0) := smT_ext (fun i _ => by
      rw [e]
      exact sgX_upf hp (X := (eX r n).toNat) (Y := (eY r n).toNat) (by omega) (by omega) (by rw [Int.toNat_of_nonneg (by omega), Int.toNat_of_nonneg (by omega)]; exact hm.2.2) (mTd_has _ (by omega)) i)
    rw [ext, smT_lin, ih, smT_one (k := (eX r n).toNat) (by omega) (fun i _ hi => if_neg hi), if_pos rfl]
    show _ = sdeg r n + eO r n - r 1
    omega
theorem rO_neg (r : Nat → Int) (j : Nat) : rO r (-1) j = -rO r 1 j := by
  unfold rO
  have h : ∀ (n j : Nat), mOf r (-1) n j = -mOf r 1 n j := fun n => by
    induction n with
    | zero => exact fun _ => rfl
    | succ n ih =>
      intro j
      show upf (mOf r (-1) n) (13 * eX r n + eY r n).toNat (mOf r (-1) n (13 * eX r n + eY r n).toNat + (-1) * eO r n) j = -upf (mOf r 1 n) (13 * eX r n + eY r n).toNat (mOf r 1 n (13 * eX r n + eY r n).toNat + 1 * eO r n) j
      unfold upf
      split
      · rw [ih]; omega
      · exact ih j
  exact h _ j
theorem mRm_max {p : Int} {F O D : Nat → Int} {fr : Int} {g : Nat} {N0 N1 : Nat} (hg : (gen F).toNat = g) (hm : mMo p F fr O D ≤ 700) (h : ∀ po : Nat, po ≤ 700 → ((slvN p (gen F).toNat po (mRw p F O D (po : Int)).2 (mRw p F O D (po : Int)).1 (po + 1)).2.2.2.2 : Int) = max 0 (((po : Int) + 2) / 2 - N0) + max 0 (((po : Int) + 1 - 2 * (gen F).toNat) / 2 - N1)) : (mRm p F fr O D : Int) = max 0 ((mMo p F fr O D + 2) / 2 - N0) + max 0 ((mMo p F fr O D + 1 - 2 * g) / 2 - N1) := by
  unfold mRm
  by_cases c : mMo p F fr O D < 0
  · rw [if_pos c]; omega
  · rw [if_neg c]
    unfold mSl
    have := h (mMo p F fr O D).toNat (by omega)
    rw [show (((mMo p F fr O D).toNat : Nat) : Int) = mMo p F fr O D from by omega] at this
    rw [this, hg]
/-- RIEMANN, ROCH; and no room is greater than 50 -/
theorem rr {p : Int} {F r : Nat → Int} (hF : CF p (gen F) F) (hr : SumR r) (hc : carr (pall p F) r = true) : (mRm p F (r 1) (rO r 1) (rT r) : Int) - (mRm p F ((-1) * r 1 + (2 * gen F - 2)) (rO r (-1)) (rT r) : Int) = sdeg r (r 0).toNat + 1 - gen F ∧ mRm p F (r 1) (rO r 1) (rT r) ≤ 49 := by
  have hp := hF.1
  have hpr := hp.rg
  have hg := hF.2.2.2.2
  have h8 := hr.1
  have h9 := hr.2.1
  have dF : Dlt F 6 := fun i hi => pd_hi hF.2.2.1 i (by have := hF.2.2.2.1; omega)
  have A1 := mOf_ab hr (Or.inl rfl : (1 : Int) = 1 ∨ (1 : Int) = -1) (r 0).toNat (by omega)
  have A2 := mOf_ab hr (Or.inr rfl : (-1 : Int) = 1 ∨ (-1 : Int) = -1) (r 0).toNat (by omega)
  have A1 : smT 169 (abF (rO r 1)) ≤ 40 := by unfold rO; omega
  have A2 : smT 169 (abF (rO r (-1))) ≤ 40 := by unfold rO; omega
  have key : ∀ (R : Type) (_ : Lean.Grind.CommRing R) (co : R → Nat → Int) (c : Int → R) (tp : Nat → R), SerR p co c tp → (mRm p F (r 1) (rO r 1) (rT r) : Int) - (mRm p F ((-1) * r 1 + (2 * gen F - 2)) (rO r (-1)) (rT r) : Int) = sdeg r (r 0).toNat + 1 - gen F ∧ mRm p F (r 1) (rO r 1) (rT r) ≤ 49 := fun R _ co c tp hS => by
    obtain ⟨N0, N1, a1, a2, a3, a4, a5⟩ := leads hS (F := F) (O := rO r 1) (D := rT r) (by omega) A1
    obtain ⟨M0, M1, b1, b2, b3, b4, b5⟩ := leads hS (F := F) (O := rO r (-1)) (D := rT r) (by omega) A2
    have l1 := lead_mul hS dF (ab_rg A1) (rO_neg r) (by omega) (by omega) (by omega) a1 b2
    have l2 := lead_mul hS dF (ab_rg A2) (fun j => by rw [rO_neg]; omega) (by omega) (by omega) (by omega) b1 a2
    obtain ⟨u1, u2⟩ := und_40 hp (F := F) hr (Or.inl rfl : (1 : Int) = 1 ∨ (1 : Int) = -1)
    obtain ⟨v1, v2⟩ := und_40 hp (F := F) hr (Or.inr rfl : (-1 : Int) = 1 ∨ (-1 : Int) = -1)
    have sg := sgX_sum hp hr hc (r 0).toNat (Nat.le_refl _)
    have z1 : smT p.toNat (zOf p F (rO r 1) (rT r)) = 2 * smT p.toNat (mDt p F (rO r 1) (rT r)) + (-1) * smT p.toNat (sgX p F (rT r) (rO r 1)) := by
      rw [← smT_lin]
      exact smT_ext (fun i hi => by rw [zOf_eq hp (by omega)]; omega)
    have z2 : smT p.toNat (zOf p F (rO r (-1)) (rT r)) = 2 * smT p.toNat (mDt p F (rO r (-1)) (rT r)) + 1 * smT p.toNat (sgX p F (rT r) (rO r 1)) := by
      rw [← smT_lin]
      exact smT_ext (fun i hi => by rw [zOf_eq hp (by omega), sgX_neg (rO_neg r)]; omega)
    have s1 : smT p.toNat (fun x => mDt p F (rO r 1) (rT r) x + mDt p F (rO r (-1)) (rT r) x) = 1 * smT p.toNat (mDt p F (rO r 1) (rT r)) + 1 * smT p.toNat (mDt p F (rO r (-1)) (rT r)) := by
      rw [← smT_lin]
      exact smT_ext (fun i _ => by omega)
    have s2 : smT p.toNat (fun x => mDt p F (rO r (-1)) (rT r) x + mDt p F (rO r 1) (rT r) x) = 1 * smT p.toNat (mDt p F (rO r 1) (rT r)) + 1 * smT p.toNat (mDt p F (rO r (-1)) (rT r)) := by
      rw [← smT_lin]
      exact smT_ext (fun i _ => by omega)
    have sg : smT p.toNat (sgX p F (rT r) (rO r 1)) = sdeg r (r 0).toNat - r 1 := sg
    have hs := sdeg_rg hr (r 0).toNat (by omega)
    rw [s1] at l1
    rw [s2] at l2
    rw [z1] at a3 a4
    rw [z2] at b3 b4
    rw [← u2, ← v2] at l1 l2
    rw [← u2] at a3 a4
    rw [← v2] at b3 b4
    rw [sg] at a3 a4 b3 b4
    have m1 := mRm_max (p := p) (F := F) (O := rO r 1) (D := rT r) (fr := r 1) (g := (gen F).toNat) rfl (by unfold mMo; omega) a5
    have m2 := mRm_max (p := p) (F := F) (O := rO r (-1)) (D := rT r) (fr := (-1) * r 1 + (2 * gen F - 2)) (g := (gen F).toNat) rfl (by unfold mMo; omega) b5
    have e1 : mMo p F (r 1) (rO r 1) (rT r) = r 1 + 2 * ((mUn p F (rO r 1) (rT r)).1 : Int) := rfl
    have e2 : mMo p F ((-1) * r 1 + (2 * gen F - 2)) (rO r (-1)) (rT r) = (-1) * r 1 + (2 * gen F - 2) + 2 * ((mUn p F (rO r (-1)) (rT r)).1 : Int) := rfl
    rw [e1] at m1
    rw [e2] at m2
    generalize ((mUn p F (rO r 1) (rT r)).1 : Nat) = E1 at *
    generalize ((mUn p F (rO r (-1)) (rT r)).1 : Nat) = E2 at *
    generalize sdeg r (r 0).toNat = dg at *
    generalize r 1 = fr at *
    generalize mRm p F fr (rO r 1) (rT r) = Q1 at *
    generalize mRm p F (-1 * fr + (2 * gen F - 2)) (rO r (-1)) (rT r) = Q2 at *
    clear a1 a2 b1 b2 a5 b5 sg z1 z2 s1 s2 u2 v2 A1 A2 hS e1 e2
    have gt : ((gen F).toNat : Int) = gen F := by clear m1 m2; omega
    rw [gt] at m1 m2
    have q1 : (N0 : Int) + M1 = E1 + E2 := by clear m1 m2; omega
    have q2 : (M0 : Int) + N1 = E1 + E2 := by clear m1 m2; omega
    have q3 : (N0 : Int) + N1 = 2 * E1 - (dg - fr) := by clear m1 m2; omega
    have h6 : dg ≤ 49 := by clear m1 m2 q1 q2 q3; omega
    clear l1 l2 a3 a4 b3 b4
    generalize hg0 : gen F = G at *
    have h1 : (-1 * fr + (2 * G - 2) + 2 * (E2 : Int) + 2) / 2 - M0 = -((fr + 2 * (E1 : Int) + 1 - 2 * G) / 2 - N1) := by clear m1 m2; omega
    have h2 : (-1 * fr + (2 * G - 2) + 2 * (E2 : Int) + 1 - 2 * G) / 2 - M1 = -((fr + 2 * (E1 : Int) + 2) / 2 - N0) := by clear m1 m2 h1; omega
    have h3 : ((fr + 2 * (E1 : Int) + 2) / 2 - N0) + ((fr + 2 * (E1 : Int) + 1 - 2 * G) / 2 - N1) = dg + 1 - G := by clear m1 m2 h1 h2; omega
    have h4 : (fr + 2 * (E1 : Int) + 2) / 2 - N0 ≤ 48 := by clear m1 m2 h1 h2 h3; omega
    have h5 : (fr + 2 * (E1 : Int) + 1 - 2 * G) / 2 - N1 ≤ 48 := by clear m1 m2 h1 h2 h3 h4; omega
    rw [h1, h2] at m2
    generalize (fr + 2 * (E1 : Int) + 2) / 2 - (N0 : Int) = A at *
    generalize (fr + 2 * (E1 : Int) + 1 - 2 * G) / 2 - (N1 : Int) = B at *
    clear h1 h2 q1 q2 q3 u1 v1 hs
    constructor
    · rw [m1, m2]
      clear m1 m2
      by_cases cA : 0 ≤ A
      · by_cases cB : 0 ≤ B
        · rw [Int.max_eq_right cA, Int.max_eq_right cB, Int.max_eq_left (show -B ≤ 0 by omega), Int.max_eq_left (show -A ≤ 0 by omega)]; omega
        · rw [Int.max_eq_right cA, Int.max_eq_left (show B ≤ 0 by omega), Int.max_eq_right (show 0 ≤ -B by omega), Int.max_eq_left (show -A ≤ 0 by omega)]; omega
      · by_cases cB : 0 ≤ B
        · rw [Int.max_eq_left (show A ≤ 0 by omega), Int.max_eq_right cB, Int.max_eq_left (show -B ≤ 0 by omega), Int.max_eq_right (show 0 ≤ -A by omega)]; omega
        · rw [Int.max_eq_left (show A ≤ 0 by omega), Int.max_eq_left (show B ≤ 0 by omega), Int.max_eq_right (show 0 ≤ -B by omega), Int.max_eq_right (show 0 ≤ -A by omega)]; omega
    · clear m2
      by_cases cA : 0 ≤ A
      · by_cases cB : 0 ≤ B
        · rw [Int.max_eq_right cA, Int.max_eq_right cB] at m1; omega
        · rw [Int.max_eq_right cA, Int.max_eq_left (show B ≤ 0 by omega)] at m1; omega
      · by_cases cB : 0 ≤ B
        · rw [Int.max_eq_left (show A ≤ 0 by omega), Int.max_eq_right cB] at m1; omega
        · rw [Int.max_eq_left (show A ≤ 0 by omega), Int.max_eq_left (show B ≤ 0 by omega)] at m1; omega
  exact key _ (srRing (by omega)) _ _ _ (sr_Ser hp (by omega))
theorem tie_room2 {T : Td} (hV : TdV T) (c s w : Int) : aRoom T c s w = mARoom T c s w := by
  refine tie_room hV c s w (fun _ => ?_)
  unfold aRoom mARoom
  by_cases h : fitB T c s = true
  · obtain ⟨h1, h2, h3⟩ := fitB_c.mp h
    have hF := (Td.crv hV (q := c.toNat) (by omega)).1
    have hS := (hV.2.2.2.2.2.2.2.2.1 s.toNat (by omega)).1
    have d1 : (rmS (T.p c.toNat) (T.F c.toNat) (T.rw (2 + s.toNat))).2.2.2.2 = mRm (T.p c.toNat) (T.F c.toNat) (T.rw (2 + s.toNat) 1) (rO (T.rw (2 + s.toNat)) 1) (rT (T.rw (2 + s.toNat))) := (room_dim hF.1 hS h3).1
    have rq := (rr hF hS h3).1
    have cc : fitB T c s = true ∧ (0 : Int) ≤ 2 ∧ (2 : Int) ≤ 3 := ⟨h, by decide, by decide⟩
    have n0 : ¬ (2 : Int) = 0 := by decide
    have n1 : ¬ (2 : Int) = 1 := by decide
    have n2 : (2 : Int) = 2 := rfl
    rw [d1, if_pos cc, if_pos cc, if_neg n0, if_neg n1, if_pos n2, if_neg n0, if_neg n1, if_pos n2]
    omega
  · rw [if_neg (fun e => h e.1), if_neg (fun e => h e.1)]
