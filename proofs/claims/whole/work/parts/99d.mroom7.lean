/-! ===== the reference: rooms are not too great ===== -/
def abF (O : Nat → Int) : Nat → Int := fun j => ((O j).natAbs : Int)
theorem smT_add (f : Nat → Int) (a : Nat) : ∀ m : Nat, smT (a + m) f = smT a f + smT m (fun i => f (a + i))
  | 0 => by show smT a f = smT a f + 0; omega
  | m + 1 => by
    show smT (a + m) f + f (a + m) = smT a f + (smT m (fun i => f (a + i)) + f (a + m))
    rw [smT_add f a m]; omega
theorem smT_mo {f g : Nat → Int} : ∀ {m : Nat}, (∀ i : Nat, i < m → f i ≤ g i) → smT m f ≤ smT m g
  | 0, _ => Int.le_refl _
  | m + 1, h => by
    have h1 := smT_mo (f := f) (g := g) (m := m) (fun i hi => h i (by omega))
    have h2 := h m (by omega)
    show smT m f + f m ≤ smT m g + g m
    omega
/-- the sum over one X -/
def axS (O : Nat → Int) (q : Nat) : Int := smT 13 (fun y => abF O (13 * q + y))
theorem axS_nn (O : Nat → Int) (q : Nat) : 0 ≤ axS O q := smT_nn (fun i _ => by unfold abF; omega)
theorem axS_sum (O : Nat → Int) : ∀ m : Nat, smT (13 * m) (abF O) = smT m (axS O)
  | 0 => rfl
  | m + 1 => by
    rw [show 13 * (m + 1) = 13 * m + 13 from by omega, smT_add, axS_sum O m]
    rfl
theorem axS_one (O : Nat → Int) (q : Nat) {y : Nat} (hy : y < 13) : abF O (13 * q + y) ≤ axS O q := by
  have h : ∀ m : Nat, y < m → abF O (13 * q + y) ≤ smT m (fun y => abF O (13 * q + y)) := by
    intro m
    induction m with
    | zero => intro h; omega
    | succ m ih =>
      intro hm
      show _ ≤ smT m (fun y => abF O (13 * q + y)) + abF O (13 * q + m)
      by_cases c : y = m
      · have := smT_nn (f := fun y => abF O (13 * q + y)) (n := m) (fun i _ => by unfold abF; omega)
        rw [c]; omega
      · have := ih (by omega)
        have h2 : 0 ≤ abF O (13 * q + m) := by unfold abF; omega
        omega
  exact h 13 hy
theorem ab_one {O : Nat → Int} {S : Int} (h : smT 169 (abF O) ≤ S) {j : Nat} (hj : j < 169) : abF O j ≤ S := by
  have e : smT 169 (abF O) = smT 13 (axS O) := axS_sum O 13
  have h1 := axS_one O (j / 13) (y := j % 13) (by omega)
  rw [show 13 * (j / 13) + j % 13 = j from by omega] at h1
  have h2 : ∀ m : Nat, j / 13 < m → axS O (j / 13) ≤ smT m (axS O) := by
    intro m
    induction m with
    | zero => intro h; omega
    | succ m ih =>
      intro hm
      show _ ≤ smT m (axS O) + axS O m
      by_cases c : j / 13 = m
      · have := smT_nn (f := axS O) (n := m) (fun i _ => axS_nn O i)
        rw [c]; omega
      · have := ih (by omega)
        have h2 := axS_nn O m
        omega
  have := h2 13 (by omega)
  omega
theorem ab_rg {O : Nat → Int} (h : smT 169 (abF O) ≤ 40) : ORg O := fun j hj => by
  have := ab_one h hj
  unfold abF at this
  omega
/-- the deepest is one of them, or none -/
theorem mDy_ex {p v : Int} {O : Nat → Int} {X : Int} : ∀ (m : Nat) (y n : Int), mDy p v O X m y n = n ∨ ∃ z : Int, (y ≤ z ∧ z < y + m) ∧ z * z % p = v ∧ mDy p v O X m y n = O (13 * X + z).toNat
  | 0, _, _ => Or.inl rfl
  | m + 1, y, n => by
    unfold mDy
    have ih := mDy_ex (p := p) (v := v) (O := O) (X := X) m (y + 1)
    by_cases c : y * y % p = v
    · by_cases c2 : n < O (13 * X + y).toNat
      · rw [if_pos c, if_pos c2]
        rcases ih (O (13 * X + y).toNat) with h | ⟨z, h1, h2, h3⟩
        · exact Or.inr ⟨y, by omega, c, h⟩
        · exact Or.inr ⟨z, by omega, h2, h3⟩
      · rw [if_pos c, if_neg c2]
        rcases ih n with h | ⟨z, h1, h2, h3⟩
        · exact Or.inl h
        · exact Or.inr ⟨z, by omega, h2, h3⟩
    · rw [if_neg c]
      rcases ih n with h | ⟨z, h1, h2, h3⟩
      · exact Or.inl h
      · exact Or.inr ⟨z, by omega, h2, h3⟩
theorem mDp_le {p : Int} (hp : IsP p) {F O : Nat → Int} {q : Nat} (hO : ORg O) (hq : (q : Int) < p) : mDp p F O q ≤ axS O q := by
  have hpr := hp.rg
  unfold mDp
  split
  · have h1 := axS_one O q (y := 0) (by decide)
    have h2 := axS_nn O q
    rw [show (13 * (q : Int)).toNat = 13 * q + 0 from by omega]
    unfold abF at h1
    split
    · rw [Int.tdiv_eq_ediv_of_nonneg (by omega)]; omega
    · exact h2
  · rcases mDy_ex (p := p) (v := ev p F q) (O := O) (X := (q : Int)) (p.toNat - 1) 1 0 with h | ⟨z, h1, h2, h3⟩
    · rw [h]; exact axS_nn O q
    · rw [h3]
      have h4 := axS_one O q (y := z.toNat) (by omega)
      rw [show 13 * q + z.toNat = (13 * (q : Int) + z).toNat from by omega] at h4
      unfold abF at h4
      omega
/-- how many rows the POINTS over X ask -/
def rwC (p v e : Int) (O : Nat → Int) (X : Int) : Nat → Int → Int
  | 0, _ => 0
  | m + 1, y => (if y * y % p = v then (e - O (13 * X + y).toNat) else 0) + rwC p v e O X m (y + 1)
def sgC (p v : Int) (O : Nat → Int) (X : Int) : Nat → Int → Int
  | 0, _ => 0
  | m + 1, y => (if y * y % p = v then O (13 * X + y).toNat else 0) + sgC p v O X m (y + 1)
theorem rwC_eq {p v e : Int} {O : Nat → Int} {X : Int} : ∀ (m : Nat) (y : Int), rwC p v e O X m y = (cntY p v m y : Int) * e - sgC p v O X m y
  | 0, _ => by show (0 : Int) = ((0 : Nat) : Int) * e - 0; omega
  | m + 1, y => by
    unfold rwC sgC cntY
    rw [rwC_eq m (y + 1)]
    by_cases c : y * y % p = v
    · rw [if_pos c, if_pos c, if_pos c, show (((cntY p v m (y + 1) + 1 : Nat)) : Int) = (cntY p v m (y + 1) : Int) + 1 from by omega, Int.add_mul, Int.one_mul]; omega
    · rw [if_neg c, if_neg c, if_neg c]; omega
/-- |O| over y .. y + m - 1 -/
def abY (O : Nat → Int) (X : Int) : Nat → Int → Int
  | 0, _ => 0
  | m + 1, y => abF O (13 * X + y).toNat + abY O X m (y + 1)
theorem abY_nn (O : Nat → Int) (X : Int) : ∀ (m : Nat) (y : Int), 0 ≤ abY O X m y
  | 0, _ => Int.le_refl _
  | m + 1, y => by
    have := abY_nn O X m (y + 1)
    show 0 ≤ abF O (13 * X + y).toNat + abY O X m (y + 1)
    unfold abF; omega
theorem sgC_ge {p v : Int} {O : Nat → Int} {X : Int} : ∀ (m : Nat) (y : Int), -(abY O X m y) ≤ sgC p v O X m y
  | 0, _ => by show -(0 : Int) ≤ 0; omega
  | m + 1, y => by
    have ih := sgC_ge (p := p) (v := v) (O := O) (X := X) m (y + 1)
    show -(abF O (13 * X + y).toNat + abY O X m (y + 1)) ≤ (if y * y % p = v then O (13 * X + y).toNat else 0) + sgC p v O X m (y + 1)
    have h2 : -(abF O (13 * X + y).toNat) ≤ (if y * y % p = v then O (13 * X + y).toNat else 0) := by
      unfold abF
      split <;> omega
    omega
theorem sgC_at {p v : Int} {O : Nat → Int} {X z : Int} (hz : z * z % p = v) (h0 : 0 ≤ O (13 * X + z).toNat) : ∀ (m : Nat) (y : Int), y ≤ z → z < y + m → 2 * O (13 * X + z).toNat - abY O X m y ≤ sgC p v O X m y
  | 0, _, h1, h2 => by omega
  | m + 1, y, h1, h2 => by
    show 2 * O (13 * X + z).toNat - (abF O (13 * X + y).toNat + abY O X m (y + 1)) ≤ (if y * y % p = v then O (13 * X + y).toNat else 0) + sgC p v O X m (y + 1)
    by_cases c : y = z
    · have := sgC_ge (p := p) (v := v) (O := O) (X := X) m (y + 1)
      rw [if_pos (by rw [c]; exact hz), c]
      rw [c] at this
      unfold abF
      omega
    · have ih := sgC_at hz h0 m (y + 1) (by omega) (by omega)
      have h2 : -(abF O (13 * X + y).toNat) ≤ (if y * y % p = v then O (13 * X + y).toNat else 0) := by
        unfold abF
        split <;> omega
      omega
theorem abY_ax {O : Nat → Int} {q : Nat} : ∀ (m : Nat) (y : Nat), y + m ≤ 13 → abY O (q : Int) m (y : Int) + smT y (fun y => abF O (13 * q + y)) ≤ axS O q
  | 0, y, h => by
    show 0 + smT y (fun y => abF O (13 * q + y)) ≤ axS O q
    have : axS O q = smT (y + (13 - y)) (fun y => abF O (13 * q + y)) := by rw [show y + (13 - y) = 13 from by omega]; rfl
    rw [this, smT_add]
    have := smT_nn (f := fun i => abF O (13 * q + (y + i))) (n := 13 - y) (fun i _ => by unfold abF; omega)
    have e2 : smT (13 - y) (fun i => (fun y => abF O (13 * q + y)) (y + i)) = smT (13 - y) (fun i => abF O (13 * q + (y + i))) := rfl
    omega
  | m + 1, y, h => by
    have ih := abY_ax (O := O) (q := q) m (y + 1) (by omega)
    have e1 : smT (y + 1) (fun y => abF O (13 * q + y)) = smT y (fun y => abF O (13 * q + y)) + abF O (13 * q + y) := rfl
    have e2 : abY O (q : Int) (m + 1) (y : Int) = abF O (13 * (q : Int) + (y : Int)).toNat + abY O (q : Int) m ((y : Int) + 1) := rfl
    rw [e2, show (13 * (q : Int) + (y : Int)).toNat = 13 * q + y from by omega]
    rw [show (((y + 1 : Nat)) : Int) = (y : Int) + 1 from by omega] at ih
    omega
theorem mCy_2 {p : Int} {F O : Nat → Int} {g : Nat} {mo e : Int} {q : Nat} (hO : ORg O) (hq : q < 13) (he : ∀ y : Int, 1 ≤ y → y < p → y * y % p = ev p F q → O (13 * (q : Int) + y).toNat ≤ e) : ∀ (m : Nat) (y : Int) (W : Lq), 1 ≤ y → y + m ≤ p → ((mCy p F O g mo q e m y W).2 : Int) = W.2 + rwC p (ev p F q) e O q m y
  | 0, _, W, _, _ => by show (W.2 : Int) = W.2 + 0; omega
  | m + 1, y, W, h1, h2 => by
    unfold mCy rwC
    rw [mCy_2 hO hq he m (y + 1) _ (by omega) (by omega)]
    by_cases c : y * y % p = ev p F q
    · rw [if_pos c, if_pos c]
      have := he y h1 (by omega) c
      show (((W.2 + (e - O (13 * (q : Int) + y).toNat).toNat : Nat)) : Int) + _ = _
      omega
    · rw [if_neg c, if_neg c]; omega
theorem cntY_3 {p : Int} (hp : IsP p) (v : Int) (hv : v ≠ 0) (hr : 0 ≤ v ∧ v < p) : cntY p v (p.toNat - 1) 1 ≤ 2 := by
  have h := cntY_2 hp hr
  have hpr := hp.rg
  have e : cntY p v p.toNat 0 = cntY p v (p.toNat - 1) 1 := by
    obtain ⟨m, hm⟩ : ∃ m : Nat, p.toNat = m + 1 := ⟨p.toNat - 1, by omega⟩
    rw [hm]
    show (if (0 : Int) * 0 % p = v then _ else cntY p v m (0 + 1)) = cntY p v (m + 1 - 1) 1
    rw [if_neg (by rw [Int.zero_mul, Int.zero_emod]; exact fun e => hv e.symm)]; rfl
  omega
/-- the rows over one X -/
theorem mCd_2 {p : Int} (hp : IsP p) {F O : Nat → Int} {g : Nat} {mo : Int} {q : Nat} (hO : ORg O) (hq : (q : Int) < p) (W : Lq) : ((mCd p F O g mo q W).2 : Int) ≤ W.2 + axS O q := by
  have hpr := hp.rg
  unfold mCd
  by_cases c : ev p F q = 0
  · rw [if_pos c]
    have h1 := axS_one O q (y := 0) (by decide)
    have hj := hO (13 * (q : Int)).toNat (by omega)
    rw [show 13 * q + 0 = (13 * (q : Int)).toNat from by omega] at h1
    unfold abF at h1
    have hr : 0 ≤ 2 * mDp p F O q - O (13 * (q : Int)).toNat ∧ 2 * mDp p F O q - O (13 * (q : Int)).toNat ≤ ((O (13 * (q : Int)).toNat).natAbs : Int) := by
      unfold mDp
      rw [if_pos c]
      split
      · rw [Int.tdiv_eq_ediv_of_nonneg (by omega)]; omega
      · omega
    have e1 : Int.tdiv (2 * mDp p F O q - O (13 * (q : Int)).toNat + 1) 2 = (2 * mDp p F O q - O (13 * (q : Int)).toNat + 1) / 2 := Int.tdiv_eq_ediv_of_nonneg (by omega)
    have e2 : Int.tdiv (2 * mDp p F O q - O (13 * (q : Int)).toNat) 2 = (2 * mDp p F O q - O (13 * (q : Int)).toNat) / 2 := Int.tdiv_eq_ediv_of_nonneg (by omega)
    show (((W.2 + (Int.tdiv (2 * mDp p F O q - O (13 * (q : Int)).toNat + 1) 2).toNat + (Int.tdiv (2 * mDp p F O q - O (13 * (q : Int)).toNat) 2).toNat : Nat)) : Int) ≤ _
    rw [e1, e2]
    generalize 2 * mDp p F O q - O (13 * (q : Int)).toNat = r at hr
    omega
  · rw [if_neg c]
    have hge : ∀ y : Int, 1 ≤ y → y < p → y * y % p = ev p F q → O (13 * (q : Int) + y).toNat ≤ mDp p F O q := fun y h1 h2 h3 => by
      unfold mDp
      rw [if_neg c]
      exact mDy_ge hO (by omega) h3 (p.toNat - 1) 1 0 (by omega) (by omega) (by omega) (by omega) (by omega)
    rw [mCy_2 hO (by omega) hge (p.toNat - 1) 1 W (by omega) (by omega), rwC_eq]
    have hd := mDp_rg hp (F := F) hO (X := (q : Int)) (by omega)
    have hc := cntY_3 hp (ev p F q) c (ev_rg (by omega) F q)
    have hab := abY_ax (O := O) (q := q) (p.toNat - 1) 1 (by omega)
    have hab2 : abY O (q : Int) (p.toNat - 1) 1 ≤ axS O q := by
      have : 0 ≤ smT 1 (fun y => abF O (13 * q + y)) := smT_nn (fun i _ => by unfold abF; omega)
      have e : (((1 : Nat)) : Int) = 1 := rfl
      rw [e] at hab
      omega
    have hce : (cntY p (ev p F q) (p.toNat - 1) 1 : Int) * mDp p F O q ≤ 2 * mDp p F O q := Int.mul_le_mul_of_nonneg_right (by omega) hd.1
    rcases mDy_ex (p := p) (v := ev p F q) (O := O) (X := (q : Int)) (p.toNat - 1) 1 0 with h | ⟨z, h1, h2, h3⟩
    · have e0 : mDp p F O q = 0 := by unfold mDp; rw [if_neg c]; exact h
      have := sgC_ge (p := p) (v := ev p F q) (O := O) (X := (q : Int)) (p.toNat - 1) 1
      rw [e0, Int.mul_zero]
      omega
    · have e0 : mDp p F O q = O (13 * (q : Int) + z).toNat := by unfold mDp; rw [if_neg c]; exact h3
      have := sgC_at (p := p) (v := ev p F q) (O := O) (X := (q : Int)) h2 (by rw [← e0]; exact hd.1) (p.toNat - 1) 1 (by omega) (by omega)
      rw [← e0] at this
      omega
theorem mRx_2 {p : Int} (hp : IsP p) {F O D : Nat → Int} {g : Nat} {mo : Int} (hO : ORg O) : ∀ (m q : Nat) (W : Lq), (q : Int) + m ≤ p → ((mRx p F O D g mo m q W).2 : Int) + smT q (axS O) ≤ W.2 + smT (q + m) (axS O)
  | 0, q, W, _ => by show (W.2 : Int) + smT q (axS O) ≤ W.2 + smT q (axS O); omega
  | m + 1, q, W, h => by
    unfold mRx
    have ih := mRx_2 hp (F := F) (D := D) (g := g) (mo := mo) hO m (q + 1) (if D q = 0 then W else mCd p F O g mo q W) (by omega)
    rw [show q + 1 + m = q + (m + 1) from by omega] at ih
    have e : smT (q + 1) (axS O) = smT q (axS O) + axS O q := rfl
    have h2 := axS_nn O q
    split at ih
    · rw [if_pos (by assumption)]; omega
    · rw [if_neg (by assumption)]
      have := mCd_2 hp (F := F) (g := g) (mo := mo) (q := q) hO (by omega) W
      omega
theorem RmK_of {p : Int} (hp : IsP p) {F : Nat → Int} {fr : Int} {O D : Nat → Int} (hA : smT 169 (abF O) ≤ 40) (hD : ∀ q : Nat, q < 13 → D q = 0 ∨ D q = 1) (hfr : -100 ≤ fr ∧ fr ≤ 11) : RmK p F fr O D := by
  have hpr := hp.rg
  have hO := ab_rg hA
  have e13 : smT 169 (abF O) = smT 13 (axS O) := axS_sum O 13
  have hp13 : smT p.toNat (axS O) ≤ smT 13 (axS O) := by
    have := smT_add (axS O) p.toNat (13 - p.toNat)
    rw [show p.toNat + (13 - p.toNat) = 13 from by omega] at this
    have h2 := smT_nn (f := fun i => axS O (p.toNat + i)) (n := 13 - p.toNat) (fun i _ => axS_nn O _)
    omega
  refine ⟨hO, hD, ?_, hfr, fun hm => ?_⟩
  · have hdn : ∀ i : Nat, i < 0 + p.toNat → 0 ≤ mDt p F O D i := fun i hi => by
      unfold mDt
      split
      · omega
      · exact (mDp_rg hp hO (by omega)).1
    have h1 := undA_deg p (mDt p F O D) p.toNat 0 (0, fun i => if i = 0 then 1 else 0) hdn
    have h2 : smT p.toNat (mDt p F O D) ≤ smT p.toNat (axS O) := smT_mo (fun i hi => by
      unfold mDt
      split
      · exact axS_nn O i
      · exact mDp_le hp hO (by omega))
    have e1 : (undA p (mDt p F O D) p.toNat 0 (0, fun i => if i = 0 then 1 else 0)).1 = (mUn p F O D).1 := rfl
    rw [e1, Nat.zero_add] at h1
    have e2 : smT 0 (mDt p F O D) = 0 := rfl
    rw [e2] at h1
    have h1 : ((mUn p F O D).1 : Int) = ((0 : Nat) : Int) + (smT p.toNat (mDt p F O D) - 0) := h1
    omega
  · have h1 := mRx_2 hp (F := F) (D := D) (g := (gen F).toNat) (mo := mMo p F fr O D) hO p.toNat 0 (fun _ _ => 0, 0) (by omega)
    rw [Nat.zero_add] at h1
    have h1 : ((mRw p F O D (mMo p F fr O D)).2 : Int) + 0 ≤ ((0 : Nat) : Int) + smT p.toNat (axS O) := h1
    omega
theorem ab_upf {O : Nat → Int} {i : Nat} {v : Int} (hi : i < 169) : smT 169 (abF (upf O i v)) = smT 169 (abF O) + (abF (upf O i v) i - abF O i) := by
  have e : abF (upf O i v) = upf (abF O) i ((v.natAbs : Int)) := funext fun j => by
    unfold abF upf
    split <;> rfl
  rw [e, smT_upf hi, upf_at]
theorem mOf_ab {r : Nat → Int} {t : Int} (hr : SumR r) (ht : t = 1 ∨ t = -1) : ∀ i : Nat, i ≤ 8 → smT 169 (abF (mOf r t i)) ≤ 5 * i
  | 0, _ => by
    have : ∀ n : Nat, smT n (abF (mOf r t 0)) = 0 := fun n => by
      induction n with
      | zero => rfl
      | succ n ih => show smT n (abF (mOf r t 0)) + 0 = 0; rw [ih]; rfl
    rw [this]; omega
  | i + 1, h => by
    have h1 := hr.2.2 i (by omega)
    have ih := mOf_ab hr ht i (by omega)
    have e : mOf r t (i + 1) = upf (mOf r t i) (13 * eX r i + eY r i).toNat (mOf r t i (13 * eX r i + eY r i).toNat + t * eO r i) := rfl
    rw [e, ab_upf (by omega)]
    have h2 : abF (upf (mOf r t i) (13 * eX r i + eY r i).toNat (mOf r t i (13 * eX r i + eY r i).toNat + t * eO r i)) (13 * eX r i + eY r i).toNat - abF (mOf r t i) (13 * eX r i + eY r i).toNat ≤ 5 := by
      unfold abF
      rw [upf_at]
      rcases ht with rfl | rfl
      · omega
      · omega
    omega
theorem mTd_01 {r : Nat → Int} : ∀ (i q : Nat), mTd r i q = 0 ∨ mTd r i q = 1
  | 0, _ => Or.inl rfl
  | i + 1, q => by
    show upf (mTd r i) (eX r i).toNat 1 q = 0 ∨ upf (mTd r i) (eX r i).toNat 1 q = 1
    unfold upf
    split
    · exact Or.inr rfl
    · exact mTd_01 i q
theorem RmK_sum {p : Int} (hp : IsP p) {F r : Nat → Int} {t fr : Int} (hr : SumR r) (ht : t = 1 ∨ t = -1) (hfr : -100 ≤ fr ∧ fr ≤ 11) : RmK p F fr (mOf r t (r 0).toNat) (mTd r (r 0).toNat) := by
  have h0 := hr.1
  have := mOf_ab hr ht (r 0).toNat (by omega)
  exact RmK_of hp (by omega) (fun q _ => mTd_01 _ q) hfr
