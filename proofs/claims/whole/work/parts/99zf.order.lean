/-! ===== orders: by series, and by how often numbers are roots ===== -/
theorem mvN_co {R : Type} [Lean.Grind.CommRing R] {p : Int} {co : R → Nat → Int} {c : Int → R} {tp : Nat → R} (hS : SerR p co c tp) {X : Int} {F : Nat → Int} : ∀ (n : Nat) (m : Nat → Int) (s : R), (∀ j, m j = co s j) → ∀ j, mvN p 1 X F n m j = co ((c X + tp 1) ^ n * s + EV c (c X + tp 1) n F) j
  | 0, m, s, h, j => by
    show m j = co ((c X + tp 1) ^ 0 * s + 0) j
    rw [Lean.Grind.Semiring.pow_zero, show (1 : R) * s + 0 = s by grind]
    exact h j
  | n + 1, m, s, h, j => by
    have ih := mvN_co hS (X := X) (F := F) n (mvS p 1 X (F n) m) ((c X + tp 1) * s + c (F n)) (fun j => by
      rw [hS.2.2.2.1, co_th hS, hS.2.2.2.2.2.1]
      unfold mvS npw
      cases j with
      | zero =>
        show (X * m 0 + F n) % p = ((co s 0 * X + 0) % p + F n % p) % p
        rw [Int.add_zero, ← Int.add_emod, h, Int.mul_comm]
      | succ j =>
        show (X * m (j + 1) + 1 * m (j + 1 - 1)) % p = ((co s (j + 1) * X + co s (j + 1 - 1)) % p + 0) % p
        rw [Int.add_zero, Int.emod_emod, h, h, Int.one_mul, Int.mul_comm]) j
    show mvN p 1 X F n (mvS p 1 X (F n) m) j = _
    rw [ih, EV_suc hS.2.1, Lean.Grind.Semiring.pow_succ]
    congr 1
    grind
theorem mvd_co {R : Type} [Lean.Grind.CommRing R] {p : Int} {co : R → Nat → Int} {c : Int → R} {tp : Nat → R} (hS : SerR p co c tp) (X : Int) (F : Nat → Int) (j : Nat) : mvd p 1 X F j = co (EV c (c X + tp 1) 24 F) j := by
  have h := mvN_co hS (X := X) (F := F) 24 (fun _ => 0) 0 (fun j => by
    rw [← hS.2.1.2.2.2.1, hS.2.2.2.2.2.1]
    split <;> rfl) j
  rw [show (c X + tp 1) ^ 24 * (0 : R) + EV c (c X + tp 1) 24 F = EV c (c X + tp 1) 24 F by grind] at h
  exact h
theorem EV_top {R : Type} [Lean.Grind.CommRing R] {p : Int} {co : R → Nat → Int} {c : Int → R} {tp : Nat → R} (hS : SerR p co c tp) {X : Int} : ∀ (n : Nat) (F : Nat → Int) (j : Nat), n ≤ j → co (EV c (c X + tp 1) n F) j = 0
  | 0, F, j, _ => by
    show co (0 : R) j = 0
    rw [← hS.2.1.2.2.2.1, hS.2.2.2.2.2.1]
    split <;> rfl
  | n + 1, F, j, h => by
    show co (c (F 0) + (c X + tp 1) * EV c (c X + tp 1) n (shL F)) j = 0
    rw [hS.2.2.2.1, hS.2.2.2.2.2.1, if_neg (by omega), co_th hS]
    unfold npw
    rw [EV_top hS n (shL F) j (by omega), if_pos (by omega), EV_top hS n (shL F) (j - 1) (by omega)]
    simp
theorem rtS_sum (W : Nat → Int) (n : Nat) : ∀ (m i : Nat) (v : Int), rtS W n m i v = v - smT m (fun q => W (i + q) * W (n - (i + q)))
  | 0, i, v => by show v = v - 0; omega
  | m + 1, i, v => by
    show rtS W n m (i + 1) (v - W i * W (n - i)) = _
    rw [rtS_sum W n m (i + 1), smT_fst]
    show v - W i * W (n - i) - smT m (fun q => W (i + 1 + q) * W (n - (i + 1 + q))) = v - (W (i + 0) * W (n - (i + 0)) + smT m (fun q => W (i + (q + 1)) * W (n - (i + (q + 1)))))
    rw [smT_ext (f := fun q => W (i + 1 + q) * W (n - (i + 1 + q))) (g := fun q => W (i + (q + 1)) * W (n - (i + (q + 1)))) (fun q _ => by rw [show i + 1 + q = i + (q + 1) from by omega]), Nat.add_zero]
    omega
theorem root_sq {R : Type} [Lean.Grind.CommRing R] {p : Int} {co : R → Nat → Int} {c : Int → R} {tp : Nat → R} (hS : SerR p co c tp) {X y : Int} {F : Nat → Int} (dF : Dlt F 6) (hy : 0 < y ∧ y < p) (he : y * y % p = ev p F X) {n : Nat} (hn : n ≤ 95) : cv (mSr p F X y) (mSr p F X y) n % p = co (EV c (c X + tp 1) 24 F) n := by
  have hp := hS.1
  have hr := hp.rg
  have w0 : mSr p F X y 0 = y := rtT_z
  cases n with
  | zero => rw [cv_0, w0, he, ev_co hS (th_0 hS X (Nat.le_refl 1))]
  | succ n =>
    have e := rtT_eq (p := p) (h := inv p (2 * y % p)) (y := y) (M := mvd p 1 X F) (q := n + 1) (by omega) hn
    rw [rtS_sum, Nat.add_sub_cancel] at e
    have e : mSr p F X y (n + 1) = ((if n + 1 < 6 then mvd p 1 X F (n + 1) else 0) - smT n (fun q => mSr p F X y (1 + q) * mSr p F X y (n + 1 - (1 + q)))) % p * inv p (2 * y % p) % p := e
    have ecv : cv (mSr p F X y) (mSr p F X y) (n + 1) = 2 * y * mSr p F X y (n + 1) + smT n (fun q => mSr p F X y (1 + q) * mSr p F X y (n + 1 - (1 + q))) := by
      unfold cv
      rw [smT_fst]
      show mSr p F X y 0 * mSr p F X y (n + 1 - 0) + (smT n (fun i => mSr p F X y (i + 1) * mSr p F X y (n + 1 - (i + 1))) + mSr p F X y (n + 1) * mSr p F X y (n + 1 - (n + 1))) = _
      rw [Nat.sub_self, w0, Nat.sub_zero, smT_ext (f := fun i => mSr p F X y (i + 1) * mSr p F X y (n + 1 - (i + 1))) (g := fun q => mSr p F X y (1 + q) * mSr p F X y (n + 1 - (1 + q))) (fun q _ => by rw [Nat.add_comm 1 q]), Int.mul_comm (mSr p F X y (n + 1)) y, Int.mul_assoc 2]
      omega
    have hv : (if n + 1 < 6 then mvd p 1 X F (n + 1) else 0) = co (EV c (c X + tp 1) 24 F) (n + 1) := by
      split
      · exact mvd_co hS X F (n + 1)
      · rw [EV_bd hS.2.1 _ (show 6 ≤ 24 by decide) dF, EV_top hS 6 F (n + 1) (by omega)]
    rw [hv] at e
    rw [ecv]
    generalize smT n (fun q => mSr p F X y (1 + q) * mSr p F X y (n + 1 - (1 + q))) = s at e ⊢
    generalize mSr p F X y (n + 1) = w at e ⊢
    have hc := hS.2.2.1 (EV c (c X + tp 1) 24 F) (n + 1)
    generalize co (EV c (c X + tp 1) 24 F) (n + 1) = v at e hc ⊢
    have h2 : (2 * y % p * inv p (2 * y % p)) % p = 1 := by
      refine inv_mul hp ⟨?_, (emr _ (by omega)).2⟩
      have : 2 * y % p ≠ 0 := by
        rcases hp with rfl | rfl | rfl | rfl | rfl <;> omega
      have := (emr (2 * y) (show 0 < p by omega)).1
      omega
    generalize inv p (2 * y % p) = h at e h2
    have h3 : 2 * y * w % p = (v - s) % p := by
      rw [mul_md] at e h2
      have e2 : w = (v - s) * h - p * ((v - s) * h / p) := by rw [e]; exact Int.emod_def _ _
      have e3 : 2 * y * h = 1 + p * (2 * y * h / p) := by
        have := Int.emod_def (2 * y * h) p
        omega
      generalize (v - s) * h / p = q at e2
      generalize 2 * y * h / p = k at e3
      have e4 : 2 * y * w = (v - s) + p * ((v - s) * k - 2 * y * q) := by
        rw [e2]
        grind
      rw [e4, Int.add_mul_emod_self_left]
    rw [Int.add_emod, h3, ← Int.add_emod, show v - s + s = v from by omega, Int.emod_eq_of_lt hc.1 hc.2]

theorem z_mul {p : Int} {f g : Nat → Int} (h : (∀ i, f i = 0) ∨ ∀ i, g i = 0) (i : Nat) : pmul p f g i = 0 := by
  rw [pmul_cv]
  unfold cv
  rw [smT_ext (g := fun _ => 0) (fun j _ => by
    show f j * g (i - j) = 0
    rcases h with h | h
    · rw [h, Int.zero_mul]
    · rw [h, Int.mul_zero])]
  have z : ∀ j : Nat, smT j (fun _ => (0 : Int)) = 0 := fun j => by
    induction j with
    | zero => rfl
    | succ j ih => show smT j (fun _ => (0 : Int)) + 0 = 0; rw [ih]; rfl
  rw [z]; rfl
theorem pd_neg {f : Nat → Int} (hf : Fin f) (h : pd f < 0) (i : Nat) : f i = 0 := pd_hi hf i (by omega)
theorem neg_md {p v : Int} (h : 0 < v ∧ v < p) : (-1 * v) % p ≠ 0 := by
  rw [show -1 * v = (p - v) + p * (-1) from by omega, Int.add_mul_emod_self_left, Int.emod_eq_of_lt (by omega) (by omega)]
  omega
/-- the norm's degree -/
theorem nrm_pd {p g : Int} {F A B : Nat → Int} (hF : CF p g F) (jA : InP p A) (dA : Dlt A 5) (jB : InP p B) (dB : Dlt B 3) : InP p (mNr p F A B) ∧ Dlt (mNr p F A B) 10 ∧ pd (mNr p F A B) = max (if pd A < 0 then -1 else 2 * pd A) (if pd B < 0 then -1 else 2 * pd B + 2 * g + 1) := by
  obtain ⟨hp, jF, fF, pF, hg⟩ := hF
  have hr := hp.rg
  have fA := Dlt_fin dA (by decide)
  have fB := Dlt_fin dB (by decide)
  have pA := Dlt_pd dA (by decide)
  have pB := Dlt_pd dB (by decide)
  have iAA : InP p (pmul p A A) := pmul_in (by omega)
  have iBB : InP p (pmul p B B) := pmul_in (by omega)
  have iFB : InP p (pmul p F (pmul p B B)) := pmul_in (by omega)
  have fAA : Fin (pmul p A A) := pmul_fin fA fA (by omega)
  have fBB : Fin (pmul p B B) := pmul_fin fB fB (by omega)
  have uA : 0 ≤ pd A → pd (pmul p A A) = pd A + pd A := fun h => pd_pmul_eq hp fA fA jA jA h h (by omega)
  have uB : 0 ≤ pd B → pd (pmul p B B) = pd B + pd B := fun h => pd_pmul_eq hp fB fB jB jB h h (by omega)
  have zA : pd A < 0 → ∀ i, pmul p A A i = 0 := fun h => z_mul (Or.inl (pd_neg fA h))
  have zB : pd B < 0 → ∀ i, pmul p F (pmul p B B) i = 0 := fun h => z_mul (Or.inr (z_mul (Or.inl (pd_neg fB h))))
  have bBB : pd (pmul p B B) ≤ 4 := by
    by_cases c : 0 ≤ pd B
    · have := uB c; omega
    · have : pd (pmul p B B) ≤ -1 := pd_le (by decide) (fun i _ => z_mul (Or.inl (pd_neg fB (by omega))) i)
      omega
  have fFB : Fin (pmul p F (pmul p B B)) := pmul_fin fF fBB (by omega)
  have uF : 0 ≤ pd B → pd (pmul p F (pmul p B B)) = 2 * g + 1 + (pd B + pd B) := fun h => by
    have h1 := uB h
    have := pd_pmul_eq hp fF fBB jF iBB (by omega) (by omega) (by omega)
    omega
  have inN : InP p (mNr p F A B) := padd_in (by omega)
  have hz : ∀ i : Nat, (pd A < 0 ∨ pd A + pd A < i) → (pd B < 0 ∨ 2 * g + 1 + (pd B + pd B) < i) → mNr p F A B i = 0 := fun i h1 h2 => by
    show (pmul p A A i + -1 * pmul p F (pmul p B B) i) % p = 0
    have e1 : pmul p A A i = 0 := by
      by_cases c : pd A < 0
      · exact zA c i
      · have := uA (by omega)
        exact pd_hi fAA i (by omega)
    have e2 : pmul p F (pmul p B B) i = 0 := by
      by_cases c : pd B < 0
      · exact zB c i
      · have := uF (by omega)
        exact pd_hi fFB i (by omega)
    rw [e1, e2]; simp
  have dN : Dlt (mNr p F A B) 10 := fun i hi => hz i (by omega) (by omega)
  refine ⟨inN, dN, ?_⟩
  by_cases cA : pd A < 0
  · by_cases cB : pd B < 0
    · have : pd (mNr p F A B) ≤ -1 := pd_le (by decide) (fun i _ => hz i (Or.inl cA) (Or.inl cB))
      have h2 := dg_ge (mNr p F A B) 24
      rw [if_pos cA, if_pos cB]
      have h3 : -1 ≤ pd (mNr p F A B) := h2
      omega
    · have e := uF (by omega)
      have l := pd_lead iFB (by omega)
      rw [if_pos cA, if_neg cB, pd_eq (m := (2 * g + 1 + (pd B + pd B)).toNat) (by omega) ?_ (fun i hi => hz i (Or.inl cA) (Or.inr (by omega)))]
      · omega
      · show (pmul p A A _ + -1 * pmul p F (pmul p B B) _) % p ≠ 0
        rw [e] at l
        rw [zA cA, Int.zero_add]
        exact neg_md l
  · have eA := uA (by omega)
    have lA := pd_lead iAA (by omega)
    rw [eA] at lA
    by_cases cB : pd B < 0
    · rw [if_neg cA, if_pos cB, pd_eq (m := (pd A + pd A).toNat) (by omega) ?_ (fun i hi => hz i (Or.inr (by omega)) (Or.inl cB))]
      · omega
      · show (pmul p A A _ + -1 * pmul p F (pmul p B B) _) % p ≠ 0
        rw [zB cB, Int.mul_zero, Int.add_zero, Int.emod_eq_of_lt (by omega) lA.2]
        omega
    · have eF := uF (by omega)
      have lF := pd_lead iFB (by omega)
      rw [eF] at lF
      rw [if_neg cA, if_neg cB]
      by_cases cc : 2 * g + 1 + (pd B + pd B) < pd A + pd A
      · rw [pd_eq (m := (pd A + pd A).toNat) (by omega) ?_ (fun i hi => hz i (Or.inr (by omega)) (Or.inr (by omega)))]
        · omega
        · show (pmul p A A _ + -1 * pmul p F (pmul p B B) _) % p ≠ 0
          rw [pd_hi fFB (pd A + pd A).toNat (by omega), Int.mul_zero, Int.add_zero, Int.emod_eq_of_lt (by omega) lA.2]
          omega
      · rw [pd_eq (m := (2 * g + 1 + (pd B + pd B)).toNat) (by omega) ?_ (fun i hi => hz i (Or.inr (by omega)) (Or.inr (by omega)))]
        · omega
        · show (pmul p A A _ + -1 * pmul p F (pmul p B B) _) % p ≠ 0
          rw [pd_hi fAA (2 * g + 1 + (pd B + pd B)).toNat (by omega), Int.zero_add]
          exact neg_md lF
