/-! ===== lines as what is asked at the points ===== -/
theorem row_dot {R : Type} [Lean.Grind.CommRing R] {p : Int} {co : R → Nat → Int} {c : Int → R} {tp : Nat → R} (hS : SerR p co c tp) {θ a b fA fB : R} {g po : Nat} {v : Nat → Int} {P Y : Nat → Nat → Int} {q : Nat} (hP : ∀ i, P i q = co (θ ^ i * a) q) (hY : ∀ i, Y i q = co (θ ^ i * b) q) (hA : ∀ i, co fA i = v (2 * i)) (hB : ∀ i, co fB i = v (2 * i + 2 * g + 1)) (hv : ∀ j : Nat, (po < j ∨ ill g j) → v j = 0) (hpo : po ≤ 700) : dotS po (askW P Y g (po : Int) (pwN (po : Int)) q) v % p = co (PH co c θ fA * a + PH co c θ fB * b) q := by
  have hw : pwN (po : Int) = (po + 2) / 2 := by unfold pwN; omega
  have key : ∀ n : Nat, n ≤ po + 1 → smT n (fun j => askW P Y g (po : Int) (pwN (po : Int)) q j * v j) % p = co (EV c θ ((n + 1) / 2) (co fA) * a + EV c θ ((n - 2 * g) / 2) (co fB) * b) q := by
    intro n
    induction n with
    | zero =>
      intro _
      show (0 : Int) % p = co (EV c θ 0 (co fA) * a + EV c θ ((0 - 2 * g) / 2) (co fB) * b) q
      rw [show (0 - 2 * g) / 2 = 0 from by omega]
      show (0 : Int) % p = co ((0 : R) * a + 0 * b) q
      rw [show (0 : R) * a + 0 * b = 0 by grind, co_0 hS]; rfl
    | succ n ih =>
      intro hn
      have ih := ih (by omega)
      show (smT n (fun j => askW P Y g (po : Int) (pwN (po : Int)) q j * v j) + askW P Y g (po : Int) (pwN (po : Int)) q n * v n) % p = _
      rw [← Int.emod_add_emod, ih]
      by_cases c1 : n % 2 = 0
      · have e1 : askW P Y g (po : Int) (pwN (po : Int)) q n = P (n / 2) q := by
          unfold askW
          rw [if_pos c1, if_pos (by rw [hw]; omega)]
        rw [e1, hP, show (n + 1 + 1) / 2 = n / 2 + 1 from by omega, show (n + 1) / 2 = n / 2 from by omega, show (n + 1 - 2 * g) / 2 = (n - 2 * g) / 2 from by omega, EV_suc hS.2.1, hA, show 2 * (n / 2) = n from by omega]
        rw [show (EV c θ (n / 2) (co fA) + c (v n) * θ ^ (n / 2)) * a + EV c θ ((n - 2 * g) / 2) (co fB) * b = (EV c θ (n / 2) (co fA) * a + EV c θ ((n - 2 * g) / 2) (co fB) * b) + c (v n) * (θ ^ (n / 2) * a) by grind]
        generalize EV c θ (n / 2) (co fA) * a + EV c θ ((n - 2 * g) / 2) (co fB) * b = E0
        rw [hS.2.2.2.1, co_c hS, Int.add_emod_emod, Int.mul_comm (v n)]
      · by_cases c2 : n < 2 * g + 1
        · rw [hv n (Or.inr ⟨by omega, c2⟩), Int.mul_zero, Int.add_zero, show (n + 1 + 1) / 2 = (n + 1) / 2 from by omega, show (n + 1 - 2 * g) / 2 = (n - 2 * g) / 2 from by omega]
          exact Int.emod_eq_of_lt (hS.2.2.1 _ q).1 (hS.2.2.1 _ q).2
        · have e1 : askW P Y g (po : Int) (pwN (po : Int)) q n = Y ((n - 2 * g - 1) / 2) q := by
            unfold askW
            rw [if_neg c1, if_pos ⟨by omega, by omega, by rw [hw]; omega⟩]
          rw [e1, hY, show (n + 1 + 1) / 2 = (n + 1) / 2 from by omega, show (n + 1 - 2 * g) / 2 = (n - 2 * g - 1) / 2 + 1 from by omega, show (n - 2 * g) / 2 = (n - 2 * g - 1) / 2 from by omega, EV_suc hS.2.1, hB, show 2 * ((n - 2 * g - 1) / 2) + 2 * g + 1 = n from by omega]
          rw [show EV c θ ((n + 1) / 2) (co fA) * a + (EV c θ ((n - 2 * g - 1) / 2) (co fB) + c (v n) * θ ^ ((n - 2 * g - 1) / 2)) * b = (EV c θ ((n + 1) / 2) (co fA) * a + EV c θ ((n - 2 * g - 1) / 2) (co fB) * b) + c (v n) * (θ ^ ((n - 2 * g - 1) / 2) * b) by grind]
          generalize EV c θ ((n + 1) / 2) (co fA) * a + EV c θ ((n - 2 * g - 1) / 2) (co fB) * b = E0
          rw [hS.2.2.2.1, co_c hS, Int.add_emod_emod, Int.mul_comm (v n)]
  have h := key (po + 1) (Nat.le_refl _)
  unfold dotS PH
  rw [h, EV_bd hS.2.1 θ (n := (po + 1 + 1) / 2) (m := 400) (by omega) (fun i hi => by rw [hA]; exact hv _ (Or.inl (by omega))), EV_bd hS.2.1 θ (n := (po + 1 - 2 * g) / 2) (m := 400) (by omega) (fun i hi => by rw [hB]; exact hv _ (Or.inl (by omega)))]
def RowsOK (p : Int) (po : Nat) (W : Lq) (v : Nat → Int) : Prop := ∀ q : Nat, q < W.2 → dotS po (W.1 q) v % p = 0
theorem app_ok {p : Int} {po : Nat} {W W' : Lq} {n : Nat} {Q : Nat → Nat → Int} (h : AppR W W' n Q) (v : Nat → Int) : RowsOK p po W' v ↔ RowsOK p po W v ∧ ∀ t : Nat, t < n → dotS po (Q t) v % p = 0 := by
  obtain ⟨h1, h2, h3⟩ := h
  constructor
  · intro k
    refine ⟨fun q hq => ?_, fun t ht => ?_⟩
    · have := k q (by omega)
      rw [show W'.1 q = W.1 q from funext fun j => h2 q j hq] at this
      exact this
    · have := k (W.2 + t) (by omega)
      rw [show W'.1 (W.2 + t) = Q t from funext fun j => h3 t j ht] at this
      exact this
  · rintro ⟨k1, k2⟩ q hq
    by_cases c : q < W.2
    · rw [show W'.1 q = W.1 q from funext fun j => h2 q j c]
      exact k1 q c
    · have := k2 (q - W.2) (by omega)
      rw [← show W'.1 (W.2 + (q - W.2)) = Q (q - W.2) from funext fun j => h3 _ j (by omega), show W.2 + (q - W.2) = q from by omega] at this
      exact this
/-- what is asked over X -/
def CnX {R : Type} [Lean.Grind.CommRing R] (co : R → Nat → Int) (c : Int → R) (tp : Nat → R) (p : Int) (F O : Nat → Int) (fA fB : R) (X : Int) : Prop :=
  (ev p F X = 0 → VZ co (PH co c (c X + tp 1) fA) (Int.tdiv (2 * mDp p F O X - O (13 * X).toNat + 1) 2).toNat ∧ VZ co (PH co c (c X + tp 1) fB) (Int.tdiv (2 * mDp p F O X - O (13 * X).toNat) 2).toNat) ∧
  (ev p F X ≠ 0 → ∀ y : Int, 1 ≤ y → y < p → y * y % p = ev p F X → ∀ s : R, (∀ i, co s i = mSr p F X y i) → VZ co (PH co c (c X + tp 1) fA + PH co c (c X + tp 1) fB * s) (mDp p F O X - O (13 * X + y).toNat).toNat)
theorem sort_ok {R : Type} [Lean.Grind.CommRing R] {p : Int} {co : R → Nat → Int} {c : Int → R} {tp : Nat → R} (hS : SerR p co c tp) {fA fB s : R} {g po : Nat} {v S : Nat → Int} (hA : ∀ i, co fA i = v (2 * i)) (hB : ∀ i, co fB i = v (2 * i + 2 * g + 1)) (hv : ∀ j : Nat, (po < j ∨ ill g j) → v j = 0) (hpo : po ≤ 700) (X : Int) (q : Nat) : ((∀ i, co s i = S i) → dotS po (fun j => askW (wtP p X 0) (wtY p X S 0) g (po : Int) (pwN (po : Int)) q j) v % p = co (PH co c (c X + tp 1) fA + PH co c (c X + tp 1) fB * s) q) ∧ dotS po (fun j => askW (wtP p X 1) (wtY p X S 1) g (po : Int) (pwN (po : Int)) q j) v % p = co (PH co c (c X + tp 1) fA) q ∧ dotS po (fun j => askW (wtP p X 2) (wtY p X S 2) g (po : Int) (pwN (po : Int)) q j) v % p = co (PH co c (c X + tp 1) fB) q := by
  have n1 : ∀ i, npI p X i q = co ((c X + tp 1) ^ i * 1) q := fun i => by rw [show (c X + tp 1) ^ i * (1 : R) = (c X + tp 1) ^ i by grind]; exact npI_co hS X i q
  have n0 : ∀ i : Nat, (0 : Int) = co ((c X + tp 1) ^ i * 0) q := fun i => by rw [show (c X + tp 1) ^ i * (0 : R) = 0 by grind, co_0 hS]
  refine ⟨fun hs => ?_, ?_, ?_⟩
  · have h := row_dot hS (θ := c X + tp 1) (a := 1) (b := s) (P := wtP p X 0) (Y := wtY p X S 0) (q := q) n1 (fun i => by
      show pmul p (npI p X i) S q = _
      rw [pmul_cv, hS.2.2.2.2.1, show npI p X i = co ((c X + tp 1) ^ i) from funext (npI_co hS X i), show S = co s from (funext hs).symm]) hA hB hv hpo
    rw [show PH co c (c X + tp 1) fA * (1 : R) = PH co c (c X + tp 1) fA by grind] at h
    exact h
  · have h := row_dot hS (θ := c X + tp 1) (a := 1) (b := 0) (P := wtP p X 1) (Y := wtY p X S 1) (q := q) n1 n0 hA hB hv hpo
    rw [show PH co c (c X + tp 1) fA * (1 : R) + PH co c (c X + tp 1) fB * 0 = PH co c (c X + tp 1) fA by grind] at h
    exact h
  · have h := row_dot hS (θ := c X + tp 1) (a := 0) (b := 1) (P := wtP p X 2) (Y := wtY p X S 2) (q := q) n0 n1 hA hB hv hpo
    rw [show PH co c (c X + tp 1) fA * (0 : R) + PH co c (c X + tp 1) fB * 1 = PH co c (c X + tp 1) fB by grind] at h
    exact h
theorem mCy_ok {R : Type} [Lean.Grind.CommRing R] {p : Int} {co : R → Nat → Int} {c : Int → R} {tp : Nat → R} (hS : SerR p co c tp) {F O : Nat → Int} {fA fB : R} {g po : Nat} {v : Nat → Int} (hA : ∀ i, co fA i = v (2 * i)) (hB : ∀ i, co fB i = v (2 * i + 2 * g + 1)) (hv : ∀ j : Nat, (po < j ∨ ill g j) → v j = 0) (hpo : po ≤ 700) (X : Int) : ∀ (m : Nat) (y : Int) (W : Lq), 0 ≤ y → y + m ≤ p → (RowsOK p po (mCy p F O g (po : Int) X (mDp p F O X) m y W) v ↔ RowsOK p po W v ∧ ∀ z : Int, y ≤ z → z < y + m → z * z % p = ev p F X → ∀ s : R, (∀ i, co s i = mSr p F X z i) → VZ co (PH co c (c X + tp 1) fA + PH co c (c X + tp 1) fB * s) (mDp p F O X - O (13 * X + z).toNat).toNat)
  | 0, y, W, _, _ => ⟨fun h => ⟨h, fun z h1 h2 => by omega⟩, fun h => h.1⟩
  | m + 1, y, W, h0, hm => by
    show RowsOK p po (mCy p F O g (po : Int) X (mDp p F O X) m (y + 1) (if y * y % p = ev p F X then wtM p g (po : Int) X (mSr p F X y) 0 (mDp p F O X - O (13 * X + y).toNat).toNat W else W)) v ↔ _
    rw [mCy_ok hS hA hB hv hpo X m (y + 1) _ (by omega) (by omega)]
    have hr := hS.1.rg
    by_cases cy : y * y % p = ev p F X
    · rw [if_pos cy, app_ok wtM_app]
      obtain ⟨s0, hs0⟩ := hS.2.2.2.2.2.2.2.2 (mSr p F X y) (fun i => rtT_rg (by omega) ⟨h0, by omega⟩ 95 i)
      constructor
      · rintro ⟨⟨k1, k2⟩, k3⟩
        refine ⟨k1, fun z h1 h2 h3 s hs t ht => ?_⟩
        by_cases cz : z = y
        · subst cz
          rw [← (sort_ok hS hA hB hv hpo X t (s := s) (S := mSr p F X z)).1 hs]
          exact k2 t ht
        · exact k3 z (by omega) (by omega) h3 s hs t ht
      · rintro ⟨k1, k2⟩
        refine ⟨⟨k1, fun t ht => ?_⟩, fun z h1 h2 h3 => k2 z (by omega) (by omega) h3⟩
        have := (sort_ok hS hA hB hv hpo X t (s := s0) (S := mSr p F X y)).1 hs0
        show dotS po (fun j => askW (wtP p X 0) (wtY p X (mSr p F X y) 0) g (po : Int) (pwN (po : Int)) t j) v % p = 0
        rw [this]
        exact k2 y (Int.le_refl y) (by omega) cy s0 hs0 t ht
    · rw [if_neg cy]
      refine and_congr_right (fun _ => ⟨fun k z h1 h2 h3 => ?_, fun k z h1 h2 h3 => k z (by omega) (by omega) h3⟩)
      by_cases cz : z = y
      · subst cz; exact absurd h3 cy
      · exact k z (by omega) (by omega) h3
theorem mRx_ok {R : Type} [Lean.Grind.CommRing R] {p : Int} {co : R → Nat → Int} {c : Int → R} {tp : Nat → R} (hS : SerR p co c tp) {F O D : Nat → Int} {fA fB : R} {g po : Nat} {v : Nat → Int} (hA : ∀ i, co fA i = v (2 * i)) (hB : ∀ i, co fB i = v (2 * i + 2 * g + 1)) (hv : ∀ j : Nat, (po < j ∨ ill g j) → v j = 0) (hpo : po ≤ 700) : ∀ (m q : Nat) (W : Lq), RowsOK p po (mRx p F O D g (po : Int) m q W) v ↔ RowsOK p po W v ∧ ∀ x : Nat, q ≤ x → x < q + m → D x ≠ 0 → CnX co c tp p F O fA fB x
  | 0, q, W => ⟨fun h => ⟨h, fun x h1 h2 => by omega⟩, fun h => h.1⟩
  | m + 1, q, W => by
    have hr := hS.1.rg
    show RowsOK p po (mRx p F O D g (po : Int) m (q + 1) (if D q = 0 then W else mCd p F O g (po : Int) q W)) v ↔ _
    rw [mRx_ok hS hA hB hv hpo m (q + 1)]
    have fin : ∀ (A B : Prop), (A ↔ B ∧ (D q ≠ 0 → CnX co c tp p F O fA fB q)) → ((A ∧ ∀ x : Nat, q + 1 ≤ x → x < q + 1 + m → D x ≠ 0 → CnX co c tp p F O fA fB x) ↔ (B ∧ ∀ x : Nat, q ≤ x → x < q + (m + 1) → D x ≠ 0 → CnX co c tp p F O fA fB x)) := fun A B h => by
      rw [h]
      constructor
      · rintro ⟨⟨k1, k2⟩, k3⟩
        refine ⟨k1, fun x h1 h2 h3 => ?_⟩
        by_cases cx : x = q
        · rw [cx] at h3 ⊢; exact k2 h3
        · exact k3 x (by omega) (by omega) h3
      · rintro ⟨k1, k2⟩
        exact ⟨⟨k1, k2 q (Nat.le_refl q) (by omega)⟩, fun x h1 h2 => k2 x (by omega) (by omega)⟩
    apply fin
    by_cases hD : D q = 0
    · rw [if_pos hD]
      exact ⟨fun h => ⟨h, fun e => absurd hD e⟩, fun h => h.1⟩
    · rw [if_neg hD]
      unfold mCd CnX
      by_cases ce : ev p F (q : Int) = 0
      · rw [if_pos ce, app_ok wtM_app, app_ok wtM_app]
        have so := fun t => (sort_ok hS hA hB hv hpo (q : Int) t (s := (0 : R)) (S := fun _ => 0)).2
        constructor
        · rintro ⟨⟨k1, k2⟩, k3⟩
          exact ⟨k1, fun _ => ⟨fun _ => ⟨fun t ht => by rw [← (so t).1]; exact k2 t ht, fun t ht => by rw [← (so t).2]; exact k3 t ht⟩, fun h => absurd ce h⟩⟩
        · rintro ⟨k1, k2⟩
          obtain ⟨a1, a2⟩ := (k2 hD).1 ce
          exact ⟨⟨k1, fun t ht => by have := a1 t ht; rw [← (so t).1] at this; exact this⟩, fun t ht => by have := a2 t ht; rw [← (so t).2] at this; exact this⟩
      · rw [if_neg ce, mCy_ok hS hA hB hv hpo (q : Int) (p.toNat - 1) 1 W (by omega) (by omega)]
        constructor
        · rintro ⟨k1, k2⟩
          exact ⟨k1, fun _ => ⟨fun h => absurd h ce, fun _ y h1 h2 h3 s hs => k2 y h1 (by omega) h3 s hs⟩⟩
        · rintro ⟨k1, k2⟩
          exact ⟨k1, fun z h1 h2 h3 s hs => (k2 hD).2 ce z h1 (by omega) h3 s hs⟩
