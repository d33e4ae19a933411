/-! ===== which powers lead: by functions ===== -/
def Cnd {R : Type} [Lean.Grind.CommRing R] (co : R → Nat → Int) (c : Int → R) (tp : Nat → R) (p : Int) (F O D : Nat → Int) (fA fB : R) : Prop := ∀ x : Nat, (x : Int) < p → D x ≠ 0 → CnX co c tp p F O fA fB x
def TE {R : Type} [Lean.Grind.CommRing R] (co : R → Nat → Int) (c : Int → R) (tp : Nat → R) (p : Int) (F O D : Nat → Int) (g N : Nat) : Prop := ∃ fA fB : R, Dg co fA (N + 1) ∧ co fA N ≠ 0 ∧ Dg co fB (N - g) ∧ Cnd co c tp p F O D fA fB
def TO {R : Type} [Lean.Grind.CommRing R] (co : R → Nat → Int) (c : Int → R) (tp : Nat → R) (p : Int) (F O D : Nat → Int) (g N : Nat) : Prop := ∃ fA fB : R, Dg co fB (N + 1) ∧ co fB N ≠ 0 ∧ Dg co fA (N + g + 1) ∧ Cnd co c tp p F O D fA fB
theorem Cnd.x {R : Type} [Lean.Grind.CommRing R] {p : Int} {co : R → Nat → Int} {c : Int → R} {tp : Nat → R} (hS : SerR p co c tp) {F O D : Nat → Int} {fA fB : R} {n m : Nat} (hA : Dg co fA n) (hB : Dg co fB m) (hn : n ≤ 390) (hm : m ≤ 390) (h : Cnd co c tp p F O D fA fB) : Cnd co c tp p F O D (tp 1 * fA) (tp 1 * fB) := fun x hx hD => by
  have d2 : Dg co (tp 1) 2 := fun i hi => by rw [hS.2.2.2.2.2.2.1, if_neg (by omega)]
  have k := h x hx hD
  have eA : PH co c (c x + tp 1) (tp 1 * fA) = (c x + tp 1) * PH co c (c x + tp 1) fA := by rw [PH_mul hS _ d2 hA (by omega), PH_x hS]
  have eB : PH co c (c x + tp 1) (tp 1 * fB) = (c x + tp 1) * PH co c (c x + tp 1) fB := by rw [PH_mul hS _ d2 hB (by omega), PH_x hS]
  have up : ∀ (a : R) (m : Nat), VZ co a m → VZ co ((c x + tp 1) * a) m := fun a m ha => by
    have := VZ.mul hS (a := c x + tp 1) (m := 0) (fun t ht => by omega) ha
    rwa [Nat.zero_add] at this
  refine ⟨fun e => ?_, fun e y h1 h2 h3 s hs => ?_⟩
  · rw [eA, eB]
    exact ⟨up _ _ (k.1 e).1, up _ _ (k.1 e).2⟩
  · rw [eA, eB, show (c x + tp 1) * PH co c (c x + tp 1) fA + (c x + tp 1) * PH co c (c x + tp 1) fB * s = (c x + tp 1) * (PH co c (c x + tp 1) fA + PH co c (c x + tp 1) fB * s) by grind]
    exact up _ _ (k.2 e y h1 h2 h3 s hs)
theorem tp_Dg {R : Type} [Lean.Grind.CommRing R] {p : Int} {co : R → Nat → Int} {c : Int → R} {tp : Nat → R} (hS : SerR p co c tp) {a : R} {n : Nat} (h : Dg co a n) : Dg co (tp 1 * a) (n + 1) ∧ (n = 0 → Dg co (tp 1 * a) 0) := by
  refine ⟨fun i hi => ?_, fun e i _ => ?_⟩
  · rw [co_t hS, if_pos (by omega)]; exact h (i - 1) (by omega)
  · rw [co_t hS]
    split
    · exact h _ (by omega)
    · rfl
theorem TE.up {R : Type} [Lean.Grind.CommRing R] {p : Int} {co : R → Nat → Int} {c : Int → R} {tp : Nat → R} (hS : SerR p co c tp) {F O D : Nat → Int} {g N : Nat} (hN : N ≤ 380) (h : TE co c tp p F O D g N) : TE co c tp p F O D g (N + 1) := by
  obtain ⟨fA, fB, h1, h2, h3, h4⟩ := h
  refine ⟨tp 1 * fA, tp 1 * fB, (tp_Dg hS h1).1, ?_, ?_, h4.x hS h1 h3 (by omega) (by omega)⟩
  · rw [co_t hS, if_pos (by omega), Nat.add_sub_cancel]; exact h2
  · by_cases e : N < g
    · exact ((tp_Dg hS h3).2 (by omega)).le (Nat.zero_le _)
    · exact (tp_Dg hS h3).1.le (by omega)
theorem TO.up {R : Type} [Lean.Grind.CommRing R] {p : Int} {co : R → Nat → Int} {c : Int → R} {tp : Nat → R} (hS : SerR p co c tp) {F O D : Nat → Int} {g N : Nat} (hN : N + g ≤ 380) (h : TO co c tp p F O D g N) : TO co c tp p F O D g (N + 1) := by
  obtain ⟨fA, fB, h1, h2, h3, h4⟩ := h
  refine ⟨tp 1 * fA, tp 1 * fB, (tp_Dg hS h1).1, ?_, ((tp_Dg hS h3).1).le (by omega), h4.x hS h3 h1 (by omega) (by omega)⟩
  rw [co_t hS, if_pos (by omega), Nat.add_sub_cancel]; exact h2
/-- a bound from which on they lead -/
theorem from_on {P : Nat → Prop} : ∀ B : Nat, (∀ N : Nat, N < B → P N → P (N + 1)) → ∃ N0 : Nat, N0 ≤ B + 1 ∧ ∀ N : Nat, N ≤ B → (P N ↔ N0 ≤ N)
  | 0, _ => by
    by_cases c : P 0
    · exact ⟨0, by omega, fun N hN => by rw [show N = 0 from by omega]; exact ⟨fun _ => Nat.le_refl 0, fun _ => c⟩⟩
    · exact ⟨1, by omega, fun N hN => by rw [show N = 0 from by omega]; exact ⟨fun h => absurd h c, fun h => by omega⟩⟩
  | B + 1, h => by
    obtain ⟨N0, n1, n2⟩ := from_on B (fun N hN => h N (by omega))
    by_cases c : P (B + 1)
    · refine ⟨N0, by omega, fun N hN => ?_⟩
      by_cases e : N = B + 1
      · rw [e]; exact ⟨fun _ => n1, fun _ => c⟩
      · exact n2 N (by omega)
    · refine ⟨B + 2, by omega, fun N hN => ?_⟩
      by_cases e : N = B + 1
      · rw [e]; exact ⟨fun h => absurd h c, fun h => by omega⟩
      · refine ⟨fun k => ?_, fun k => by omega⟩
        exfalso
        have up : ∀ d : Nat, N + d ≤ B + 1 → P (N + d) := fun d => by
          induction d with
          | zero => exact fun _ => k
          | succ d ih => exact fun hd => h (N + d) (by omega) (ih (by omega))
        have := up (B + 1 - N) (by omega)
        rw [show N + (B + 1 - N) = B + 1 from by omega] at this
        exact c this
/-- a lead of the reference's lines is a function with that pole -/
theorem lead_T {R : Type} [Lean.Grind.CommRing R] {p : Int} {co : R → Nat → Int} {c : Int → R} {tp : Nat → R} (hS : SerR p co c tp) {F O D : Nat → Int} {po : Nat} (hpo : po ≤ 700) {L : Nat} (hL : L ≤ po) : (slvN p (gen F).toNat po (mRw p F O D (po : Int)).2 (mRw p F O D (po : Int)).1 (po + 1)).2.2.1 L = -1 ↔ ((L % 2 = 0 ∧ TE co c tp p F O D (gen F).toNat (L / 2)) ∨ (L % 2 = 1 ∧ 2 * (gen F).toNat + 1 ≤ L ∧ TO co c tp p F O D (gen F).toNat ((L - 2 * (gen F).toNat - 1) / 2))) := by
  have hp := hS.1
  have hr := hp.rg
  obtain ⟨g, hg⟩ : ∃ g : Nat, (gen F).toNat = g := ⟨_, rfl⟩
  have k : LqK p (gen F).toNat (po : Int) (mRw p F O D (po : Int)) := mRx_k (by omega) (by omega) p.toNat 0 _ (fun q j => ⟨⟨Int.le_refl 0, by show (0 : Int) < p; omega⟩, fun _ => rfl, fun _ => rfl⟩)
  have m2 : MOkk p (gen F).toNat po (mRw p F O D (po : Int)).2 (mRw p F O D (po : Int)).1 := fun i _ j _ => ⟨(k i j).1, fun h => (k i j).2.2 h⟩
  obtain ⟨a1, a2, a3, a4⟩ := slv_all hp m2 (po + 1) (Nat.le_refl _)
  rw [lead_iff hp a1 a2 hL]
  rw [hg] at a1 a2 a3 a4 ⊢
  have rows : ∀ (v : Nat → Int) (fA fB : R), (∀ i, co fA i = v (2 * i)) → (∀ i, co fB i = v (2 * i + 2 * g + 1)) → (∀ j : Nat, (po < j ∨ ill g j) → v j = 0) → (RowsOK p po (mRw p F O D (po : Int)) v ↔ Cnd co c tp p F O D fA fB) := fun v fA fB hA hB hv => by
    unfold mRw
    rw [hg, mRx_ok hS hA hB hv hpo]
    constructor
    · rintro ⟨-, h⟩ x hx hD
      exact h x (Nat.zero_le x) (by omega) hD
    · intro h
      exact ⟨fun q hq => by have hq : q < 0 := hq; omega, fun x _ hx hD => h x (by omega) hD⟩
  constructor
  · rintro ⟨v, v1, v2, v3⟩
    have v1 := (a3 v).mpr v1
    obtain ⟨fA, hA⟩ := hS.2.2.2.2.2.2.2.2 (fun i => v (2 * i)) (fun i => v1.1 _)
    obtain ⟨fB, hB⟩ := hS.2.2.2.2.2.2.2.2 (fun i => v (2 * i + 2 * g + 1)) (fun i => v1.1 _)
    have hc := (rows v fA fB hA hB v1.2.1).mp v1.2.2
    by_cases e : L % 2 = 0
    · refine Or.inl ⟨e, fA, fB, fun i hi => by rw [hA]; exact v3 _ (by omega), by rw [hA, show 2 * (L / 2) = L from by omega]; exact v2, fun i hi => by rw [hB]; exact v3 _ (by omega), hc⟩
    · have hl : 2 * g + 1 ≤ L := by
        by_cases c1 : 2 * g + 1 ≤ L
        · exact c1
        · exact absurd (v1.2.1 L (Or.inr ⟨by omega, by omega⟩)) v2
      refine Or.inr ⟨by omega, hl, fA, fB, fun i hi => by rw [hB]; exact v3 _ (by omega), by rw [hB, show 2 * ((L - 2 * g - 1) / 2) + 2 * g + 1 = L from by omega]; exact v2, fun i hi => by rw [hA]; exact v3 _ (by omega), hc⟩
  · intro h
    have mk : ∀ (fA fB : R), (∀ i : Nat, L < 2 * i → co fA i = 0) → (∀ i : Nat, L < 2 * i + 2 * g + 1 → co fB i = 0) → Cnd co c tp p F O D fA fB → (if L % 2 = 0 then co fA (L / 2) else if 2 * g + 1 ≤ L then co fB ((L - 2 * g - 1) / 2) else 0) ≠ 0 → ∃ v : Nat → Int, Ker p g po (mRw p F O D (po : Int)).2 (slvN p g po (mRw p F O D (po : Int)).2 (mRw p F O D (po : Int)).1 (po + 1)).1 v ∧ v L ≠ 0 ∧ ∀ j : Nat, L < j → v j = 0 := fun fA fB zA zB hc hL0 => by
      obtain ⟨v, hv⟩ : ∃ v : Nat → Int, v = fun j => if j % 2 = 0 then co fA (j / 2) else if 2 * g + 1 ≤ j then co fB ((j - 2 * g - 1) / 2) else 0 := ⟨_, rfl⟩
      have hvj : ∀ j, v j = if j % 2 = 0 then co fA (j / 2) else if 2 * g + 1 ≤ j then co fB ((j - 2 * g - 1) / 2) else 0 := fun j => by rw [hv]
      have hA : ∀ i, co fA i = v (2 * i) := fun i => by rw [hvj, if_pos (by omega), show 2 * i / 2 = i from by omega]
      have hB : ∀ i, co fB i = v (2 * i + 2 * g + 1) := fun i => by rw [hvj, if_neg (by omega), if_pos (by omega), show (2 * i + 2 * g + 1 - 2 * g - 1) / 2 = i from by omega]
      have hz : ∀ j : Nat, L < j → v j = 0 := fun j hj => by
        rw [hvj]
        split
        · exact zA _ (by omega)
        · split
          · exact zB _ (by omega)
          · rfl
      have hs : ∀ j : Nat, (po < j ∨ ill g j) → v j = 0 := fun j hj => by
        rcases hj with hj | hj
        · exact hz j (by omega)
        · have h1 := hj.1
          have h2 := hj.2
          rw [hvj, if_neg (by omega), if_neg (by omega)]
      refine ⟨v, (a3 v).mp ⟨fun j => ?_, hs, (rows v fA fB hA hB hs).mpr hc⟩, by rw [hvj]; exact hL0, hz⟩
      rw [hvj]
      split
      · exact hS.2.2.1 _ _
      · split
        · exact hS.2.2.1 _ _
        · omega
    rcases h with ⟨e, fA, fB, h1, h2, h3, h4⟩ | ⟨e, el, fA, fB, h1, h2, h3, h4⟩
    · exact mk fA fB (fun i hi => h1 i (by omega)) (fun i hi => h3 i (by omega)) h4 (by rw [if_pos e]; exact h2)
    · exact mk fA fB (fun i hi => h3 i (by omega)) (fun i hi => h1 i (by omega)) h4 (by rw [if_neg (by omega), if_pos el]; exact h2)
/-- leads, pivots and columns that none has are all columns -/
theorem slv_cnt {p : Int} {g po u : Nat} {M : Nat → Nat → Int} : ∀ c : Nat, (slvN p g po u M c).2.2.2.2 + (slvN p g po u M c).2.1 + min (c / 2) g = c
  | 0 => by show 0 + 0 + min (0 / 2) g = 0; omega
  | c + 1 => by
    have ih := slv_cnt (p := p) (g := g) (po := po) (u := u) (M := M) c
    show (slvS p g po u c (slvN p g po u M c)).2.2.2.2 + (slvS p g po u c (slvN p g po u M c)).2.1 + min ((c + 1) / 2) g = c + 1
    generalize slvN p g po u M c = w at *
    by_cases hi : c % 2 = 1 ∧ c < 2 * g + 1
    · rw [slvS_m hi]
      show w.2.2.2.2 + w.2.1 + _ = _
      omega
    · cases hf : fstL w.1 c (u - w.2.1) w.2.1 with
      | none =>
        rw [slvS_n hi hf]
        show w.2.2.2.2 + 1 + w.2.1 + _ = _
        omega
      | some l =>
        rw [slvS_s hi hf]
        show w.2.2.2.2 + (w.2.1 + 1) + _ = _
        omega
theorem enL_cnt {pv : Nat → Int} {g N0 N1 : Nat} : ∀ n : Nat, (∀ j : Nat, j < n → (pv j = -1 ↔ ((j % 2 = 0 ∧ N0 ≤ j / 2) ∨ (j % 2 = 1 ∧ 2 * g + 1 ≤ j ∧ N1 ≤ (j - 2 * g - 1) / 2)))) → ((enL pv n).2 : Int) = max 0 (((n : Int) + 1) / 2 - N0) + max 0 (((n : Int) - 2 * g) / 2 - N1)
  | 0, _ => by show (0 : Int) = _; omega
  | n + 1, h => by
    have ih := enL_cnt (pv := pv) (g := g) (N0 := N0) (N1 := N1) n (fun j hj => h j (by omega))
    have hn := h n (by omega)
    unfold enL
    by_cases c : pv n = -1
    · rw [if_pos c]
      show (((enL pv n).2 + 1 : Nat) : Int) = _
      have := hn.mp c
      omega
    · rw [if_neg c]
      have : ¬ ((n % 2 = 0 ∧ N0 ≤ n / 2) ∨ (n % 2 = 1 ∧ 2 * g + 1 ≤ n ∧ N1 ≤ (n - 2 * g - 1) / 2)) := fun e => c (hn.mpr e)
      omega
