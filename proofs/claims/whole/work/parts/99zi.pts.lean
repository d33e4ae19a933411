/-! ===== points by numbers and by x, y; depths ===== -/
theorem rowY_nd {p v x : Int} : ∀ (m : Nat) (y : Int), (rowY p v x m y).Nodup
  | 0, _ => List.nodup_nil
  | m + 1, y => by
    unfold rowY
    split
    · refine List.nodup_cons.mpr ⟨fun h => ?_, rowY_nd m (y + 1)⟩
      have := (rowY_mem m (y + 1) _ h).2.1
      have : y + 1 ≤ y := this
      omega
    · exact rowY_nd m (y + 1)
theorem colX_nd {p : Int} (hp : 0 ≤ p) {F : Nat → Int} : ∀ (m : Nat) (x : Int), (colX p F m x).Nodup
  | 0, _ => List.nodup_nil
  | m + 1, x => by
    unfold colX
    refine List.nodup_append.mpr ⟨rowY_nd _ _, colX_nd hp m (x + 1), fun a ha b hb e => ?_⟩
    have h1 := (rowY_mem _ _ _ ha).1
    have h2 := (colX_mem hp _ _ _ hb).1.1
    rw [← e, h1] at h2
    omega
theorem nd_get {α : Type} {l : List α} (h : l.Nodup) {i j : Nat} {d : α} (hi : i < l.length) (hj : j < l.length) (e : l.getD i d = l.getD j d) : i = j := by
  rw [List.getD_eq_getElem?_getD, List.getD_eq_getElem?_getD, List.getElem?_eq_getElem hi, List.getElem?_eq_getElem hj] at e
  have e : l[i] = l[j] := e
  have hp := List.pairwise_iff_getElem.mp h
  rcases Nat.lt_trichotomy i j with c | c | c
  · exact absurd e (hp i j hi hj c)
  · exact c
  · exact absurd e.symm (hp j i hj hi c)
theorem pall_pts {p : Int} {F : Nat → Int} {k : Nat} (hk : k < (pts p F).length) : (pall p F).getD k (0, 0) = (pts p F).getD k (0, 0) := by
  unfold pall
  rw [getD_app, if_pos hk]
theorem pall_last {p : Int} {F : Nat → Int} : (pall p F).getD (pts p F).length (0, 0) = (-2, -2) := by
  unfold pall
  rw [getD_app, if_neg (Nat.lt_irrefl _), if_pos rfl]
theorem pall_le {p : Int} {F : Nat → Int} : (pall p F).length = (pts p F).length + 1 := by unfold pall; rw [List.length_append]; rfl
theorem pts_inj {p : Int} (hp : 0 ≤ p) {F : Nat → Int} {i j : Nat} (hi : i < (pts p F).length) (hj : j < (pts p F).length) (h1 : ((pall p F).getD i (0, 0)).1 = ((pall p F).getD j (0, 0)).1) (h2 : ((pall p F).getD i (0, 0)).2 = ((pall p F).getD j (0, 0)).2) : i = j := by
  refine nd_get (colX_nd hp p.toNat 0) (d := (0, 0)) hi hj ?_
  rw [pall_pts hi] at h1 h2
  rw [pall_pts hj] at h1 h2
  exact Prod.ext h1 h2
theorem pAt_get {L : List (Int × Int)} {x y : Int} : ∀ (m k : Nat), 0 ≤ pAt L x y m k → ((L.getD (pAt L x y m k).toNat (0, 0)).1 = x ∧ (L.getD (pAt L x y m k).toNat (0, 0)).2 = y) ∧ (pAt L x y m k).toNat < k + m
  | 0, k, h => by have h : (0 : Int) ≤ -1 := h; omega
  | m + 1, k, h => by
    unfold pAt at h ⊢
    by_cases c : (L.getD k (0, 0)).1 = x ∧ (L.getD k (0, 0)).2 = y
    · rw [if_pos c, Int.toNat_natCast]; exact ⟨c, by omega⟩
    · rw [if_neg c] at h ⊢
      have := pAt_get m (k + 1) h
      exact ⟨this.1, by omega⟩
/-- an entry's point -/
theorem ent_pt {p : Int} {F r : Nat → Int} (hr : SumR r) (hc : carr (pall p F) r = true) {i : Nat} (hi : i < (r 0).toNat) : ∃ q : Nat, enK (pall p F) r i = (q : Int) ∧ q < (pts p F).length ∧ ((pall p F).getD q (0, 0)).1 = eX r i ∧ ((pall p F).getD q (0, 0)).2 = eY r i := by
  have h := (crs_iff _ _).mp hc i (Nat.zero_le i) (by omega)
  have h8 := hr.1
  have hx := (hr.2.2 i (by omega)).1
  have e : enK (pall p F) r i = ptN (pall p F) (eX r i) (eY r i) := by
    unfold enK eX eY
    rw [show 3 + 3 * i = 2 + 3 * i + 1 from by omega]
  have hg := pAt_rg (pall p F) (eX r i) (eY r i) (pall p F).length 0
  have h0 : 0 ≤ ptN (pall p F) (eX r i) (eY r i) := by
    have h1 : -1 ≤ ptN (pall p F) (eX r i) (eY r i) := hg.1
    omega
  obtain ⟨⟨g1, g2⟩, g3⟩ := pAt_get _ _ h0
  have g3 : (ptN (pall p F) (eX r i) (eY r i)).toNat < 0 + (pall p F).length := g3
  rw [pall_le] at g3
  have g1 : ((pall p F).getD (ptN (pall p F) (eX r i) (eY r i)).toNat (0, 0)).1 = eX r i := g1
  have g2 : ((pall p F).getD (ptN (pall p F) (eX r i) (eY r i)).toNat (0, 0)).2 = eY r i := g2
  refine ⟨(ptN (pall p F) (eX r i) (eY r i)).toNat, by rw [e]; omega, ?_, g1, g2⟩
  by_cases c : (ptN (pall p F) (eX r i) (eY r i)).toNat = (pts p F).length
  · rw [c, pall_last] at g1
    have g1 : (-2 : Int) = eX r i := g1
    omega
  · omega
theorem oft_of {p : Int} (hp : IsP p) {F r : Nat → Int} (hr : SumR r) (hc : carr (pall p F) r = true) : ∀ n : Nat, n ≤ (r 0).toNat → ∀ k : Nat, k < (pts p F).length → oft (pall p F) r n k = mOf r 1 n (13 * ((pall p F).getD k (0, 0)).1 + ((pall p F).getD k (0, 0)).2).toNat
  | 0, _, k, _ => rfl
  | n + 1, h, k, hk => by
    have ih := oft_of hp hr hc n (by omega)
    have hpr := hp.rg
    obtain ⟨q, q1, q2, q3, q4⟩ := ent_pt hr hc (i := n) (by omega)
    have h8 := hr.1
    have hx := hr.2.2 n (by omega)
    have hkg := pall_get (p := p) (F := F) (by omega) (k := k) (by rw [pall_le]; omega)
    rw [oft_pos (by omega), q1, Int.toNat_natCast]
    show upf _ q _ k = upf (mOf r 1 n) (13 * eX r n + eY r n).toNat (mOf r 1 n (13 * eX r n + eY r n).toNat + 1 * eO r n) _
    by_cases c : k = q
    · rw [c, upf_is, q3, q4, upf_is, ih q q2, q3, q4, Int.one_mul]
      show _ + r (4 + 3 * n) = _ + r (2 + 3 * n + 2)
      rw [show 4 + 3 * n = 2 + 3 * n + 2 from by omega]
    · rw [upf_ot c, upf_ot, ih k hk]
      intro e
      refine c (pts_inj (by omega) hk q2 ?_ ?_)
      · rw [q3]; omega
      · rw [q4]; omega
theorem nmd_of {p : Int} {F r : Nat → Int} (hr : SumR r) (hc : carr (pall p F) r = true) : ∀ n : Nat, n ≤ (r 0).toNat → nmd (pall p F) r n = mTd r n
  | 0, _ => rfl
  | n + 1, h => by
    obtain ⟨q, q1, -⟩ := ent_pt hr hc (i := n) (by omega)
    rw [nmd_pos (by omega), nmd_of hr hc n (by omega)]
    rfl
theorem mOf_no {r : Nat → Int} {t : Int} (hr : SumR r) {x y : Nat} (hy : y < 13) : ∀ n : Nat, n ≤ 8 → mTd r n x = 0 → mOf r t n (13 * x + y) = 0
  | 0, _, _ => rfl
  | n + 1, h, h0 => by
    have hx := hr.2.2 n (by omega)
    have h0 : upf (mTd r n) (eX r n).toNat 1 x = 0 := h0
    have c : x ≠ (eX r n).toNat := fun e => by rw [e, upf_is] at h0; omega
    rw [upf_ot c] at h0
    show upf (mOf r t n) (13 * eX r n + eY r n).toNat _ (13 * x + y) = 0
    rw [upf_ot (by omega), mOf_no hr hy n (by omega) h0]
theorem dpt_max {L : List (Int × Int)} {o : Nat → Int} {x : Nat} : ∀ n : Nat, (∀ k : Nat, k < n → 0 ≤ (L.getD k (0, 0)).1) → 0 ≤ dpt L o n x ∧ (∀ k : Nat, k < n → (L.getD k (0, 0)).1 = x → dp1 L o k ≤ dpt L o n x) ∧ (dpt L o n x = 0 ∨ ∃ k : Nat, k < n ∧ (L.getD k (0, 0)).1 = x ∧ dpt L o n x = dp1 L o k)
  | 0, _ => ⟨Int.le_refl 0, fun k hk => by omega, Or.inl rfl⟩
  | n + 1, hL => by
    obtain ⟨a1, a2, a3⟩ := dpt_max (L := L) (o := o) (x := x) n (fun k hk => hL k (by omega))
    have h0 := hL n (by omega)
    show 0 ≤ upf (dpt L o n) (L.getD n (0, 0)).1.toNat (max (dpt L o n (L.getD n (0, 0)).1.toNat) (dp1 L o n)) x ∧ _
    by_cases c : x = (L.getD n (0, 0)).1.toNat
    · have e : dpt L o (n + 1) x = max (dpt L o n x) (dp1 L o n) := by
        show upf (dpt L o n) (L.getD n (0, 0)).1.toNat (max (dpt L o n (L.getD n (0, 0)).1.toNat) (dp1 L o n)) x = _
        rw [c, upf_is]
      refine ⟨by rw [show upf (dpt L o n) (L.getD n (0, 0)).1.toNat (max (dpt L o n (L.getD n (0, 0)).1.toNat) (dp1 L o n)) x = dpt L o (n + 1) x from rfl, e]; omega, fun k hk hx => ?_, ?_⟩
      · rw [e]
        by_cases ck : k = n
        · rw [ck]; omega
        · have := a2 k (by omega) hx; omega
      · rw [e]
        by_cases cm : dpt L o n x < dp1 L o n
        · exact Or.inr ⟨n, by omega, by omega, by omega⟩
        · rcases a3 with h | ⟨k, k1, k2, k3⟩
          · left; omega
          · exact Or.inr ⟨k, by omega, k2, by omega⟩
    · have e : dpt L o (n + 1) x = dpt L o n x := by
        show upf (dpt L o n) (L.getD n (0, 0)).1.toNat (max (dpt L o n (L.getD n (0, 0)).1.toNat) (dp1 L o n)) x = _
        rw [upf_ot c]
      refine ⟨by rw [show upf (dpt L o n) (L.getD n (0, 0)).1.toNat (max (dpt L o n (L.getD n (0, 0)).1.toNat) (dp1 L o n)) x = dpt L o (n + 1) x from rfl, e]; exact a1, fun k hk hx => ?_, ?_⟩
      · rw [e]
        by_cases ck : k = n
        · exfalso; rw [ck] at hx; omega
        · exact a2 k (by omega) hx
      · rw [e]
        rcases a3 with h | ⟨k, k1, k2, k3⟩
        · exact Or.inl h
        · exact Or.inr ⟨k, by omega, k2, k3⟩
theorem mDy_mx {p v : Int} {O : Nat → Int} {X : Int} : ∀ (m : Nat) (y n : Int), n ≤ mDy p v O X m y n ∧ ∀ z : Int, y ≤ z → z < y + m → z * z % p = v → O (13 * X + z).toNat ≤ mDy p v O X m y n
  | 0, y, n => ⟨Int.le_refl n, fun z h1 h2 => by omega⟩
  | m + 1, y, n => by
    obtain ⟨a1, a2⟩ := mDy_mx (p := p) (v := v) (O := O) (X := X) m (y + 1) (if y * y % p = v then (if n < O (13 * X + y).toNat then O (13 * X + y).toNat else n) else n)
    refine ⟨Int.le_trans ?_ a1, fun z h1 h2 h3 => ?_⟩
    · split
      · split <;> omega
      · omega
    · by_cases c : z = y
      · rw [c] at h3 ⊢
        refine Int.le_trans ?_ a1
        rw [if_pos h3]
        split <;> omega
      · exact a2 z (by omega) (by omega) h3
/-- how deep a point lets it be -/
def dpV (O : Nat → Int) (x y : Int) : Int := if y = 0 then Int.tdiv (O (13 * x + y).toNat + 1) 2 else O (13 * x + y).toNat
theorem sq_0 {p y : Int} (hp : IsP p) (hy : 0 ≤ y ∧ y < p) (h : y * y % p = 0) : y = 0 := by
  by_cases c : y = 0
  · exact c
  · exact absurd h (nzp hp y y ⟨by omega, hy.2⟩ ⟨by omega, hy.2⟩).1
theorem mDp_max {p : Int} (hp : IsP p) {F O : Nat → Int} {x : Int} (hx : 0 ≤ x ∧ x < p) : 0 ≤ mDp p F O x ∧ (∀ y : Int, (0 ≤ y ∧ y < p) → y * y % p = ev p F x → dpV O x y ≤ mDp p F O x) ∧ (mDp p F O x = 0 ∨ ∃ y : Int, (0 ≤ y ∧ y < p) ∧ y * y % p = ev p F x ∧ mDp p F O x = dpV O x y) := by
  have hr := hp.rg
  unfold mDp
  by_cases c : ev p F x = 0
  · rw [if_pos c]
    have e0 : dpV O x 0 = Int.tdiv (O (13 * x).toNat + 1) 2 := by unfold dpV; rw [if_pos rfl, Int.add_zero]
    refine ⟨?_, fun y hy he => ?_, ?_⟩
    · split
      · exact Int.tdiv_nonneg (by omega) (by decide)
      · omega
    · rw [c] at he
      rw [sq_0 hp hy he, e0]
      split
      · exact Int.le_refl _
      · rename_i h
        by_cases h2 : O (13 * x).toNat = 0
        · rw [h2]; decide
        · have : Int.tdiv (O (13 * x).toNat + 1) 2 = -(Int.tdiv (-(O (13 * x).toNat + 1)) 2) := by rw [Int.neg_tdiv]; omega
          rw [this]
          have := Int.tdiv_nonneg (a := -(O (13 * x).toNat + 1)) (b := 2) (by omega) (by decide)
          omega
    · split
      · exact Or.inr ⟨0, ⟨by omega, by omega⟩, by rw [c]; rfl, e0.symm⟩
      · exact Or.inl rfl
  · rw [if_neg c]
    obtain ⟨a1, a2⟩ := mDy_mx (p := p) (v := ev p F x) (O := O) (X := x) (p.toNat - 1) 1 0
    refine ⟨a1, fun y hy he => ?_, ?_⟩
    · have y0 : y ≠ 0 := fun e => c (by rw [← he, e]; rfl)
      unfold dpV
      rw [if_neg y0]
      exact a2 y (by omega) (by omega) he
    · rcases mDy_ex (p := p) (v := ev p F x) (O := O) (X := x) (p.toNat - 1) 1 0 with h | ⟨z, z1, z2, z3⟩
      · exact Or.inl h
      · refine Or.inr ⟨z, ⟨by omega, by omega⟩, z2, ?_⟩
        unfold dpV
        rw [if_neg (by omega)]
        exact z3
theorem fxd_y {p : Int} {F : Nat → Int} {k : Nat} (hk : k < (pts p F).length) : fxd (pall p F) k = true ↔ ((pall p F).getD k (0, 0)).2 = 0 := by
  unfold fxd
  rw [decide_eq_true_eq, pall_le, Int.toNat_natCast]
  constructor
  · rintro (h | h)
    · omega
    · exact h
  · exact Or.inr
theorem pts_has {p : Int} (hp : 0 ≤ p) {F : Nat → Int} {x y : Int} (hx : 0 ≤ x ∧ x < p) (hy : 0 ≤ y ∧ y < p) (h : y * y % p = ev p F x) : ∃ k : Nat, k < (pts p F).length ∧ (pall p F).getD k (0, 0) = (x, y) := by
  have hm : (x, y) ∈ pts p F := colX_in hy h p.toNat 0 hx.1 (by omega)
  obtain ⟨k, hk, e⟩ := List.getElem_of_mem hm
  refine ⟨k, hk, ?_⟩
  rw [pall_pts hk, List.getD_eq_getElem?_getD, List.getElem?_eq_getElem hk]
  exact e
theorem dep_eq {p : Int} (hp : IsP p) {F r : Nat → Int} (hr : SumR r) (hc : carr (pall p F) r = true) {x : Nat} (hx : (x : Int) < p) : rmD p F r x = mDt p F (rO r 1) (rT r) x := by
  have hpr := hp.rg
  have h8 := hr.1
  have hL : (pall p F).length - 1 = (pts p F).length := by rw [pall_le]; omega
  have pg : ∀ k : Nat, k < (pts p F).length → _ := fun k hk => pall_get (p := p) (F := F) (by omega) (k := k) (by rw [pall_le]; omega)
  obtain ⟨a1, a2, a3⟩ := dpt_max (L := pall p F) (o := rmO p F r) (x := x) (pts p F).length (fun k hk => (pg k hk).1.1)
  have ed : ∀ k : Nat, k < (pts p F).length → dp1 (pall p F) (rmO p F r) k = dpV (rO r 1) ((pall p F).getD k (0, 0)).1 ((pall p F).getD k (0, 0)).2 := fun k hk => by
    unfold dp1 dpV
    have e : rmO p F r k = rO r 1 (13 * ((pall p F).getD k (0, 0)).1 + ((pall p F).getD k (0, 0)).2).toNat := oft_of hp hr hc _ (Nat.le_refl _) k hk
    rw [e]
    by_cases c : fxd (pall p F) k = true
    · rw [if_pos c, if_pos ((fxd_y hk).mp c)]
    · rw [if_neg c, if_neg (fun h => c ((fxd_y hk).mpr h))]
  unfold rmD
  rw [hL]
  unfold mDt
  by_cases hD : rT r x = 0
  · rw [if_pos hD]
    rcases a3 with h | ⟨k, k1, k2, k3⟩
    · exact h
    · rw [k3, ed k k1, k2]
      have hy := (pg k k1).2.1
      have z := mOf_no (t := 1) hr (x := x) (y := ((pall p F).getD k (0, 0)).2.toNat) (by omega) (r 0).toNat (by omega) hD
      have z : rO r 1 (13 * (x : Int) + ((pall p F).getD k (0, 0)).2).toNat = 0 := by
        rw [show (13 * (x : Int) + ((pall p F).getD k (0, 0)).2).toNat = 13 * x + ((pall p F).getD k (0, 0)).2.toNat from by omega]
        exact z
      unfold dpV
      rw [z]
      split <;> decide
  · rw [if_neg hD]
    obtain ⟨b1, b2, b3⟩ := mDp_max hp (F := F) (O := rO r 1) (x := (x : Int)) ⟨by omega, hx⟩
    have le1 : dpt (pall p F) (rmO p F r) (pts p F).length x ≤ mDp p F (rO r 1) x := by
      rcases a3 with h | ⟨k, k1, k2, k3⟩
      · rw [h]; exact b1
      · rw [k3, ed k k1]
        have g := pg k k1
        rw [k2] at g ⊢
        exact b2 _ g.2.1 g.2.2
    have le2 : mDp p F (rO r 1) x ≤ dpt (pall p F) (rmO p F r) (pts p F).length x := by
      rcases b3 with h | ⟨y, y1, y2, y3⟩
      · rw [h]; exact a1
      · obtain ⟨k, k1, k2⟩ := pts_has (p := p) (by omega) (F := F) (x := (x : Int)) (y := y) ⟨by omega, hx⟩ y1 y2
        rw [y3]
        have := a2 k k1 (by rw [k2])
        rw [ed k k1, k2] at this
        exact this
    omega
theorem und_ext {p : Int} {D E : Nat → Int} : ∀ (m x : Nat) (w : Un), (∀ i : Nat, x ≤ i → i < x + m → D i = E i) → undA p D m x w = undA p E m x w
  | 0, _, _, _ => rfl
  | m + 1, x, w, h => by
    show undA p D m (x + 1) (undX p x (D x).toNat w) = undA p E m (x + 1) (undX p x (E x).toNat w)
    rw [h x (Nat.le_refl x) (by omega)]
    exact und_ext m (x + 1) _ (fun i h1 h2 => h i (by omega) (by omega))
theorem und_eq {p : Int} (hp : IsP p) {F r : Nat → Int} (hr : SumR r) (hc : carr (pall p F) r = true) : rmU p F r = mUn p F (rO r 1) (rT r) := by
  have hpr := hp.rg
  exact und_ext p.toNat 0 _ (fun i _ h => dep_eq hp hr hc (by omega))
theorem tie_under {T : Td} (hV : TdV T) (c s i : Int) : aUnder T c s i = mAUnder T c s i := by
  unfold aUnder mAUnder
  by_cases h : fitB T c s = true
  · obtain ⟨h1, h2, h3⟩ := fitB_c.mp h
    have hF := (Td.crv hV (q := c.toNat) (by omega)).1
    have hS := (hV.2.2.2.2.2.2.2.2.1 s.toNat (by omega)).1
    have e := und_eq hF.1 hS h3
    have e : rmU (T.p c.toNat) (T.F c.toNat) (T.rw (2 + s.toNat)) = mUn (T.p c.toNat) (T.F c.toNat) (rO (T.rw (2 + s.toNat)) 1) (rT (T.rw (2 + s.toNat))) := e
    rw [e]
  · rw [if_neg (fun e => h e.1), if_neg (fun e => h e.1)]
