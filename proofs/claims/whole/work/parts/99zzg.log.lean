/-! ===== ORDER and LOG tied ===== -/
theorem none_iff {p g : Int} {F : Nat → Int} {a : UV} (ha : GP p g F a) : pd a.1 ≤ 0 ↔ a = czero := by
  constructor
  · intro h
    obtain ⟨⟨h1, h2⟩, ⟨h3, h4⟩, h5, h6, h7, h8⟩ := ha.1
    have c0 : pd a.1 = 0 := by omega
    have hz := pd_ge a.2
    refine Prod.ext (funext fun i => ?_) (funext fun i => ?_)
    · show a.1 i = pone i
      unfold pone
      by_cases ci : i = 0
      · rw [if_pos ci, ci]; rw [c0] at h8; exact h8
      · rw [if_neg ci]; exact pd_hi h2 i (by omega)
    · exact pd_hi h4 i (by omega)
  · intro h; rw [h]; show pd pone ≤ 0; decide
/-- the order of a class -/
def OrdC (p : Int) (F : Nat → Int) (a : UV) (n : Nat) : Prop := 1 ≤ n ∧ mulN p F (gen F) a n = czero ∧ ∀ m : Nat, 1 ≤ m → m < n → mulN p F (gen F) a m ≠ czero
theorem ordF_eq {p : Int} {F : Nat → Int} (hC : CS p (gen F) F) {a : UV} (ha : GP p (gen F) F a) {n : Nat} (hn : OrdC p F a n) : ∀ m k : Nat, 1 ≤ k → k ≤ n → n ≤ k + m → ordF p F (gen F) a m k (mulN p F (gen F) a k) = n
  | 0, k, h1, h2, h3 => by show ((k : Nat) : Int) = n; omega
  | m + 1, k, h1, h2, h3 => by
    unfold ordF
    by_cases c : k = n
    · rw [if_pos (by rw [none_iff (mulN_GP hC ha k), c]; exact hn.2.1), c]
    · rw [if_neg (by rw [none_iff (mulN_GP hC ha k)]; exact hn.2.2 k h1 (by omega))]
      exact ordF_eq hC ha hn m (k + 1) (by omega) (by omega) (by omega)
theorem cls_bd {p : Int} {F : Nat → Int} (hC : CS p (gen F) F) : (clsL p F (gen F)).length ≤ 521 := by
  have hp := hC.1.1
  have hr := hp.rg
  have pn := pts_num (p := p) (F := F)
  have l1 := l1X_num hp (F := F)
  have cl := colX_len hp F p.toNat 0
  have cl : (pts p F).length ≤ 2 * p.toNat := cl
  unfold clsL
  rw [List.length_append, List.length_append]
  show 1 + _ + _ ≤ 521
  split
  · have lg := lg_num hC
    have c2 := sqS_S2 (p := p) (F := F)
    have b2 : S2 p (fun s t => pov p F s t) ≤ 2 * (p * p) := by
      unfold S2
      have i1 : ∀ s : Nat, smT p.toNat (fun t : Nat => pov p F s t) ≤ 2 * p := fun s => by
        have := smT_mo (f := fun t : Nat => pov p F s t) (g := fun _ => 2) (m := p.toNat) (fun i _ => (pov_rg p F s i).2)
        rw [smT_k] at this
        omega
      have := smT_mo (f := fun s : Nat => smT p.toNat (fun t : Nat => pov p F s t)) (g := fun _ => 2 * p) (m := p.toNat) (fun i _ => i1 i)
      rw [smT_k, Int.toNat_of_nonneg (by omega)] at this
      rw [show 2 * (p * p) = p * (2 * p) by grind]
      exact this
    have n0 : 0 ≤ aN p F := by omega
    have a2 : aN p F * aN p F ≤ 2 * p * (2 * p) := by
      have h1 : aN p F ≤ 2 * p := by omega
      exact Int.le_trans (Int.mul_le_mul_of_nonneg_left h1 n0) (Int.mul_le_mul_of_nonneg_right h1 (by omega))
    rcases hp with rfl | rfl | rfl | rfl | rfl <;> omega
  · show 1 + _ + 0 ≤ 521
    omega
theorem ord_le {p : Int} {F : Nat → Int} (hC : CS p (gen F) F) {a : UV} (ha : GP p (gen F) F a) : ∃ n : Nat, OrdC p F a n ∧ (n : Int) ≤ nCl p F ∧ n ≤ 521 := by
  obtain ⟨n, n1, n2, n3, n4⟩ := ord_ex hC ha
  have := cls_num hC
  have := cls_bd hC
  exact ⟨n, ⟨n1, n3, n4⟩, by omega, by omega⟩
theorem tie_orderOf {T : Td} (hV : TdV T) (c s : Int) : ∃ N : Nat, N ≤ 1000 ∧ (fitB T c s = true → pd (addN (T.p c.toNat) (T.F c.toNat) (T.g c.toNat) (T.mK c.toNat s.toNat) N (T.mK c.toNat s.toNat)).1 ≤ 0) ∧ aOrderOf T c s = mAOrderOf T N c s := by
  by_cases h : fitB T c s = true
  · obtain ⟨k1, k2⟩ := K_mK hV h
    have hC := Td.cs hV (q := c.toNat) (by have := (fitB_c.mp h).1; omega)
    obtain ⟨n, n1, n2, n3⟩ := ord_le hC k2
    have n11 := n1.1
    have one : mulN (T.p c.toNat) (T.F c.toNat) (gen (T.F c.toNat)) (T.mK c.toNat s.toNat) 1 = T.mK c.toNat s.toNat := mulN_1 hC k2
    refine ⟨n - 1, by omega, fun _ => ?_, ?_⟩
    · show pd (addN (T.p c.toNat) (T.F c.toNat) (gen (T.F c.toNat)) (T.mK c.toNat s.toNat) (n - 1) (T.mK c.toNat s.toNat)).1 ≤ 0
      rw [addN_eq hC k2 (n - 1) _ k2]
      have e := mulN_add hC k2 1 (n - 1)
      rw [one, show 1 + (n - 1) = n by omega, n1.2.1] at e
      rw [← e]; show pd pone ≤ 0; decide
    · unfold aOrderOf mAOrderOf
      rw [if_pos h, if_pos h, k1]
      have e1 := ordF_eq hC k2 n1 ((nCl (T.p c.toNat) (T.F c.toNat)).toNat - 1) 1 (Nat.le_refl 1) n1.1 (by omega)
      have e2 := ordF_eq hC k2 n1 (n - 1) 1 (Nat.le_refl 1) n1.1 (by omega)
      rw [one] at e1 e2
      exact e1.trans e2.symm
  · exact ⟨0, by omega, fun e => absurd e h, by unfold aOrderOf mAOrderOf; rw [if_neg h, if_neg h]⟩
theorem logF_at {p : Int} {F : Nat → Int} {a b : UV} {j : Nat} (hj : mulN p F (gen F) a j = b) (hl : ∀ i : Nat, i < j → mulN p F (gen F) a i ≠ b) : ∀ m k : Nat, k ≤ j → j < k + m → logF p F (gen F) a b m k (mulN p F (gen F) a k) = j
  | 0, k, h1, h2 => by omega
  | m + 1, k, h1, h2 => by
    unfold logF
    by_cases c : k = j
    · rw [c, if_pos hj]
    · rw [if_neg (hl k (by omega))]
      exact logF_at hj hl m (k + 1) (by omega) (by omega)
theorem logF_no {p : Int} {F : Nat → Int} {a b : UV} (hl : ∀ i : Nat, mulN p F (gen F) a i ≠ b) : ∀ m k : Nat, logF p F (gen F) a b m k (mulN p F (gen F) a k) = -1
  | 0, k => rfl
  | m + 1, k => by
    unfold logF
    rw [if_neg (hl k)]
    exact logF_no hl m (k + 1)
theorem logM_at {p : Int} {F : Nat → Int} (hC : CS p (gen F) F) {a b : UV} (ha : GP p (gen F) F a) {j : Nat} (hj : mulN p F (gen F) a j = b) (hl : ∀ i : Nat, i < j → mulN p F (gen F) a i ≠ b) (hz : ∀ i : Nat, 1 ≤ i → i ≤ j → mulN p F (gen F) a i ≠ czero) : ∀ m k : Nat, k ≤ j → j < k + m → logM p F (gen F) a b m k (mulN p F (gen F) a k) = j
  | 0, k, h1, h2 => by omega
  | m + 1, k, h1, h2 => by
    unfold logM
    by_cases c : k = j
    · rw [c, if_pos hj]
    · rw [if_neg (hl k (by omega))]
      have z : ¬ pd (cplus p F (gen F) (mulN p F (gen F) a k) a).1 ≤ 0 := by
        have := none_iff (mulN_GP hC ha (k + 1))
        intro e
        exact hz (k + 1) (by omega) (by omega) (this.mp e)
      rw [if_neg z]
      exact logM_at hC ha hj hl hz m (k + 1) (by omega) (by omega)
theorem logM_no {p : Int} {F : Nat → Int} {a b : UV} (hl : ∀ i : Nat, mulN p F (gen F) a i ≠ b) : ∀ m k : Nat, logM p F (gen F) a b m k (mulN p F (gen F) a k) = -1
  | 0, k => rfl
  | m + 1, k => by
    unfold logM
    rw [if_neg (hl k)]
    split
    · rfl
    · exact logM_no hl m (k + 1)
theorem mulN_md {p : Int} {F : Nat → Int} (hC : CS p (gen F) F) {a : UV} (ha : GP p (gen F) F a) {n : Nat} (hn : mulN p F (gen F) a n = czero) (i : Nat) : mulN p F (gen F) a i = mulN p F (gen F) a (i % n) := by
  conv => lhs; rw [← Nat.div_add_mod i n]
  rw [mulN_add hC ha, ← mulN_mul hC ha, hn, mulN_0 hC, zero_plus hC (mulN_GP hC ha _)]
theorem least_ex {P : Nat → Prop} : ∀ n : Nat, P n → ∃ j : Nat, j ≤ n ∧ P j ∧ ∀ i : Nat, i < j → ¬ P i := by
  intro n
  induction n using Nat.strongRecOn with
  | _ n ih =>
    intro h
    by_cases c : ∃ m : Nat, m < n ∧ P m
    · obtain ⟨m, m1, m2⟩ := c
      obtain ⟨j, j1, j2⟩ := ih m m1 m2
      exact ⟨j, by omega, j2⟩
    · exact ⟨n, Nat.le_refl n, h, fun i hi hp => c ⟨i, hi, hp⟩⟩
theorem tie_log {T : Td} (hV : TdV T) (c s t : Int) : ∃ N : Nat, (1 ≤ N ∧ N ≤ 1000) ∧ ((fitB T c s && fitB T c t) = true → pd (addN (T.p c.toNat) (T.F c.toNat) (T.g c.toNat) (T.mK c.toNat s.toNat) N czero).1 ≤ 0) ∧ aLog T c s t = mALog T N c s t := by
  by_cases h : (fitB T c s && fitB T c t) = true
  · obtain ⟨k1, k2⟩ := K_mK hV (fit2 h).1
    obtain ⟨k3, k4⟩ := K_mK hV (fit2 h).2
    have hC := Td.cs hV (q := c.toNat) (by have := (fitB_c.mp (fit2 h).1).1; omega)
    obtain ⟨n, n1, n2, n3⟩ := ord_le hC k2
    have n11 := n1.1
    refine ⟨n, by omega, fun _ => ?_, ?_⟩
    · show pd (addN (T.p c.toNat) (T.F c.toNat) (gen (T.F c.toNat)) (T.mK c.toNat s.toNat) n czero).1 ≤ 0
      rw [addN_eq hC k2 n _ (zero_GP hC.1), n1.2.1, zero_plus hC (zero_GP hC.1)]
      show pd pone ≤ 0; decide
    · unfold aLog mALog
      rw [if_pos h, if_pos h, k1, k3]
      show logF (T.p c.toNat) (T.F c.toNat) (gen (T.F c.toNat)) _ _ _ ((0 : Nat) : Int) (mulN (T.p c.toNat) (T.F c.toNat) (gen (T.F c.toNat)) (T.mK c.toNat s.toNat) 0) = logM (T.p c.toNat) (T.F c.toNat) (gen (T.F c.toNat)) _ _ _ ((0 : Nat) : Int) (mulN (T.p c.toNat) (T.F c.toNat) (gen (T.F c.toNat)) (T.mK c.toNat s.toNat) 0)
      by_cases ex : ∃ i : Nat, mulN (T.p c.toNat) (T.F c.toNat) (gen (T.F c.toNat)) (T.mK c.toNat s.toNat) i = T.mK c.toNat t.toNat
      · obtain ⟨i, hi⟩ := ex
        rw [mulN_md hC k2 n1.2.1] at hi
        obtain ⟨j, j1, j2, j3⟩ := least_ex (P := fun i => mulN (T.p c.toNat) (T.F c.toNat) (gen (T.F c.toNat)) (T.mK c.toNat s.toNat) i = T.mK c.toNat t.toNat) (i % n) hi
        have jl : j < n := Nat.lt_of_le_of_lt j1 (Nat.mod_lt _ n1.1)
        rw [logF_at j2 j3 _ 0 (Nat.zero_le j) (by omega), logM_at hC k2 j2 j3 (fun i i1 i2 => n1.2.2 i i1 (by omega)) _ 0 (Nat.zero_le j) (by omega)]
      · have no : ∀ i : Nat, mulN (T.p c.toNat) (T.F c.toNat) (gen (T.F c.toNat)) (T.mK c.toNat s.toNat) i ≠ T.mK c.toNat t.toNat := fun i e => ex ⟨i, e⟩
        rw [logF_no no, logM_no no]
  · exact ⟨1, by omega, fun e => absurd e h, by unfold aLog mALog; rw [if_neg h, if_neg h]⟩
