/-! ===== ROOM and BASE tied ===== -/
theorem enL_lead {pv : Nat → Int} : ∀ (c k : Nat), k < (enL pv c).2 → ∃ L : Nat, (enL pv c).1 k = (L : Int) ∧ L < c ∧ pv L = -1
  | 0, k, h => by have h : k < 0 := h; omega
  | c + 1, k, h => by
    unfold enL at h ⊢
    by_cases hc : pv c = -1
    · rw [if_pos hc] at h ⊢
      have h : k < (enL pv c).2 + 1 := h
      show ∃ L : Nat, upf (enL pv c).1 (enL pv c).2 c k = (L : Int) ∧ _
      by_cases ck : k = (enL pv c).2
      · exact ⟨c, by rw [ck, upf_is], by omega, hc⟩
      · obtain ⟨L, l1, l2, l3⟩ := enL_lead (pv := pv) c k (by omega)
        exact ⟨L, by rw [upf_ot ck]; exact l1, by omega, l3⟩
    · rw [if_neg hc] at h ⊢
      obtain ⟨L, l1, l2, l3⟩ := enL_lead c k h
      exact ⟨L, l1, by omega, l3⟩
/-- both ways to tell a base's numbers -/
theorem bs_cof {p : Int} (hp : IsP p) {g po u : Nat} {w : Sv} (hE : EI p g po u (po + 1) w) (hP : PvI g u (po + 1) w) (hL : (w.2.2.2.1, w.2.2.2.2) = enL w.2.2.1 (po + 1)) {k c : Int} (hk : 0 ≤ k ∧ k < w.2.2.2.2) (hc : 0 ≤ c ∧ c ≤ po) : ∃ L : Nat, L ≤ po ∧ w.2.2.1 L = -1 ∧ w.2.2.2.1 k.toNat = (L : Int) ∧ cof p w.1 (w.2.2.2.2 : Nat) (po : Int) w.2.2.1 w.2.2.2.1 k c = bsV p po w L c.toNat ∧ mBa p w k c = bsV p po w L c.toNat := by
  have e1 : w.2.2.2.1 = (enL w.2.2.1 (po + 1)).1 := congrArg Prod.fst hL
  have e2 : w.2.2.2.2 = (enL w.2.2.1 (po + 1)).2 := congrArg Prod.snd hL
  obtain ⟨L, l1, l2, l3⟩ := enL_lead (pv := w.2.2.1) (po + 1) k.toNat (by omega)
  rw [← e1] at l1
  obtain ⟨b1, b2, b3, b4⟩ := bsV_ok hp hE hP (L := L) (by omega) l3
  refine ⟨L, by omega, l3, l1, ?_, ?_⟩
  · unfold cof
    rw [if_neg (by omega), l1]
    by_cases c1 : (L : Int) ≤ c
    · rw [if_pos c1]
      by_cases c2 : c = (L : Int)
      · rw [if_pos c2, c2, Int.toNat_natCast, b2]
      · rw [if_neg c2, b3 c.toNat (by omega)]
    · rw [if_neg c1]
      unfold bsV
      rw [if_neg (show ¬ c.toNat = L by omega), Int.toNat_natCast]
      by_cases c3 : w.2.2.1 c.toNat < 0
      · rw [if_pos c3, if_neg (show ¬ (c.toNat ≤ po ∧ 0 ≤ w.2.2.1 c.toNat) by omega)]
      · rw [if_neg c3, if_pos (show c.toNat ≤ po ∧ 0 ≤ w.2.2.1 c.toNat by omega)]
  · unfold mBa bsV
    rw [l1, Int.toNat_natCast]
    by_cases c2 : c = (L : Int)
    · rw [if_pos c2, if_pos (show c.toNat = L by omega)]
    · rw [if_neg c2, if_neg (show ¬ c.toNat = L by omega)]
      by_cases c3 : 0 ≤ w.2.2.1 c.toNat
      · rw [if_pos c3, if_pos ⟨by omega, c3⟩]
      · rw [if_neg c3, if_neg (fun e => c3 e.2)]
theorem room_dim {p : Int} (hp : IsP p) {F r : Nat → Int} (hr : SumR r) (hc : carr (pall p F) r = true) : (rmS p F r).2.2.2.2 = mRm p F (r 1) (rO r 1) (rT r) ∧ ∀ k c : Int, (0 ≤ k ∧ k < ((rmS p F r).2.2.2.2 : Nat)) → (0 ≤ c ∧ c ≤ rmP p F r) → cofR p F r k c = mBa p (mSl p F (r 1) (rO r 1) (rT r)) k c := by
  have ep := pole_eq hp hr hc
  by_cases h0 : rmP p F r < 0
  · refine ⟨?_, fun k c hk hc => by omega⟩
    unfold mRm rmS
    rw [← ep, if_pos h0, show (rmP p F r + 1).toNat = 0 from by omega]
    rfl
  · obtain ⟨m1, m2, kk⟩ := room_slv hp hr hc (by omega)
    obtain ⟨⟨s1, s2⟩, s3, s4⟩ := slv_same hp m1 m2 kk
    have e1 : rmS p F r = slvN p (gen F).toNat (rmP p F r).toNat (rmL p F r).2 (rmL p F r).1 ((rmP p F r).toNat + 1) := by
      unfold rmS
      rw [show (rmP p F r + 1).toNat = (rmP p F r).toNat + 1 from by omega]
    have e2 : mSl p F (r 1) (rO r 1) (rT r) = slvN p (gen F).toNat (rmP p F r).toNat (mRw p F (rO r 1) (rT r) (rmP p F r)).2 (mRw p F (rO r 1) (rT r) (rmP p F r)).1 ((rmP p F r).toNat + 1) := by
      unfold mSl
      rw [← ep]
    obtain ⟨a1, a2, -, a4⟩ := slv_all hp m1 ((rmP p F r).toNat + 1) (Nat.le_refl _)
    obtain ⟨b1, b2, -, b4⟩ := slv_all hp m2 ((rmP p F r).toNat + 1) (Nat.le_refl _)
    rw [← e1] at a1 a2 a4 s1 s2 s3 s4
    rw [← e2] at b1 b2 b4 s1 s2 s3 s4
    refine ⟨?_, fun k c hk hc => ?_⟩
    · unfold mRm
      rw [← ep, if_neg h0]
      exact s2
    · obtain ⟨L, l1, l2, l3, l4, -⟩ := bs_cof hp a1 a2 a4 (k := k) (c := c) (by omega) (by omega)
      obtain ⟨L', l1', l2', l3', -, l5'⟩ := bs_cof hp b1 b2 b4 (k := k) (c := c) (by omega) (by omega)
      rw [← s1, l3] at l3'
      have : L = L' := by omega
      subst this
      rw [l5', ← s4 L l1 l2, ← l4]
      unfold cofR
      rw [show (((rmP p F r).toNat : Nat) : Int) = rmP p F r from by omega]
theorem tie_base {T : Td} (hV : TdV T) (c s k y i : Int) : aBase T c s k y i = mABase T c s k y i := by
  unfold aBase mABase
  by_cases h : fitB T c s = true
  · obtain ⟨h1, h2, h3⟩ := fitB_c.mp h
    have hF := (Td.crv hV (q := c.toNat) (by omega)).1
    have hS := (hV.2.2.2.2.2.2.2.2.1 s.toNat (by omega)).1
    have hg := hF.2.2.2.2
    obtain ⟨d1, d2⟩ := room_dim hF.1 hS h3
    have ep := pole_eq hF.1 hS h3
    have p89 : rmP (T.p c.toNat) (T.F c.toNat) (T.rw (2 + s.toNat)) ≤ 89 := by unfold rmP; omega
    have d1 : (rmS (T.p c.toNat) (T.F c.toNat) (T.rw (2 + s.toNat))).2.2.2.2 = mRm (T.p c.toNat) (T.F c.toNat) (T.rw (2 + s.toNat) 1) (rO (T.rw (2 + s.toNat)) 1) (rT (T.rw (2 + s.toNat))) := d1
    have ep : rmP (T.p c.toNat) (T.F c.toNat) (T.rw (2 + s.toNat)) = mMo (T.p c.toNat) (T.F c.toNat) (T.rw (2 + s.toNat) 1) (rO (T.rw (2 + s.toNat)) 1) (rT (T.rw (2 + s.toNat))) := ep
    rw [← d1, ← ep]
    have hj : ∀ j : Int, j = (if y = 0 then 2 * i else 2 * i + 2 * gen (T.F c.toNat) + 1) → 0 ≤ i → 0 ≤ j ∧ 2 * i ≤ j := fun j e h0 => by
      rw [e]
      split <;> omega
    have hj := hj _ rfl
    generalize (if y = 0 then 2 * i else 2 * i + 2 * gen (T.F c.toNat) + 1) = j at hj ⊢
    by_cases hh : (fitB T c s = true ∧ 0 ≤ i ∧ i ≤ 90) ∧ (0 ≤ k ∧ k < ((rmS (T.p c.toNat) (T.F c.toNat) (T.rw (2 + s.toNat))).2.2.2.2 : Nat)) ∧ j ≤ rmP (T.p c.toNat) (T.F c.toNat) (T.rw (2 + s.toNat))
    · rw [if_pos hh, if_pos ⟨⟨hh.1.1, hh.1.2.1, by omega⟩, hh.2⟩]
      exact d2 k j hh.2.1 ⟨(hj hh.1.2.1).1, hh.2.2⟩
    · rw [if_neg hh, if_neg (fun e => ?_)]
      refine hh ⟨⟨e.1.1, e.1.2.1, ?_⟩, e.2⟩
      have := (hj e.1.2.1).2
      omega
  · rw [if_neg (fun e => h e.1.1), if_neg (fun e => h e.1.1)]
theorem tie_room {T : Td} (hV : TdV T) (c s w : Int) (h2 : w = 2 → aRoom T c s 2 = mARoom T c s 2) : aRoom T c s w = mARoom T c s w := by
  by_cases cw : w = 2
  · rw [cw]; exact h2 cw
  · unfold aRoom mARoom
    by_cases h : fitB T c s = true
    · obtain ⟨h1, h2, h3⟩ := fitB_c.mp h
      have hF := (Td.crv hV (q := c.toNat) (by omega)).1
      have hS := (hV.2.2.2.2.2.2.2.2.1 s.toNat (by omega)).1
      have d1 : (rmS (T.p c.toNat) (T.F c.toNat) (T.rw (2 + s.toNat))).2.2.2.2 = mRm (T.p c.toNat) (T.F c.toNat) (T.rw (2 + s.toNat) 1) (rO (T.rw (2 + s.toNat)) 1) (rT (T.rw (2 + s.toNat))) := (room_dim hF.1 hS h3).1
      have eu : rmU (T.p c.toNat) (T.F c.toNat) (T.rw (2 + s.toNat)) = mUn (T.p c.toNat) (T.F c.toNat) (rO (T.rw (2 + s.toNat)) 1) (rT (T.rw (2 + s.toNat))) := und_eq hF.1 hS h3
      rw [← d1, ← eu, if_neg cw, if_neg cw]
    · rw [if_neg (fun e => h e.1), if_neg (fun e => h e.1)]
