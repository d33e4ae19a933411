/-! ===== all classes: the two lists hold the same ===== -/
theorem vld_iff {p g : Int} {F : Nat → Int} {a : UV} (hC : CF p g F) (ha : RP p g a) : vldB p F a = true ↔ Vl p F a :=
  with_ring hC (fun R _ co f hP e => by
    subst e
    have hr := hC.1.rg
    have hg := hC.2.2.2.2
    obtain ⟨U, hU⟩ := cR_mk hP ha.1.1 ha.1.2
    obtain ⟨V, hV⟩ := cR_mk hP ha.2.1.1 ha.2.1.2
    have a5 := ha.2.2.2.2.1
    have a4 := ha.2.2.2.1
    have fF : Fin (co (f - V * V)) := by rw [cR_sub hP, cR_mul hP]; exact padd_fin hC.2.2.1 (pmul_fin (by rw [hV]; exact ha.2.1.2) (by rw [hV]; exact ha.2.1.2) (by rw [hV]; omega))
    have fU : Fin (co U) := by rw [hU]; exact ha.1.2
    have eF : co (f - V * V) = padd p (co f) (pmul p a.2 a.2) (-1) := by rw [cR_sub hP, cR_mul hP, hV]
    obtain ⟨q, r, q1, q2, q3⟩ := cR_div hP (f := f - V * V) (g := U) fF fU (by rw [hU]; exact ha.2.2.1)
    have e2 : co r = dvR p (padd p (co f) (pmul p a.2 a.2) (-1)) a.1 := by rw [q2, eF, hU]
    have fr : Fin (co r) := by rw [q2]; exact dvr_fin fF (by rw [hU]; exact ha.2.2.1)
    unfold vldB
    rw [← e2, decide_eq_true_iff, Vl_ring hP hU hV]
    constructor
    · intro h
      have r0 := cR_0 hP fr h
      exact ⟨q, by rw [q1]; exact dvq_fin (by rw [hU]; exact ha.2.2.1), by rw [r0] at q3; grind⟩
    · rintro ⟨W, w1, w2⟩
      have h := (dv_uni hC.1 (cR_in hP (f - V * V)) fF (cR_in hP U) fU (by rw [hU]; exact ha.2.2.1) (cR_in hP W) (pzero_ok (p := p) (by omega)).1 (fun i _ => rfl) (m := 24) w1 (by
        have : f - V * V = U * W := by rw [w2]; grind
        rw [this, cR_mul hP]
        funext i
        show pmul p (co U) (co W) i = (pmul p (co U) (co W) i + 1 * 0) % p
        rw [Int.mul_zero, Int.add_zero, in_md (pmul_in (by omega))])).2
      rw [q2, ← h]
      decide)
theorem RP_cs {p g : Int} {a : UV} (hg : g ≤ 2) (ha : RP p g a) : a = czero ∨ (∃ u v : Int, (0 ≤ u ∧ u < p) ∧ (0 ≤ v ∧ v < p) ∧ a = uv1 u v) ∨ (g = 2 ∧ ∃ u0 u1 v0 v1 : Int, ((0 ≤ u0 ∧ u0 < p) ∧ (0 ≤ u1 ∧ u1 < p)) ∧ ((0 ≤ v0 ∧ v0 < p) ∧ (0 ≤ v1 ∧ v1 < p)) ∧ a = uv2 u0 u1 v0 v1) := by
  obtain ⟨⟨h1, h2⟩, ⟨h3, h4⟩, h5, h6, h7, h8⟩ := ha
  have hz := pd_ge a.2
  by_cases c0 : pd a.1 = 0
  · refine Or.inl (Prod.ext (funext fun i => ?_) (funext fun i => ?_))
    · show a.1 i = pone i
      unfold pone
      by_cases ci : i = 0
      · rw [if_pos ci, ci]; rw [c0] at h8; exact h8
      · rw [if_neg ci]; exact pd_hi h2 i (by omega)
    · exact pd_hi h4 i (by omega)
  · by_cases c1 : pd a.1 = 1
    · refine Or.inr (Or.inl ⟨a.1 0, a.2 0, h1 0, h3 0, Prod.ext (funext fun i => ?_) (funext fun i => ?_)⟩)
      · show a.1 i = if i = 0 then a.1 0 else if i = 1 then 1 else 0
        by_cases ci : i = 0
        · rw [if_pos ci, ci]
        · rw [if_neg ci]
          by_cases cj : i = 1
          · rw [if_pos cj, cj]; rw [c1] at h8; exact h8
          · rw [if_neg cj]; exact pd_hi h2 i (by omega)
      · show a.2 i = pcon (a.2 0) i
        unfold pcon
        by_cases ci : i = 0
        · rw [if_pos ci, ci]
        · rw [if_neg ci]; exact pd_hi h4 i (by omega)
    · have c2 : pd a.1 = 2 := by omega
      refine Or.inr (Or.inr ⟨by omega, a.1 0, a.1 1, a.2 0, a.2 1, ⟨h1 0, h1 1⟩, ⟨h3 0, h3 1⟩, Prod.ext (funext fun i => ?_) (funext fun i => ?_)⟩)
      · show a.1 i = if i = 0 then a.1 0 else if i = 1 then a.1 1 else if i = 2 then 1 else 0
        by_cases ci : i = 0
        · rw [if_pos ci, ci]
        · rw [if_neg ci]
          by_cases cj : i = 1
          · rw [if_pos cj, cj]
          · rw [if_neg cj]
            by_cases ck : i = 2
            · rw [if_pos ck, ck]; rw [c2] at h8; exact h8
            · rw [if_neg ck]; exact pd_hi h2 i (by omega)
      · show a.2 i = if i = 0 then a.2 0 else if i = 1 then a.2 1 else 0
        by_cases ci : i = 0
        · rw [if_pos ci, ci]
        · rw [if_neg ci]
          by_cases cj : i = 1
          · rw [if_pos cj, cj]
          · rw [if_neg cj]; exact pd_hi h4 i (by omega)
theorem dg_1 {p u v : Int} (hp : 0 < p) (hu : 0 ≤ u ∧ u < p) : (u + p * v) % p = u ∧ (u + p * v) / p = v := by
  constructor
  · rw [Int.add_mul_emod_self_left]; exact Int.emod_eq_of_lt hu.1 hu.2
  · rw [Int.add_mul_ediv_left _ _ (by omega), Int.ediv_eq_zero_of_lt hu.1 hu.2, Int.zero_add]
theorem cdU_1 {p u v : Int} (hp : 0 < p) (hu : 0 ≤ u ∧ u < p) (hv : 0 ≤ v ∧ v < p) : cdU p 1 (u + p * v) = uv1 u v := by
  unfold cdU
  rw [if_pos rfl, (dg_1 hp hu).1, (dg_1 hp hu).2, Int.emod_eq_of_lt hv.1 hv.2]
theorem cdU_2 {p u0 u1 v0 v1 : Int} (hp : 0 < p) (h0 : 0 ≤ u0 ∧ u0 < p) (h1 : 0 ≤ u1 ∧ u1 < p) (h2 : 0 ≤ v0 ∧ v0 < p) (h3 : 0 ≤ v1 ∧ v1 < p) : cdU p 2 (u0 + p * (u1 + p * (v0 + p * v1))) = uv2 u0 u1 v0 v1 := by
  unfold cdU
  rw [if_neg (by decide), (dg_1 hp h0).1, (dg_1 hp h0).2, (dg_1 hp h1).1, (dg_1 hp h1).2, (dg_1 hp h2).1, (dg_1 hp h2).2, Int.emod_eq_of_lt h3.1 h3.2]
theorem alL_mem {p : Int} {F : Nat → Int} {d : Nat} {A : UV} : ∀ m c : Nat, A ∈ alL p F d m c ↔ ∃ k : Nat, c ≤ k ∧ k < c + m ∧ A = cdU p d k ∧ vldB p F A = true
  | 0, c => ⟨fun h => (by cases h), fun ⟨k, h1, h2, _⟩ => (by omega)⟩
  | m + 1, c => by
    unfold alL
    rw [List.mem_append, alL_mem m (c + 1)]
    constructor
    · rintro (h | ⟨k, h1, h2, h3⟩)
      · by_cases cv : vldB p F (cdU p d c) = true
        · rw [if_pos cv] at h
          have h := List.mem_singleton.mp h
          exact ⟨c, by omega, by omega, h, by rw [h]; exact cv⟩
        · rw [if_neg cv] at h; cases h
      · exact ⟨k, by omega, by omega, h3⟩
    · rintro ⟨k, h1, h2, h3, h4⟩
      by_cases ck : k = c
      · left
        rw [ck] at h3
        rw [← h3, if_pos h4]
        exact List.mem_singleton.mpr rfl
      · exact Or.inr ⟨k, by omega, by omega, h3, h4⟩
theorem sq_lt {p u v : Int} (hu : 0 ≤ u ∧ u < p) (hv : 0 ≤ v ∧ v < p) : 0 ≤ u + p * v ∧ u + p * v < p * p := by
  have h1 : 0 ≤ p * v := Int.mul_nonneg (by omega) hv.1
  have h2 : p * v ≤ p * (p - 1) := Int.mul_le_mul_of_nonneg_left (by omega) (by omega)
  have h3 : p * (p - 1) = p * p - p := by rw [Int.mul_sub, Int.mul_one]
  omega
theorem mAl_mem {p : Int} {F : Nat → Int} (hC : CF p (gen F) F) (A : UV) : A ∈ mAl p F ↔ GP p (gen F) F A := by
  have hp := hC.1
  have hr := hp.rg
  have hg := hC.2.2.2.2
  unfold mAl
  rw [List.mem_append, List.mem_append, alL_mem]
  constructor
  · rintro ((h | ⟨k, -, -, h3, h4⟩) | h)
    · rw [List.mem_singleton.mp h]; exact zero_GP hC
    · have rp : RP p (gen F) A := by rw [h3]; exact cdU_ok hp (Or.inl rfl) (by omega) (by omega) _
      exact ⟨rp, (vld_iff hC rp).mp h4⟩
    · by_cases c : gen F = 2
      · rw [if_pos c, alL_mem] at h
        obtain ⟨k, -, -, h3, h4⟩ := h
        have rp : RP p (gen F) A := by rw [h3]; exact cdU_ok hp (Or.inr rfl) (by omega) (by omega) _
        exact ⟨rp, (vld_iff hC rp).mp h4⟩
      · rw [if_neg c] at h; cases h
  · intro h
    have vl := (vld_iff hC h.1).mpr h.2
    rcases RP_cs (by omega) h.1 with e | ⟨u, v, hu, hv, e⟩ | ⟨g2, u0, u1, v0, v1, ⟨a0, a1⟩, ⟨b0, b1⟩, e⟩
    · exact Or.inl (Or.inl (List.mem_singleton.mpr e))
    · have l := sq_lt hu hv
      refine Or.inl (Or.inr ⟨(u + p * v).toNat, by omega, by omega, ?_, vl⟩)
      rw [Int.toNat_of_nonneg l.1, cdU_1 (by omega) hu hv]; exact e
    · right
      have l1 := sq_lt b0 b1
      have l2 : 0 ≤ u1 + p * (v0 + p * v1) ∧ u1 + p * (v0 + p * v1) < p * (p * p) := by
        have h1 : 0 ≤ p * (v0 + p * v1) := Int.mul_nonneg (by omega) l1.1
        have h2 : p * (v0 + p * v1) ≤ p * (p * p - 1) := Int.mul_le_mul_of_nonneg_left (by omega) (by omega)
        have h3 : p * (p * p - 1) = p * (p * p) - p := by rw [Int.mul_sub, Int.mul_one]
        omega
      have l3 : 0 ≤ u0 + p * (u1 + p * (v0 + p * v1)) ∧ u0 + p * (u1 + p * (v0 + p * v1)) < p * (p * (p * p)) := by
        have h1 : 0 ≤ p * (u1 + p * (v0 + p * v1)) := Int.mul_nonneg (by omega) l2.1
        have h2 : p * (u1 + p * (v0 + p * v1)) ≤ p * (p * (p * p) - 1) := Int.mul_le_mul_of_nonneg_left (by omega) (by omega)
        have h3 : p * (p * (p * p) - 1) = p * (p * (p * p)) - p := by rw [Int.mul_sub, Int.mul_one]
        omega
      rw [if_pos g2, alL_mem]
      refine ⟨(u0 + p * (u1 + p * (v0 + p * v1))).toNat, by omega, ?_, ?_, vl⟩
      · rw [show p * p * p * p = p * (p * (p * p)) by rw [Int.mul_assoc, Int.mul_assoc]]
        omega
      · rw [Int.toNat_of_nonneg l3.1, cdU_2 (by omega) a0 a1 b0 b1]; exact e
/-! keys, and the class's list in their order -/
theorem kz_0 {p : Int} : kyF p czero = 0 := by
  unfold kyF
  rw [if_pos (by show pd pone ≤ 0; decide)]
theorem uv1_pd (u v : Int) : pd (uv1 u v).1 = 1 := pd_eq (m := 1) (by decide) (by show (1 : Int) ≠ 0; decide) (fun i hi => by show (if i = 0 then u else if i = 1 then 1 else 0) = (0 : Int); rw [if_neg (by omega), if_neg (by omega)])
theorem uv2_pd (u0 u1 v0 v1 : Int) : pd (uv2 u0 u1 v0 v1).1 = 2 := uqd_pd u0 u1
theorem kz_1 {p u v : Int} : kyF p (uv1 u v) = 1 + u * p + v := by
  unfold kyF
  rw [uv1_pd, if_neg (by decide), if_pos rfl]; rfl
theorem kz_2 {p u0 u1 v0 v1 : Int} : kyF p (uv2 u0 u1 v0 v1) = 1 + p * p + (u0 * p + u1) * p * p + v1 * p + v0 := by
  unfold kyF
  rw [uv2_pd, if_neg (by decide), if_neg (by decide)]; rfl
