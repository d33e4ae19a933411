/-! ===== polynomials by remainders of a prime: degrees ===== -/
theorem nz3 : ∀ a : Nat, a < 3 → 0 < a → (∀ b : Nat, b < 3 → 0 < b → ((a : Int) * b) % 3 ≠ 0) ∧ ((a : Int) * inv 3 a) % 3 = 1 := by decide
theorem nz5 : ∀ a : Nat, a < 5 → 0 < a → (∀ b : Nat, b < 5 → 0 < b → ((a : Int) * b) % 5 ≠ 0) ∧ ((a : Int) * inv 5 a) % 5 = 1 := by decide
theorem nz7 : ∀ a : Nat, a < 7 → 0 < a → (∀ b : Nat, b < 7 → 0 < b → ((a : Int) * b) % 7 ≠ 0) ∧ ((a : Int) * inv 7 a) % 7 = 1 := by decide
theorem nz11 : ∀ a : Nat, a < 11 → 0 < a → (∀ b : Nat, b < 11 → 0 < b → ((a : Int) * b) % 11 ≠ 0) ∧ ((a : Int) * inv 11 a) % 11 = 1 := by decide
theorem nz13 : ∀ a : Nat, a < 13 → 0 < a → (∀ b : Nat, b < 13 → 0 < b → ((a : Int) * b) % 13 ≠ 0) ∧ ((a : Int) * inv 13 a) % 13 = 1 := by decide
theorem nzp {p : Int} (hp : IsP p) (a b : Int) (ha : 0 < a ∧ a < p) (hb : 0 < b ∧ b < p) : (a * b) % p ≠ 0 ∧ (a * inv p a) % p = 1 := by
  obtain ⟨a', rfl⟩ := Int.eq_ofNat_of_zero_le (show 0 ≤ a by omega)
  obtain ⟨b', rfl⟩ := Int.eq_ofNat_of_zero_le (show 0 ≤ b by omega)
  rcases hp with rfl | rfl | rfl | rfl | rfl
  · exact ⟨(nz3 a' (by omega) (by omega)).1 b' (by omega) (by omega), (nz3 a' (by omega) (by omega)).2⟩
  · exact ⟨(nz5 a' (by omega) (by omega)).1 b' (by omega) (by omega), (nz5 a' (by omega) (by omega)).2⟩
  · exact ⟨(nz7 a' (by omega) (by omega)).1 b' (by omega) (by omega), (nz7 a' (by omega) (by omega)).2⟩
  · exact ⟨(nz11 a' (by omega) (by omega)).1 b' (by omega) (by omega), (nz11 a' (by omega) (by omega)).2⟩
  · exact ⟨(nz13 a' (by omega) (by omega)).1 b' (by omega) (by omega), (nz13 a' (by omega) (by omega)).2⟩
theorem inv_mul {p : Int} (hp : IsP p) {a : Int} (ha : 0 < a ∧ a < p) : (a * inv p a) % p = 1 := (nzp hp a 1 ha ⟨by decide, by have := hp.rg; omega⟩).2
theorem inv_rg {p : Int} (hp : IsP p) {a : Int} (ha : 0 < a ∧ a < p) : 0 < inv p a ∧ inv p a < p := by
  have h1 := inv_mul hp ha
  have h2 : ∀ m : Nat, invL p a m ≤ ((m : Int) - 1) ∨ invL p a m = 0 := by
    intro m
    induction m with
    | zero => exact Or.inr rfl
    | succ m ih =>
      unfold invL
      split <;> omega
  have h3 := inv_bd hp.rg.2 (by have := hp.rg; omega) a
  have h4 := h2 p.toNat
  have h5 : inv p a ≠ 0 := fun e => by
    rw [e] at h1
    simp at h1
  have h6 := hp.rg
  unfold inv at h3 h5 ⊢
  split <;> rename_i c
  · rw [if_pos c] at h3 h5
    omega
  · omega
theorem mul_md (a b p : Int) : (a % p * b) % p = (a * b) % p := by rw [Int.mul_emod, Int.emod_emod, ← Int.mul_emod]
/-- the lead goes away -/
theorem dstep_lead {p : Int} (hp : IsP p) {g f : Nat → Int} {d i : Nat} (hdi : d ≤ i) (hg : 0 < g d ∧ g d < p) : dstep p g d (inv p (g d)) i f i = 0 := by
  unfold dstep
  rw [if_pos ⟨by omega, by omega⟩, show i - (i - d) = d by omega, Int.sub_emod, mul_md]
  have e : (f i * inv p (g d) * g d) % p = f i % p := by
    rw [Int.mul_assoc, Int.mul_emod, Int.mul_comm (inv p (g d)), inv_mul hp hg, Int.mul_one, Int.emod_emod]
  rw [e]
  simp
theorem dvr_low {p : Int} (hp : IsP p) {g : Nat → Int} {d : Nat} (hg : 0 < g d ∧ g d < p) : ∀ (m : Nat) (f : Nat → Int), (∀ t, d + m ≤ t → f t = 0) → ∀ t, d ≤ t → dvr p g d (inv p (g d)) m f t = 0
  | 0, f, h, t, ht => h t (by omega)
  | m + 1, f, h, t, ht => by
    refine dvr_low hp hg m _ (fun s hs => ?_) t ht
    by_cases e : s = d + m
    · subst e; exact dstep_lead hp (by omega) hg
    · rw [dstep_hi (by omega)]; exact h s (by omega)
theorem pd_lead {p : Int} {f : Nat → Int} (hf : InP p f) (h : 0 ≤ pd f) : 0 < f (pd f).toNat ∧ f (pd f).toNat < p := by
  have h1 := dg_lead f 24 h
  have h2 := hf (pd f).toNat
  have h3 : f (pd f).toNat ≠ 0 := h1
  omega
theorem pd_dvR_lt {p : Int} (hp : IsP p) {f g : Nat → Int} (hf : Fin f) (hg : InP p g) (hg0 : 0 ≤ pd g) : pd (dvR p f g) < pd g := by
  have hl := pd_lead hg hg0
  have h : pd (dvR p f g) ≤ pd g - 1 := by
    refine pd_le (by omega) (fun i hi => ?_)
    exact dvr_low hp hl _ f (fun t ht => pd_hi hf t (by omega)) i (by omega)
  omega
theorem dvr_fin {p : Int} {f g : Nat → Int} (hf : Fin f) (hg0 : 0 ≤ pd g) : Fin (dvR p f g) := fun i hi => by
  have h24 := pd_lt f
  unfold dvR
  by_cases c : (pd f - pd g + 1).toNat = 0
  · rw [c]; exact hf i hi
  · rw [dvr_hi _ _ _ (by omega)]; exact hf i hi
theorem dvq_fin {p : Int} {f g : Nat → Int} (hg0 : 0 ≤ pd g) : Fin (dvQ p f g) := fun i hi => by
  have h24 := pd_lt f
  unfold dvQ
  exact dvq_hi _ _ _ (by omega)
theorem csum_one (f g : Nat → Int) (t a : Nat) (ha : a ≤ t) (h : ∀ i, i ≤ t → i ≠ a → f i * g (t - i) = 0) : ∀ n, csum f g t n = if a < n then f a * g (t - a) else 0
  | 0 => by simp [csum]
  | n + 1 => by
    have st : csum f g t (n + 1) = csum f g t n + (if n ≤ t then f n * g (t - n) else 0) := rfl
    rw [st, csum_one f g t a ha h n]
    by_cases e : a = n
    · subst e
      rw [if_neg (Nat.lt_irrefl a), if_pos ha, if_pos (Nat.lt_succ_self a)]; omega
    · have hz : (if n ≤ t then f n * g (t - n) else 0) = 0 := by
        split
        · rename_i c2; exact h n c2 (fun q => e q.symm)
        · rfl
      rw [hz]
      by_cases c : a < n
      · rw [if_pos c, if_pos (by omega : a < n + 1)]; omega
      · rw [if_neg c, if_neg (by omega : ¬ a < n + 1)]; rfl
theorem pmul_top {p : Int} {f g : Nat → Int} (hf : Fin f) (hg : Fin g) (h0 : 0 ≤ pd f) (h1 : 0 ≤ pd g) : pmul p f g ((pd f).toNat + (pd g).toNat) = (f (pd f).toNat * g (pd g).toNat) % p := by
  unfold pmul
  rw [csum_one f g _ (pd f).toNat (by omega) (fun i hi hne => ?_), if_pos (by omega), show (pd f).toNat + (pd g).toNat - (pd f).toNat = (pd g).toNat by omega]
  by_cases c : (i : Int) < pd f
  · rw [pd_hi hg _ (by omega)]; simp
  · rw [pd_hi hf i (by omega)]; simp
theorem pd_eq {f : Nat → Int} {m : Nat} (hm : m < 24) (h1 : f m ≠ 0) (h2 : ∀ i : Nat, m < i → f i = 0) : pd f = (m : Int) := by
  have a1 : pd f ≤ m := pd_le (by omega) (fun i hi => h2 i (by omega))
  by_cases c : pd f = (m : Int)
  · exact c
  · exact absurd (dg_above f 24 m (by unfold pd at a1 c; omega) hm) h1
theorem pd_pmul_eq {p : Int} (hp : IsP p) {f g : Nat → Int} (hf : Fin f) (hg : Fin g) (if_ : InP p f) (ig : InP p g) (h0 : 0 ≤ pd f) (h1 : 0 ≤ pd g) (h2 : pd f + pd g < 24) : pd (pmul p f g) = pd f + pd g := by
  have := pd_eq (f := pmul p f g) (m := (pd f).toNat + (pd g).toNat) (by omega) (by rw [pmul_top hf hg h0 h1]; exact (nzp hp _ _ (pd_lead if_ h0) (pd_lead ig h1)).1) (fun i hi => pmul_hi (pd_hi hf) (pd_hi hg) i (by omega))
  omega
theorem pd_dvQ_eq {p : Int} (hp : IsP p) {f g : Nat → Int} (if_ : InP p f) (ig : InP p g) (h1 : 0 ≤ pd g) (h2 : pd g ≤ pd f) : pd (dvQ p f g) = pd f - pd g := by
  have h24 := pd_lt f
  have hl := pd_lead ig h1
  have hf := pd_lead if_ (show 0 ≤ pd f by omega)
  have hm : (pd f - pd g + 1).toNat = (pd f - pd g).toNat + 1 := by omega
  have h3 := pd_eq (f := dvQ p f g) (m := (pd f - pd g).toNat) (by omega) (by
    unfold dvQ
    rw [hm]
    show (if (pd f - pd g).toNat = (pd f - pd g).toNat then _ else _) ≠ 0
    rw [if_pos rfl, show (pd g).toNat + (pd f - pd g).toNat = (pd f).toNat by omega]
    exact (nzp hp _ _ hf (inv_rg hp hl)).1) (fun i hi => by
    unfold dvQ
    exact dvq_hi _ _ _ (by omega))
  omega
theorem pscl_in {p c : Int} (hp : 0 < p) {f : Nat → Int} : InP p (pscl p f c) := fun i => emr _ hp
theorem padd_in {p c : Int} (hp : 0 < p) {f g : Nat → Int} : InP p (padd p f g c) := fun i => emr _ hp
theorem pmul_in {p : Int} (hp : 0 < p) {f g : Nat → Int} : InP p (pmul p f g) := fun i => emr _ hp
theorem pscl_fin {p c : Int} {f : Nat → Int} (hf : Fin f) : Fin (pscl p f c) := fun i hi => by unfold pscl; rw [hf i hi]; simp
theorem padd_fin {p c : Int} {f g : Nat → Int} (hf : Fin f) (hg : Fin g) : Fin (padd p f g c) := fun i hi => by unfold padd; rw [hf i hi, hg i hi]; simp
theorem pmul_fin {p : Int} {f g : Nat → Int} (hf : Fin f) (hg : Fin g) (h : pd f + pd g < 24) : Fin (pmul p f g) := fun i hi => pmul_hi (pd_hi hf) (pd_hi hg) i (by omega)
theorem dvR_in {p : Int} (hp : 0 < p) {f g : Nat → Int} (hf : InP p f) : InP p (dvR p f g) := dvr_in hp _ _ hf
theorem dvQ_in {p : Int} (hp : 0 < p) {f g : Nat → Int} : InP p (dvQ p f g) := dvq_in hp _ _
theorem pd_pscl {p : Int} (hp : IsP p) {f : Nat → Int} {c : Int} (if_ : InP p f) (hf : Fin f) (hc : 0 < c ∧ c < p) : pd (pscl p f c) = pd f := by
  by_cases h0 : 0 ≤ pd f
  · have h24 := pd_lt f
    have := pd_eq (f := pscl p f c) (m := (pd f).toNat) (by omega) (by unfold pscl; exact (nzp hp _ _ (pd_lead if_ h0) hc).1) (fun i hi => by unfold pscl; rw [pd_hi hf i (by omega)]; simp)
    omega
  · have h1 := pd_ge f
    have h2 := pd_ge (pscl p f c)
    have h3 : pd (pscl p f c) ≤ -1 := pd_le (by omega) (fun i hi => by unfold pscl; rw [pd_hi hf i (by omega)]; simp)
    omega
/-- what the extended algorithm keeps -/
def EOk (p : Int) (e : E6) : Prop := (InP p e.1 ∧ Fin e.1) ∧ (InP p e.2.1 ∧ Fin e.2.1) ∧ (InP p e.2.2.1 ∧ Fin e.2.2.1) ∧ (InP p e.2.2.2.1 ∧ Fin e.2.2.2.1) ∧ (InP p e.2.2.2.2.1 ∧ Fin e.2.2.2.2.1) ∧ (InP p e.2.2.2.2.2 ∧ Fin e.2.2.2.2.2)
/-- s1 and r0, s0 and r1 are together at most D1 long; t1 and r0, t0 and r1 at most D2 -/
def EB (D1 D2 : Int) (e : E6) : Prop := pd e.2.2.2.1 + pd e.1 ≤ D1 ∧ pd e.2.2.1 + pd e.2.1 ≤ D1 ∧ pd e.2.2.2.2.2 + pd e.1 ≤ D2 ∧ pd e.2.2.2.2.1 + pd e.2.1 ≤ D2
theorem EB_n {p D : Int} {f g s0 s1 : Nat → Int} (hs0 : Fin s0) (hs1 : Fin s1) (hP : Fin (pmul p (dvQ p f g) s1)) (h : pd s1 + pd f ≤ D) (h2 : pd s0 + pd g ≤ D) (hg : 0 ≤ pd g) (hD : pd g - 1 ≤ D) : pd (padd p s0 (pmul p (dvQ p f g) s1) (-1)) + pd g ≤ D := by
  have a1 := pd_padd (p := p) (c := -1) hs0 hP
  have a2 := pd_pmul (p := p) (dvq_fin (p := p) (f := f) hg) hs1
  have a3 := pd_dvQ (p := p) (f := f) (g := g)
  have a4 := pd_ge s1
  by_cases c : pd (dvQ p f g) < 0
  · have a5 := pd_pmul0 (p := p) (g := s1) (dvq_fin (p := p) (f := f) hg) c
    omega
  · omega
theorem estep_ok {p D1 D2 : Int} (hp : IsP p) {e : E6} (h : EOk p e) (hB : EB D1 D2 e) (hg : 0 ≤ pd e.2.1) (hD1 : D1 < 12) (hD2 : D2 < 12) (hm1 : pd e.2.1 - 1 ≤ D1) (hm2 : pd e.2.1 - 1 ≤ D2) : EOk p (estep p e) ∧ EB D1 D2 (estep p e) := by
  obtain ⟨h1, h7, h3, h9, h5, h11⟩ := h
  obtain ⟨b1, b2, b3, b4⟩ := hB
  have hp0 : 0 < p := by have := hp.rg; omega
  have hR := pd_dvR (p := p) (g := e.2.1) h1.2 hg
  have a3 := pd_dvQ (p := p) (f := e.1) (g := e.2.1)
  have a4 := pd_ge e.2.2.2.1
  have a5 := pd_ge e.2.2.2.2.2
  have a6 := pd_lt e.2.2.2.1
  have a7 := pd_lt e.2.2.2.2.2
  have fP : Fin (pmul p (dvQ p e.1 e.2.1) e.2.2.2.1) := pmul_fin (dvq_fin hg) h9.2 (by omega)
  have fP2 : Fin (pmul p (dvQ p e.1 e.2.1) e.2.2.2.2.2) := pmul_fin (dvq_fin hg) h11.2 (by omega)
  refine ⟨⟨h7, ⟨dvR_in hp0 h1.1, dvr_fin h1.2 hg⟩, h9, ⟨padd_in hp0, padd_fin h3.2 fP⟩, h11, ⟨padd_in hp0, padd_fin h5.2 fP2⟩⟩, ?_, ?_, ?_, ?_⟩
  · exact EB_n h3.2 h9.2 fP b1 b2 hg hm1
  · show pd e.2.2.2.1 + pd (dvR p e.1 e.2.1) ≤ D1
    omega
  · exact EB_n h5.2 h11.2 fP2 b3 b4 hg hm2
  · show pd e.2.2.2.2.2 + pd (dvR p e.1 e.2.1) ≤ D2
    omega
/-- it comes to an end: the second rest is 0, and the first is no longer than what it began with -/
theorem eun_ok {p D1 D2 : Int} (hp : IsP p) (hD1 : D1 < 12) (hD2 : D2 < 12) : ∀ (m : Nat) (e : E6), EOk p e → EB D1 D2 e → 0 ≤ pd e.1 → pd e.2.1 < m → pd e.2.1 - 1 ≤ D1 → pd e.2.1 - 1 ≤ D2 → EOk p (eun p m e) ∧ EB D1 D2 (eun p m e) ∧ 0 ≤ pd (eun p m e).1 ∧ pd (eun p m e).2.1 < 0 ∧ (0 ≤ pd e.2.1 → pd (eun p m e).1 ≤ pd e.2.1)
  | 0, e, h, hB, h0, h1, _, _ => ⟨h, hB, h0, by show pd e.2.1 < 0; omega, fun q => by omega⟩
  | m + 1, e, h, hB, h0, h1, hm1, hm2 => by
    unfold eun
    by_cases c : pd e.2.1 < 0
    · rw [if_pos c]
      exact ⟨h, hB, h0, c, fun q => by omega⟩
    · rw [if_neg c]
      obtain ⟨k1, k2⟩ := estep_ok hp h hB (by omega) hD1 hD2 hm1 hm2
      have hlt : pd (estep p e).2.1 < pd e.2.1 := pd_dvR_lt hp h.1.2 h.2.1.1 (by omega)
      have h9 : pd (estep p e).1 = pd e.2.1 := rfl
      obtain ⟨r1, r2, r3, r4, r5⟩ := eun_ok hp hD1 hD2 m (estep p e) k1 k2 (by omega) (by omega) (by omega) (by omega)
      refine ⟨r1, r2, r3, r4, fun _ => ?_⟩
      by_cases c2 : 0 ≤ pd (estep p e).2.1
      · have := r5 c2; omega
      · -- the next rest is 0 at once
        have e1 : eun p m (estep p e) = estep p e := by
          cases m with
          | zero => rfl
          | succ m => unfold eun; rw [if_pos (by omega)]
        rw [e1]; omega
theorem pone_ok {p : Int} (hp : 1 < p) : InP p pone ∧ Fin pone ∧ pd pone = 0 := ⟨fun i => by unfold pone; split <;> omega, fun i hi => by unfold pone; rw [if_neg (by omega)], by decide⟩
theorem pzero_ok {p : Int} (hp : 0 < p) : InP p pzero ∧ Fin pzero ∧ pd pzero = -1 := ⟨fun i => ⟨Int.le_refl 0, hp⟩, fun i hi => rfl, by decide⟩
/-- what Euclid answers, of two that are at most 9 long, the first not 0 -/
theorem eG_ok {p : Int} (hp : IsP p) {f g : Nat → Int} (if_ : InP p f) (ff : Fin f) (ig : InP p g) (fg : Fin g) (h0 : 0 ≤ pd f) (hf9 : pd f ≤ 9) (hg9 : pd g ≤ 9) :
    (InP p (eG p f g) ∧ Fin (eG p f g) ∧ 0 ≤ pd (eG p f g) ∧ pd (eG p f g) ≤ pd f ∧ (0 ≤ pd g → pd (eG p f g) ≤ pd g) ∧ eG p f g (pd (eG p f g)).toNat = 1) ∧ (InP p (eS p f g) ∧ Fin (eS p f g) ∧ pd (eS p f g) ≤ max (pd g) (pd f - 1) + 1) ∧ (InP p (eT p f g) ∧ Fin (eT p f g) ∧ pd (eT p f g) ≤ max (pd f) (pd g - 1) + 1) := by
  have hr := hp.rg
  have o1 := pone_ok (p := p) (by omega)
  have o0 := pzero_ok (p := p) (by omega)
  have g1 := pd_ge g
  have EO : EOk p (e0 f g) := ⟨⟨if_, ff⟩, ⟨ig, fg⟩, ⟨o1.1, o1.2.1⟩, ⟨o0.1, o0.2.1⟩, ⟨o0.1, o0.2.1⟩, ⟨o1.1, o1.2.1⟩⟩
  have EBB : EB (max (pd g) (pd f - 1)) (max (pd f) (pd g - 1)) (e0 f g) := by
    refine ⟨?_, ?_, ?_, ?_⟩
    · show pd pzero + pd f ≤ _; omega
    · show pd pone + pd g ≤ _; omega
    · show pd pone + pd f ≤ _; omega
    · show pd pzero + pd g ≤ _; omega
  obtain ⟨r1, r2, r3, r4, r5⟩ := eun_ok hp (by omega) (by omega) 20 (e0 f g) EO EBB h0 (by show pd g < 20; omega) (by show pd g - 1 ≤ _; omega) (by show pd g - 1 ≤ _; omega)
  have r5 : 0 ≤ pd g → pd (eun p 20 (e0 f g)).1 ≤ pd g := r5
  have r6 : pd (eun p 20 (e0 f g)).1 ≤ pd f := by
    by_cases c : pd g < 0
    · have : eun p 20 (e0 f g) = e0 f g := by
        show (if pd g < 0 then e0 f g else _) = _
        rw [if_pos c]
      rw [this]; exact Int.le_refl _
    · by_cases c2 : pd g ≤ pd f
      · have := r5 (by omega); omega
      · have e1 : eun p 20 (e0 f g) = eun p 19 (estep p (e0 f g)) := by
          show (if pd g < 0 then e0 f g else _) = _
          rw [if_neg c]
        have e2 : (estep p (e0 f g)).2.1 = f := by
          show dvR p f g = f
          unfold dvR
          rw [show (pd f - pd g + 1).toNat = 0 by omega]; rfl
        obtain ⟨k1, k2⟩ := estep_ok hp EO EBB (by show 0 ≤ pd g; omega) (by omega) (by omega) (by show pd g - 1 ≤ _; omega) (by show pd g - 1 ≤ _; omega)
        obtain ⟨q1, q2, q3, q4, q5⟩ := eun_ok hp (by omega) (by omega) 19 (estep p (e0 f g)) k1 k2 (by show 0 ≤ pd g; omega) (by rw [e2]; omega) (by rw [e2]; omega) (by rw [e2]; omega)
        rw [e1]
        rw [e2] at q5
        exact q5 h0
  generalize hE : eun p 20 (e0 f g) = E at r1 r2 r3 r4 r5 r6
  have hEE : eEnd p f g = E := hE
  have hl := pd_lead r1.1.1 r3
  have hi := inv_rg hp hl
  obtain ⟨s1, s7, s3, s9, s5, s11⟩ := r1
  have dG : pd (eG p f g) = pd E.1 := by unfold eG; rw [hEE]; exact pd_pscl hp s1.1 s1.2 hi
  have dS : pd (eS p f g) = pd E.2.2.1 := by unfold eS; rw [hEE]; exact pd_pscl hp s3.1 s3.2 hi
  have dT : pd (eT p f g) = pd E.2.2.2.2.1 := by unfold eT; rw [hEE]; exact pd_pscl hp s5.1 s5.2 hi
  have r7 := pd_ge E.2.1
  refine ⟨⟨pscl_in (by omega), ?_, by omega, by omega, fun q => by have := r5 q; omega, ?_⟩, ⟨pscl_in (by omega), ?_, ?_⟩, ⟨pscl_in (by omega), ?_, ?_⟩⟩
  · unfold eG; rw [hEE]; exact pscl_fin s1.2
  · rw [dG]; unfold eG; rw [hEE]; exact inv_mul hp hl
  · unfold eS; rw [hEE]; exact pscl_fin s3.2
  · rw [dS]; have := r2.2.1; omega
  · unfold eT; rw [hEE]; exact pscl_fin s5.2
  · rw [dT]; have := r2.2.2.2; omega
