/-! ===== the class's list: in order, and the same classes ===== -/
theorem c_sub {S : Type} [Lean.Grind.CommRing S] {p : Int} {c : Int → S} (h : CM p c) (a b : Int) : c (a - b) = c a - c b := by
  rw [show a - b = a + -b by omega, h.1, c_neg h]; grind
theorem krV_rg {p f1 u1 : Int} (hp : 0 < p) (v : Nat) : 0 ≤ krV p f1 u1 v ∧ krV p f1 u1 v < p := emr _ hp
theorem krV_iff {p : Int} (hp : IsP p) {f1 u1 v0 : Int} {w : Nat} (hf : 0 ≤ f1 ∧ f1 < p) (hw : 1 ≤ w ∧ (w : Int) < p) (hv : 0 ≤ v0 ∧ v0 < p) : (2 * v0 * w - (w : Int) * w * u1) % p = f1 ↔ v0 = krV p f1 u1 w :=
  with_ser hp (fun S _ cs c tp hS => by
    have hr := hp.rg
    have h2 : 0 < (2 * (w : Int)) % p ∧ (2 * (w : Int)) % p < p := by
      refine ⟨?_, (emr _ (by omega)).2⟩
      rcases hp with e | e | e | e | e <;> subst e <;> omega
    have hi := inv_mul hp h2
    obtain ⟨i, ei⟩ : ∃ i : Int, inv p ((2 * (w : Int)) % p) = i := ⟨_, rfl⟩
    rw [ei] at hi
    have hc : c 2 * c w * c i = 1 := by
      rw [← hS.2.1.2.1, ← hS.2.1.2.1]
      have : c (2 * w * i) = c 1 := by
        rw [← hS.2.1.2.2.1 (2 * w * i), ← hi, mul_md]
      rw [this, hS.2.1.2.2.2.2]
    have ek : c (krV p f1 u1 w) = (c f1 + c w * c w * c u1) * c i := by
      unfold krV
      rw [ei, hS.2.1.2.2.1, hS.2.1.2.1, hS.2.1.1, hS.2.1.2.1, hS.2.1.2.2.1, hS.2.1.2.1]
    have el : c (2 * v0 * w - (w : Int) * w * u1) = c 2 * c v0 * c w - c w * c w * c u1 := by
      rw [c_sub hS.2.1, hS.2.1.2.1, hS.2.1.2.1, hS.2.1.2.1, hS.2.1.2.1]
    have kr := krV_rg (p := p) (f1 := f1) (u1 := u1) (by omega) w
    constructor
    · intro h
      have e1 : c f1 = c 2 * c v0 * c w - c w * c w * c u1 := by rw [← el, ← h, hS.2.1.2.2.1]
      have e2 : c v0 = c (krV p f1 u1 w) := by
        rw [ek, e1]
        have : (c 2 * c v0 * c w - c w * c w * c u1 + c w * c w * c u1) * c i = c v0 * (c 2 * c w * c i) := by clear hc ek el e1; grind
        rw [this, hc]; grind
      have := c_inj hS e2
      rw [Int.emod_eq_of_lt hv.1 hv.2, Int.emod_eq_of_lt kr.1 kr.2] at this
      exact this
    · intro h
      rw [h]
      have e1 : c (2 * krV p f1 u1 w * w - (w : Int) * w * u1) = c f1 := by
        rw [c_sub hS.2.1, hS.2.1.2.1, hS.2.1.2.1, hS.2.1.2.1, hS.2.1.2.1, ek]
        have : c 2 * ((c f1 + c w * c w * c u1) * c i) * c w - c w * c w * c u1 = (c f1 + c w * c w * c u1) * (c 2 * c w * c i) - c w * c w * c u1 := by clear hc ek el; grind
        rw [this, hc]; grind
      have := c_inj hS e1
      rw [Int.emod_eq_of_lt hf.1 hf.2] at this
      exact this)
theorem kr1_mem {p f0 u0 u1 : Int} {A : UV} : ∀ m v : Nat, A ∈ kr1 p f0 u0 u1 m v ↔ ∃ k : Nat, v ≤ k ∧ k < v + m ∧ A = uv2 u0 u1 k 0 ∧ ((k : Int) * k) % p = f0
  | 0, v => ⟨fun h => (by cases h), fun ⟨k, h1, h2, _⟩ => (by omega)⟩
  | m + 1, v => by
    unfold kr1
    rw [List.mem_append, kr1_mem m (v + 1)]
    constructor
    · rintro (h | ⟨k, h1, h2, h3⟩)
      · by_cases cv : ((v : Int) * v) % p = f0
        · rw [if_pos cv] at h
          exact ⟨v, by omega, by omega, List.mem_singleton.mp h, cv⟩
        · rw [if_neg cv] at h; cases h
      · exact ⟨k, by omega, by omega, h3⟩
    · rintro ⟨k, h1, h2, h3, h4⟩
      by_cases ck : k = v
      · left
        rw [ck] at h3 h4
        rw [if_pos h4, h3]
        exact List.mem_singleton.mpr rfl
      · exact Or.inr ⟨k, by omega, by omega, h3, h4⟩
theorem kr2_mem {p f0 f1 u0 u1 : Int} {A : UV} : ∀ m v : Nat, A ∈ kr2 p f0 f1 u0 u1 m v ↔ ∃ k : Nat, v ≤ k ∧ k < v + m ∧ A = uv2 u0 u1 (krV p f1 u1 k) k ∧ (krV p f1 u1 k * krV p f1 u1 k - ((k : Int) * k) % p * u0) % p = f0
  | 0, v => ⟨fun h => (by cases h), fun ⟨k, h1, h2, _⟩ => (by omega)⟩
  | m + 1, v => by
    unfold kr2
    rw [List.mem_append, kr2_mem m (v + 1)]
    constructor
    · rintro (h | ⟨k, h1, h2, h3⟩)
      · by_cases cv : (krV p f1 u1 v * krV p f1 u1 v - ((v : Int) * v) % p * u0) % p = f0
        · rw [if_pos cv] at h
          exact ⟨v, by omega, by omega, List.mem_singleton.mp h, cv⟩
        · rw [if_neg cv] at h; cases h
      · exact ⟨k, by omega, by omega, h3⟩
    · rintro ⟨k, h1, h2, h3, h4⟩
      by_cases ck : k = v
      · left
        rw [ck] at h3 h4
        rw [if_pos h4, h3]
        exact List.mem_singleton.mpr rfl
      · exact Or.inr ⟨k, by omega, by omega, h3, h4⟩
theorem sub_md (a b d p : Int) : (a - b % p * d) % p = (a - b * d) % p := by
  rw [Int.sub_emod, mul_md, ← Int.sub_emod]
/-- of one U all V -/
theorem krA_mem {p : Int} (hp : IsP p) {f0 f1 u0 u1 : Int} (hf : 0 ≤ f1 ∧ f1 < p) {A : UV} : A ∈ krA p f0 f1 u0 u1 ↔ ∃ v0 v1 : Int, (0 ≤ v0 ∧ v0 < p) ∧ (0 ≤ v1 ∧ v1 < p) ∧ A = uv2 u0 u1 v0 v1 ∧ (v0 * v0 - v1 * v1 * u0) % p = f0 ∧ (2 * v0 * v1 - v1 * v1 * u1) % p = f1 := by
  have hr := hp.rg
  unfold krA
  rw [List.mem_append, kr2_mem]
  constructor
  · rintro (h | ⟨k, h1, h2, h3, h4⟩)
    · by_cases c : f1 = 0
      · rw [if_pos c, kr1_mem] at h
        obtain ⟨k, h1, h2, h3, h4⟩ := h
        refine ⟨k, 0, by omega, by omega, h3, ?_, ?_⟩
        · rw [Int.zero_mul, Int.zero_mul, Int.sub_zero]; exact h4
        · rw [Int.mul_zero, Int.zero_mul, Int.zero_mul, Int.sub_zero, Int.zero_emod]; exact c.symm
      · rw [if_neg c] at h; cases h
    · have kr := krV_rg (p := p) (f1 := f1) (u1 := u1) (by omega) k
      refine ⟨krV p f1 u1 k, k, kr, by omega, h3, ?_, (krV_iff hp hf (by omega) kr).mpr rfl⟩
      rw [← sub_md]; exact h4
  · rintro ⟨v0, v1, h1, h2, h3, h4, h5⟩
    by_cases c : v1 = 0
    · left
      rw [c] at h4 h5 h3
      rw [Int.zero_mul, Int.zero_mul, Int.sub_zero] at h4
      rw [Int.mul_zero, Int.zero_mul, Int.zero_mul, Int.sub_zero, Int.zero_emod] at h5
      rw [if_pos h5.symm, kr1_mem]
      refine ⟨v0.toNat, by omega, by omega, ?_, ?_⟩
      · rw [Int.toNat_of_nonneg h1.1]; exact h3
      · rw [Int.toNat_of_nonneg h1.1]; exact h4
    · right
      have e1 : ((v1.toNat : Nat) : Int) = v1 := by omega
      have ev := (krV_iff hp (u1 := u1) hf (w := v1.toNat) (by omega) h1).mp (by rw [e1]; exact h5)
      refine ⟨v1.toNat, by omega, by omega, ?_, ?_⟩
      · rw [← ev, e1]; exact h3
      · rw [← ev, e1, sub_md]; exact h4
theorem lgX_mem {p : Int} {F : Nat → Int} {u0 : Nat} {A : UV} : ∀ m u1 : Nat, A ∈ lgX p F u0 m u1 ↔ ∃ k : Nat, u1 ≤ k ∧ k < u1 + m ∧ A ∈ krA p (dvR p F (uqd u0 k) 0) (dvR p F (uqd u0 k) 1) u0 k
  | 0, v => ⟨fun h => (by cases h), fun ⟨k, h1, h2, _⟩ => (by omega)⟩
  | m + 1, v => by
    unfold lgX
    rw [List.mem_append, lgX_mem m (v + 1)]
    constructor
    · rintro (h | ⟨k, h1, h2, h3⟩)
      · exact ⟨v, by omega, by omega, h⟩
      · exact ⟨k, by omega, by omega, h3⟩
    · rintro ⟨k, h1, h2, h3⟩
      by_cases ck : k = v
      · rw [ck] at h3; exact Or.inl h3
      · exact Or.inr ⟨k, by omega, by omega, h3⟩
theorem lgA_mem {p : Int} {F : Nat → Int} {A : UV} : ∀ m u0 : Nat, A ∈ lgA p F m u0 ↔ ∃ k : Nat, u0 ≤ k ∧ k < u0 + m ∧ A ∈ lgX p F k p.toNat 0
  | 0, v => ⟨fun h => (by cases h), fun ⟨k, h1, h2, _⟩ => (by omega)⟩
  | m + 1, v => by
    unfold lgA
    rw [List.mem_append, lgA_mem m (v + 1)]
    constructor
    · rintro (h | ⟨k, h1, h2, h3⟩)
      · exact ⟨v, by omega, by omega, h⟩
      · exact ⟨k, by omega, by omega, h3⟩
    · rintro ⟨k, h1, h2, h3⟩
      by_cases ck : k = v
      · rw [ck] at h3; exact Or.inl h3
      · exact Or.inr ⟨k, by omega, by omega, h3⟩
theorem clsL_mem {p : Int} {F : Nat → Int} (hC : CF p (gen F) F) (A : UV) : A ∈ clsL p F (gen F) ↔ GP p (gen F) F A := by
  have hp := hC.1
  have hr := hp.rg
  have hg := hC.2.2.2.2
  have dr : ∀ u0 u1 : Int, 0 ≤ dvR p F (uqd u0 u1) 1 ∧ dvR p F (uqd u0 u1) 1 < p := fun u0 u1 => dvR_in (p := p) (by omega) hC.2.1 1
  have pt : ∀ u v : Int, (0 ≤ u ∧ u < p) → (0 ≤ v ∧ v < p) → (0 ≤ ptN (pall p F) ((-u) % p) v ↔ v * v % p = ev p F ((-u) % p)) := fun u v hu hv => by
    have x1 := emr (-u) (p := p) (by omega)
    have h := ptN_iff hp (F := F) (x := (-u) % p) (y := v) x1.1 hv.1
    have g := (pAt_rg (pall p F) ((-u) % p) v (pall p F).length 0).1
    have g : -1 ≤ ptN (pall p F) ((-u) % p) v := g
    constructor
    · intro k; exact (h.mp (by omega)).2.2
    · intro k
      have := h.mpr ⟨x1.2, hv.2, k⟩
      omega
  unfold clsL
  rw [List.mem_append, List.mem_append, l1X_mem]
  constructor
  · rintro ((h | ⟨x, k, h1, h2, h3, h4⟩) | h)
    · rw [List.mem_singleton.mp h]; exact zero_GP hC
    · rw [h3, uv1_GP hC (by omega) (by omega)]
      exact (pt x k (by omega) (by omega)).mp h4
    · by_cases c : gen F = 2
      · rw [if_pos c, lgA_mem] at h
        obtain ⟨u0, a1, a2, h⟩ := h
        rw [lgX_mem] at h
        obtain ⟨u1, b1, b2, h⟩ := h
        rw [krA_mem hp (dr _ _)] at h
        obtain ⟨v0, v1, c1, c2, c3, c4, c5⟩ := h
        rw [c3]
        exact (uv2_GP hC c (by omega) (by omega) c1 c2).mpr ⟨c4, c5⟩
      · rw [if_neg c] at h; cases h
  · intro h
    rcases RP_cs (by omega) h.1 with e | ⟨u, v, hu, hv, e⟩ | ⟨g2, u0, u1, v0, v1, ⟨a0, a1⟩, ⟨b0, b1⟩, e⟩
    · exact Or.inl (Or.inl (List.mem_singleton.mpr e))
    · refine Or.inl (Or.inr ⟨u.toNat, v.toNat, by omega, by omega, ?_, ?_⟩)
      · rw [Int.toNat_of_nonneg hu.1, Int.toNat_of_nonneg hv.1]; exact e
      · rw [Int.toNat_of_nonneg hu.1, Int.toNat_of_nonneg hv.1]
        rw [e, uv1_GP hC hu hv] at h
        exact (pt u v hu hv).mpr h
    · right
      rw [if_pos g2, lgA_mem]
      refine ⟨u0.toNat, by omega, by omega, ?_⟩
      rw [lgX_mem]
      refine ⟨u1.toNat, by omega, by omega, ?_⟩
      rw [krA_mem hp (dr _ _), Int.toNat_of_nonneg a0.1, Int.toNat_of_nonneg a1.1]
      rw [e, uv2_GP hC g2 a0 a1 b0 b1] at h
      exact ⟨v0, v1, b0, b1, e, h.1, h.2⟩
/-! keys go up -/
def Asc (p lo hi : Int) (l : List UV) : Prop := (∀ A, A ∈ l → lo ≤ kyF p A ∧ kyF p A < hi) ∧ l.Pairwise (fun A B => kyF p A < kyF p B)
theorem Asc.nil {p lo hi : Int} : Asc p lo hi [] := ⟨fun A h => (by cases h), List.Pairwise.nil⟩
theorem Asc.app {p lo mi hi : Int} {l m : List UV} (h1 : Asc p lo mi l) (h2 : Asc p mi hi m) (a : lo ≤ mi) (b : mi ≤ hi) : Asc p lo hi (l ++ m) := by
  refine ⟨fun A hA => ?_, List.pairwise_append.mpr ⟨h1.2, h2.2, fun A hA B hB => ?_⟩⟩
  · rcases List.mem_append.mp hA with h | h
    · have := h1.1 A h; omega
    · have := h2.1 A h; omega
  · have := h1.1 A hA
    have := h2.1 B hB
    omega
theorem Asc.one {p lo hi : Int} {A : UV} (h : lo ≤ kyF p A ∧ kyF p A < hi) : Asc p lo hi [A] := ⟨fun B hB => by rw [List.mem_singleton.mp hB]; exact h, List.pairwise_singleton _ _⟩
theorem Asc.ite {p lo hi : Int} {c : Prop} [Decidable c] {l : List UV} (h : Asc p lo hi l) : Asc p lo hi (if c then l else []) := by
  split
  · exact h
  · exact Asc.nil
theorem l1Y_asc {p : Int} {F : Nat → Int} {u : Nat} : ∀ m v : Nat, Asc p (1 + u * p + v) (1 + u * p + v + m) (l1Y p F u m v)
  | 0, v => Asc.nil
  | m + 1, v => by
    unfold l1Y
    have h := l1Y_asc (p := p) (F := F) (u := u) m (v + 1)
    rw [show (1 + (u : Int) * p + ((v + 1 : Nat) : Int) + m) = 1 + u * p + v + ((m + 1 : Nat) : Int) by omega] at h
    exact (Asc.ite (Asc.one (by rw [kz_1]; omega))).app h (by omega) (by omega)
theorem l1X_asc {p : Int} (hp : 0 < p) {F : Nat → Int} : ∀ m u : Nat, Asc p (1 + u * p) (1 + ((u + m : Nat) : Int) * p) (l1X p F m u)
  | 0, u => Asc.nil
  | m + 1, u => by
    unfold l1X
    have h := l1X_asc hp (F := F) m (u + 1)
    have h1 := l1Y_asc (p := p) (F := F) (u := u) p.toNat 0
    have e1 : ((u + 1 : Nat) : Int) * p = u * p + p := by rw [show ((u + 1 : Nat) : Int) = (u : Int) + 1 by omega, Int.add_mul, Int.one_mul]
    have e2 : ((u + 1 + m : Nat) : Int) * p = u * p + p + m * p := by rw [show ((u + 1 + m : Nat) : Int) = (u : Int) + 1 + m by omega, Int.add_mul, Int.add_mul, Int.one_mul]
    have e3 : 0 ≤ (m : Int) * p := Int.mul_nonneg (by omega) (by omega)
    rw [show u + (m + 1) = u + 1 + m by omega]
    rw [e1] at h
    rw [e2] at h ⊢
    rw [show (1 + (u : Int) * p + ((0 : Nat) : Int)) = 1 + u * p by omega, show 1 + (u : Int) * p + (p.toNat : Int) = 1 + (u * p + p) by omega] at h1
    exact h1.app h (by omega) (by omega)
theorem kr1_asc {p f0 u0 u1 : Int} : ∀ m v : Nat, Asc p (1 + p * p + (u0 * p + u1) * p * p + v) (1 + p * p + (u0 * p + u1) * p * p + v + m) (kr1 p f0 u0 u1 m v)
  | 0, v => Asc.nil
  | m + 1, v => by
    unfold kr1
    have h := kr1_asc (p := p) (f0 := f0) (u0 := u0) (u1 := u1) m (v + 1)
    have k : kyF p (uv2 u0 u1 v 0) = 1 + p * p + (u0 * p + u1) * p * p + v := by rw [kz_2, Int.zero_mul, Int.add_zero]
    generalize (u0 * p + u1) * p * p = t at *
    rw [show (1 + p * p + t + ((v + 1 : Nat) : Int) + m) = 1 + p * p + t + v + ((m + 1 : Nat) : Int) by omega] at h
    exact (Asc.ite (Asc.one (by rw [k]; omega))).app h (by omega) (by omega)
theorem kr2_asc {p : Int} (hp : 0 < p) {f0 f1 u0 u1 : Int} : ∀ m v : Nat, Asc p (1 + p * p + (u0 * p + u1) * p * p + v * p) (1 + p * p + (u0 * p + u1) * p * p + ((v + m : Nat) : Int) * p) (kr2 p f0 f1 u0 u1 m v)
  | 0, v => Asc.nil
  | m + 1, v => by
    unfold kr2
    have h := kr2_asc hp (f0 := f0) (f1 := f1) (u0 := u0) (u1 := u1) m (v + 1)
    have k : kyF p (uv2 u0 u1 (krV p f1 u1 v) v) = 1 + p * p + (u0 * p + u1) * p * p + v * p + krV p f1 u1 v := kz_2
    have kr := krV_rg (f1 := f1) (u1 := u1) hp v
    have e1 : ((v + 1 : Nat) : Int) * p = v * p + p := by rw [show ((v + 1 : Nat) : Int) = (v : Int) + 1 by omega, Int.add_mul, Int.one_mul]
    have e2 : ((v + 1 + m : Nat) : Int) * p = v * p + p + m * p := by rw [show ((v + 1 + m : Nat) : Int) = (v : Int) + 1 + m by omega, Int.add_mul, Int.add_mul, Int.one_mul]
    have e3 : 0 ≤ (m : Int) * p := Int.mul_nonneg (by omega) (by omega)
    rw [show v + (m + 1) = v + 1 + m by omega]
    rw [e1] at h
    rw [e2] at h ⊢
    exact (Asc.ite (Asc.one (by rw [k]; omega))).app h (by omega) (by omega)
theorem krA_asc {p : Int} (hp : 0 < p) {f0 f1 u0 u1 : Int} : Asc p (1 + p * p + (u0 * p + u1) * p * p) (1 + p * p + (u0 * p + u1) * p * p + p * p) (krA p f0 f1 u0 u1) := by
  unfold krA
  have h1 := kr1_asc (p := p) (f0 := f0) (u0 := u0) (u1 := u1) p.toNat 0
  have h2 := kr2_asc hp (f0 := f0) (f1 := f1) (u0 := u0) (u1 := u1) (p.toNat - 1) 1
  have e1 : ((1 + (p.toNat - 1) : Nat) : Int) * p = p * p := by rw [show ((1 + (p.toNat - 1) : Nat) : Int) = p by omega]
  have e2 : p ≤ p * p := by
    have := Int.mul_le_mul_of_nonneg_left (show 1 ≤ p by omega) (show 0 ≤ p by omega)
    omega
  rw [e1, show ((1 : Nat) : Int) * p = p by omega] at h2
  generalize (u0 * p + u1) * p * p = t at *
  rw [show 1 + p * p + t + ((0 : Nat) : Int) = 1 + p * p + t by omega, show (1 + p * p + t + (p.toNat : Int)) = 1 + p * p + t + p by omega] at h1
  exact (Asc.ite h1).app h2 (by omega) (by omega)
theorem lgX_asc {p : Int} (hp : 0 < p) {F : Nat → Int} {u0 : Nat} : ∀ m u1 : Nat, Asc p (1 + p * p + ((u0 : Int) * p + u1) * p * p) (1 + p * p + ((u0 : Int) * p + ((u1 + m : Nat) : Int)) * p * p) (lgX p F u0 m u1)
  | 0, u1 => Asc.nil
  | m + 1, u1 => by
    unfold lgX
    have h := lgX_asc hp (F := F) (u0 := u0) m (u1 + 1)
    have h1 := krA_asc hp (f0 := dvR p F (uqd u0 u1) 0) (f1 := dvR p F (uqd u0 u1) 1) (u0 := (u0 : Int)) (u1 := (u1 : Int))
    have e1 : ((u0 : Int) * p + ((u1 + 1 : Nat) : Int)) * p * p = ((u0 : Int) * p + u1) * p * p + p * p := by rw [show ((u1 + 1 : Nat) : Int) = (u1 : Int) + 1 by omega]; grind
    have e2 : ((u0 : Int) * p + ((u1 + 1 + m : Nat) : Int)) * p * p = ((u0 : Int) * p + u1) * p * p + p * p + m * (p * p) := by rw [show ((u1 + 1 + m : Nat) : Int) = (u1 : Int) + 1 + m by omega]; grind
    have e4 : 0 ≤ p * p := Int.mul_nonneg (by omega) (by omega)
    have e3 : 0 ≤ (m : Int) * (p * p) := Int.mul_nonneg (by omega) e4
    rw [show u1 + (m + 1) = u1 + 1 + m by omega]
    rw [e1] at h
    rw [e2] at h ⊢
    rw [show 1 + p * p + (((u0 : Int) * p + u1) * p * p + p * p) = 1 + p * p + ((u0 : Int) * p + u1) * p * p + p * p by omega] at h
    exact h1.app h (by omega) (by omega)
theorem lgA_asc {p : Int} (hp : 0 < p) {F : Nat → Int} : ∀ m u0 : Nat, Asc p (1 + p * p + (u0 : Int) * (p * p * p)) (1 + p * p + ((u0 + m : Nat) : Int) * (p * p * p)) (lgA p F m u0)
  | 0, u0 => Asc.nil
  | m + 1, u0 => by
    unfold lgA
    have h := lgA_asc hp (F := F) m (u0 + 1)
    have h1 := lgX_asc hp (F := F) (u0 := u0) p.toNat 0
    have e0 : ((u0 : Int) * p + ((0 : Nat) : Int)) * p * p = (u0 : Int) * (p * p * p) := by rw [show ((0 : Nat) : Int) = 0 by omega]; grind
    have e1 : ((u0 : Int) * p + ((0 + p.toNat : Nat) : Int)) * p * p = (u0 : Int) * (p * p * p) + p * p * p := by rw [show ((0 + p.toNat : Nat) : Int) = p by omega]; grind
    have e2 : ((u0 + 1 : Nat) : Int) * (p * p * p) = (u0 : Int) * (p * p * p) + p * p * p := by rw [show ((u0 + 1 : Nat) : Int) = (u0 : Int) + 1 by omega]; grind
    have e3 : ((u0 + 1 + m : Nat) : Int) * (p * p * p) = (u0 : Int) * (p * p * p) + p * p * p + m * (p * p * p) := by rw [show ((u0 + 1 + m : Nat) : Int) = (u0 : Int) + 1 + m by omega]; grind
    have e5 : 0 ≤ p * p * p := Int.mul_nonneg (Int.mul_nonneg (by omega) (by omega)) (by omega)
    have e4 : 0 ≤ (m : Int) * (p * p * p) := Int.mul_nonneg (by omega) e5
    rw [e0, e1] at h1
    rw [show u0 + (m + 1) = u0 + 1 + m by omega]
    rw [e2] at h
    rw [e3] at h ⊢
    exact h1.app h (by omega) (by omega)
theorem clsL_asc {p : Int} (hp : IsP p) {F : Nat → Int} {g : Int} : ∃ hi : Int, Asc p 0 hi (clsL p F g) := by
  have hr := hp.rg
  have h1 := l1X_asc (p := p) (by omega) (F := F) p.toNat 0
  have h2 := lgA_asc (p := p) (by omega) (F := F) p.toNat 0
  rw [show ((0 : Nat) : Int) * p = 0 by omega, show ((0 + p.toNat : Nat) : Int) * p = p * p by rw [show ((0 + p.toNat : Nat) : Int) = p by omega]] at h1
  rw [show ((0 : Nat) : Int) * (p * p * p) = 0 by omega] at h2
  have e4 : 0 ≤ p * p := Int.mul_nonneg (by omega) (by omega)
  have e5 : 0 ≤ ((0 + p.toNat : Nat) : Int) * (p * p * p) := Int.mul_nonneg (by omega) (Int.mul_nonneg (Int.mul_nonneg (by omega) (by omega)) (by omega))
  generalize ((0 + p.toNat : Nat) : Int) * (p * p * p) = hi at *
  refine ⟨1 + p * p + hi, ?_⟩
  unfold clsL
  have h0 : Asc p 0 1 [czero] := Asc.one (by rw [kz_0]; omega)
  rw [Int.add_zero] at h1 h2
  exact ((h0.app h1 (by omega) (by omega)).app (Asc.ite h2) (by omega) (by omega))
theorem clsL_nd {p : Int} (hp : IsP p) {F : Nat → Int} {g : Int} : (clsL p F g).Nodup := by
  obtain ⟨hi, h⟩ := clsL_asc hp (F := F) (g := g)
  exact h.2.imp (fun hab e => by rw [e] at hab; omega)
/-! the reference's list has none twice -/
theorem md_dv {a b p : Int} (h1 : a % p = b % p) (h2 : a / p = b / p) : a = b := by
  rw [← Int.emod_add_mul_ediv a p, ← Int.emod_add_mul_ediv b p, h1, h2]
theorem cdU_inj {p : Int} (hp : IsP p) {d : Nat} (hd : d = 1 ∨ d = 2) {k l : Int} (hk : 0 ≤ k) (hl : 0 ≤ l) (bk : k < (if d = 1 then p * p else p * p * p * p)) (bl : l < (if d = 1 then p * p else p * p * p * p)) (h : cdU p d k = cdU p d l) : k = l := by
  have hr := hp.rg
  have lt1 : ∀ x : Int, 0 ≤ x → x < p → x % p = x := fun x h1 h2 => Int.emod_eq_of_lt h1 h2
  have dn : ∀ x : Int, 0 ≤ x → 0 ≤ x / p := fun x hx => Int.ediv_nonneg hx (by omega)
  have dl : ∀ x y : Int, x < y * p → x / p < y := fun x y hx => Int.ediv_lt_of_lt_mul (by omega) hx
  rcases hd with rfl | rfl
  · rw [if_pos rfl] at bk bl
    unfold cdU at h
    rw [if_pos rfl, if_pos rfl] at h
    have h1 : k % p = l % p := congrFun (congrArg Prod.fst h) 0
    have h2 : k / p % p = l / p % p := congrFun (congrArg Prod.snd h) 0
    rw [lt1 _ (dn k hk) (dl k p bk), lt1 _ (dn l hl) (dl l p bl)] at h2
    exact md_dv h1 h2
  · rw [if_neg (by decide)] at bk bl
    unfold cdU at h
    rw [if_neg (by decide), if_neg (by decide)] at h
    have h1 : k % p = l % p := congrFun (congrArg Prod.fst h) 0
    have h2 : k / p % p = l / p % p := congrFun (congrArg Prod.fst h) 1
    have h3 : k / p / p % p = l / p / p % p := congrFun (congrArg Prod.snd h) 0
    have h4 : k / p / p / p % p = l / p / p / p % p := congrFun (congrArg Prod.snd h) 1
    rw [lt1 _ (dn _ (dn _ (dn k hk))) (dl _ _ (dl _ _ (dl _ _ bk))), lt1 _ (dn _ (dn _ (dn l hl))) (dl _ _ (dl _ _ (dl _ _ bl)))] at h4
    exact md_dv h1 (md_dv h2 (md_dv h3 h4))
theorem alL_nd {p : Int} (hp : IsP p) {F : Nat → Int} {d : Nat} (hd : d = 1 ∨ d = 2) : ∀ m c : Nat, ((c + m : Nat) : Int) ≤ (if d = 1 then p * p else p * p * p * p) → (alL p F d m c).Nodup
  | 0, c, _ => List.Pairwise.nil
  | m + 1, c, h => by
    unfold alL
    have ih := alL_nd hp (F := F) hd m (c + 1) (by rw [show c + 1 + m = c + (m + 1) by omega]; exact h)
    by_cases cv : vldB p F (cdU p d c) = true
    · rw [if_pos cv]
      refine List.nodup_cons.mpr ⟨fun hm => ?_, ih⟩
      obtain ⟨k, k1, k2, k3, -⟩ := (alL_mem _ _).mp hm
      have := cdU_inj hp hd (k := (c : Int)) (l := (k : Int)) (by omega) (by omega) (by omega) (by omega) k3
      omega
    · rw [if_neg cv]; exact ih
theorem cdU_pd {p : Int} {d : Nat} (hd : d = 1 ∨ d = 2) (k : Int) : pd (cdU p d k).1 = d := by
  rcases hd with rfl | rfl
  · unfold cdU; rw [if_pos rfl, uv1_pd]; rfl
  · unfold cdU; rw [if_neg (by decide), uv2_pd]; rfl
theorem mAl_nd {p : Int} (hp : IsP p) {F : Nat → Int} : (mAl p F).Nodup := by
  have hr := hp.rg
  have e1 : 0 ≤ p * p := Int.mul_nonneg (by omega) (by omega)
  have e2 : 0 ≤ p * p * p * p := Int.mul_nonneg (Int.mul_nonneg e1 (by omega)) (by omega)
  have n1 := alL_nd hp (F := F) (d := 1) (Or.inl rfl) (p * p).toNat 0 (by rw [if_pos rfl]; omega)
  have n2 := alL_nd hp (F := F) (d := 2) (Or.inr rfl) (p * p * p * p).toNat 0 (by rw [if_neg (by decide)]; omega)
  have p1 : ∀ A, A ∈ alL p F 1 (p * p).toNat 0 → pd A.1 = 1 := fun A hA => by
    obtain ⟨k, -, -, k3, -⟩ := (alL_mem _ _).mp hA
    rw [k3]; exact cdU_pd (Or.inl rfl) _
  have p2 : ∀ A, A ∈ (if gen F = 2 then alL p F 2 (p * p * p * p).toNat 0 else []) → pd A.1 = 2 := fun A hA => by
    split at hA
    · obtain ⟨k, -, -, k3, -⟩ := (alL_mem _ _).mp hA
      rw [k3]; exact cdU_pd (Or.inr rfl) _
    · cases hA
  have p0 : pd czero.1 = 0 := by show pd pone = 0; decide
  unfold mAl
  rw [List.nodup_append]
  refine ⟨?_, ?_, fun A hA B hB e => ?_⟩
  · refine List.nodup_cons.mpr ⟨fun hm => ?_, n1⟩
    have := p1 _ hm
    omega
  · split
    · exact n2
    · exact List.Pairwise.nil
  · have q2 := p2 B hB
    rcases List.mem_append.mp hA with h | h
    · rw [List.mem_singleton.mp h] at e
      rw [← e] at q2; omega
    · have := p1 A h
      rw [e] at this; omega
theorem cls_perm {p : Int} {F : Nat → Int} (hC : CF p (gen F) F) : (clsL p F (gen F)).Perm (mAl p F) := (List.perm_ext_iff_of_nodup (clsL_nd hC.1) (mAl_nd hC.1)).mpr (fun A => (clsL_mem hC A).trans (mAl_mem hC A).symm)
/-! ===== a class's order is not greater than their number ===== -/
theorem ord_ex {p : Int} {F : Nat → Int} (hC : CS p (gen F) F) {a : UV} (ha : GP p (gen F) F a) : ∃ n : Nat, 1 ≤ n ∧ n ≤ (clsL p F (gen F)).length ∧ mulN p F (gen F) a n = czero ∧ ∀ m : Nat, 1 ≤ m → m < n → mulN p F (gen F) a m ≠ czero := by
  -- two of the first ones are alike
  have two : ∃ i j : Nat, i < j ∧ j ≤ (clsL p F (gen F)).length ∧ mulN p F (gen F) a i = mulN p F (gen F) a j := by
    by_cases c : ∃ i j : Nat, i < j ∧ j ≤ (clsL p F (gen F)).length ∧ mulN p F (gen F) a i = mulN p F (gen F) a j
    · exact c
    · exfalso
      have nd : ((List.range ((clsL p F (gen F)).length + 1)).map (mulN p F (gen F) a)).Nodup := by
        refine List.pairwise_map.mpr ?_
        have := List.pairwise_lt_range (n := (clsL p F (gen F)).length + 1)
        refine List.Pairwise.imp_of_mem ?_ this
        intro i j hi hj hij e
        exact c ⟨i, j, hij, by have := List.mem_range.mp hj; omega, e⟩
      have := List.Nodup.length_le_of_subset nd (l₂ := clsL p F (gen F)) (fun A hA => by
        obtain ⟨i, -, rfl⟩ := List.mem_map.mp hA
        exact (clsL_mem hC.1 _).mpr (mulN_GP hC ha i))
      rw [List.length_map, List.length_range] at this
      omega
  obtain ⟨i, j, hij, hj, e⟩ := two
  have hz : mulN p F (gen F) a (j - i) = czero := by
    have h := mulN_add hC ha (j - i) i
    rw [show j - i + i = j by omega, ← e] at h
    refine plus_can hC (mulN_GP hC ha _) (zero_GP hC.1) (mulN_GP hC ha i) ?_
    rw [← h, zero_plus hC (mulN_GP hC ha i)]
  -- the least one
  have least : ∀ n : Nat, 1 ≤ n → mulN p F (gen F) a n = czero → ∃ k : Nat, 1 ≤ k ∧ k ≤ n ∧ mulN p F (gen F) a k = czero ∧ ∀ m : Nat, 1 ≤ m → m < k → mulN p F (gen F) a m ≠ czero := by
    intro n
    induction n using Nat.strongRecOn with
    | _ n ih =>
      intro h1 h2
      by_cases c : ∃ m : Nat, 1 ≤ m ∧ m < n ∧ mulN p F (gen F) a m = czero
      · obtain ⟨m, m1, m2, m3⟩ := c
        obtain ⟨k, k1, k2, k3⟩ := ih m m2 m1 m3
        exact ⟨k, k1, by omega, k3⟩
      · exact ⟨n, h1, Nat.le_refl n, h2, fun m m1 m2 m3 => c ⟨m, m1, m2, m3⟩⟩
  obtain ⟨k, k1, k2, k3⟩ := least (j - i) (by omega) hz
  exact ⟨k, k1, by omega, k3⟩
