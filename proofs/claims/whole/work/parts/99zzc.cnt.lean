/-! ===== sums; how many V a U has ===== -/
theorem smT_swap (φ : Nat → Nat → Int) (m : Nat) : ∀ n : Nat, smT n (fun i => smT m (fun j => φ i j)) = smT m (fun j => smT n (fun i => φ i j))
  | 0 => by
    show (0 : Int) = smT m (fun _ => 0)
    rw [smT_zero (fun _ _ => rfl)]
  | n + 1 => by
    show smT n (fun i => smT m (fun j => φ i j)) + smT m (fun j => φ n j) = smT m (fun j => smT n (fun i => φ i j) + φ n j)
    rw [smT_swap φ m n]
    have := smT_lin (fun j => smT n (fun i => φ i j)) (fun j => φ n j) 1 1 m
    rw [Int.one_mul, Int.one_mul] at this
    rw [← this]
    exact smT_ext (fun j _ => by rw [Int.one_mul, Int.one_mul])
theorem smT_c (f : Nat → Int) (k : Int) (n : Nat) : smT n (fun i => f i * k) = smT n f * k := by
  have := smT_lin f (fun _ => 0) k 0 n
  rw [show (0 : Int) * smT n (fun _ => (0 : Int)) = 0 from Int.zero_mul _, Int.add_zero] at this
  rw [Int.mul_comm, ← this]
  exact smT_ext (fun i _ => by show f i * k = k * f i + 0 * 0; rw [Int.mul_comm]; omega)
/-- a value as a sum over all places -/
theorem smT_val (ψ : Int → Int) {p x : Int} (hx : 0 ≤ x ∧ x < p) : smT p.toNat (fun j => (if x = (j : Int) then 1 else 0) * ψ j) = ψ x := by
  rw [smT_one (k := x.toNat) (by omega) (fun i _ hi => by show (if x = (i : Int) then (1 : Int) else 0) * ψ i = 0; rw [if_neg (by omega), Int.zero_mul])]
  show (if x = ((x.toNat : Nat) : Int) then (1 : Int) else 0) * ψ ((x.toNat : Nat) : Int) = ψ x
  rw [if_pos (by omega), Int.one_mul, Int.toNat_of_nonneg hx.1]
theorem smT_perm {p : Int} {h : Int → Int} (hr : ∀ i : Nat, i < p.toNat → 0 ≤ h i ∧ h i < p) (hc : ∀ j : Nat, j < p.toNat → smT p.toNat (fun i => if h i = (j : Int) then 1 else 0) = 1) (ψ : Int → Int) : smT p.toNat (fun i => ψ (h i)) = smT p.toNat (fun i => ψ i) := by
  rw [smT_ext (f := fun i => ψ (h i)) (g := fun i => smT p.toNat (fun j => (if h i = (j : Int) then 1 else 0) * ψ j)) (fun i hi => (smT_val ψ (hr i hi)).symm), smT_swap]
  refine smT_ext (fun j hj => ?_)
  show smT p.toNat (fun i => (if h i = (j : Int) then 1 else 0) * ψ j) = ψ j
  rw [smT_c (fun i => if h i = (j : Int) then 1 else 0), hc j hj, Int.one_mul]
theorem cs_3 : ∀ k : Nat, k < 3 → ∀ j : Nat, j < 3 → smT 3 (fun i => if ((i : Int) + k) % 3 = (j : Int) then 1 else 0) = 1 ∧ (0 < k → smT 3 (fun i => if ((i : Int) * k) % 3 = (j : Int) then 1 else 0) = 1) := by decide +kernel
theorem cs_5 : ∀ k : Nat, k < 5 → ∀ j : Nat, j < 5 → smT 5 (fun i => if ((i : Int) + k) % 5 = (j : Int) then 1 else 0) = 1 ∧ (0 < k → smT 5 (fun i => if ((i : Int) * k) % 5 = (j : Int) then 1 else 0) = 1) := by decide +kernel
theorem cs_7 : ∀ k : Nat, k < 7 → ∀ j : Nat, j < 7 → smT 7 (fun i => if ((i : Int) + k) % 7 = (j : Int) then 1 else 0) = 1 ∧ (0 < k → smT 7 (fun i => if ((i : Int) * k) % 7 = (j : Int) then 1 else 0) = 1) := by decide +kernel
theorem cs_11 : ∀ k : Nat, k < 11 → ∀ j : Nat, j < 11 → smT 11 (fun i => if ((i : Int) + k) % 11 = (j : Int) then 1 else 0) = 1 ∧ (0 < k → smT 11 (fun i => if ((i : Int) * k) % 11 = (j : Int) then 1 else 0) = 1) := by decide +kernel
theorem cs_13 : ∀ k : Nat, k < 13 → ∀ j : Nat, j < 13 → smT 13 (fun i => if ((i : Int) + k) % 13 = (j : Int) then 1 else 0) = 1 ∧ (0 < k → smT 13 (fun i => if ((i : Int) * k) % 13 = (j : Int) then 1 else 0) = 1) := by decide +kernel
theorem cs_p {p : Int} (hp : IsP p) {k : Nat} (hk : (k : Int) < p) {j : Nat} (hj : j < p.toNat) : smT p.toNat (fun i => if ((i : Int) + k) % p = (j : Int) then 1 else 0) = 1 ∧ (0 < k → smT p.toNat (fun i => if ((i : Int) * k) % p = (j : Int) then 1 else 0) = 1) := by
  rcases hp with rfl | rfl | rfl | rfl | rfl
  · exact cs_3 k (by omega) j hj
  · exact cs_5 k (by omega) j hj
  · exact cs_7 k (by omega) j hj
  · exact cs_11 k (by omega) j hj
  · exact cs_13 k (by omega) j hj
theorem smT_shift {p : Int} (hp : IsP p) (k : Int) (ψ : Int → Int) : smT p.toNat (fun i => ψ (((i : Int) + k) % p)) = smT p.toNat (fun i => ψ i) := by
  have hr := hp.rg
  have kk := emr k (p := p) (by omega)
  have e : ∀ i : Nat, ((i : Int) + k) % p = ((i : Int) + ((k % p).toNat : Nat)) % p := fun i => by
    rw [Int.toNat_of_nonneg kk.1, Int.add_emod_emod]
  rw [smT_ext (f := fun i : Nat => ψ (((i : Int) + k) % p)) (g := fun i : Nat => ψ (((i : Int) + ((k % p).toNat : Nat)) % p)) (fun i _ => by show ψ (((i : Int) + k) % p) = ψ (((i : Int) + ((k % p).toNat : Nat)) % p); rw [e])]
  exact smT_perm (h := fun x => (x + ((k % p).toNat : Nat)) % p) (fun i _ => emr _ (by omega)) (fun j hj => (cs_p hp (by omega) hj).1) ψ
theorem smT_mult {p : Int} (hp : IsP p) {k : Int} (hk : k % p ≠ 0) (ψ : Int → Int) : smT p.toNat (fun i => ψ (((i : Int) * k) % p)) = smT p.toNat (fun i => ψ i) := by
  have hr := hp.rg
  have kk := emr k (p := p) (by omega)
  have e : ∀ i : Nat, ((i : Int) * k) % p = ((i : Int) * ((k % p).toNat : Nat)) % p := fun i => by
    rw [Int.toNat_of_nonneg kk.1, Int.mul_comm, Int.mul_comm (i : Int), mul_md]
  rw [smT_ext (f := fun i : Nat => ψ (((i : Int) * k) % p)) (g := fun i : Nat => ψ (((i : Int) * ((k % p).toNat : Nat)) % p)) (fun i _ => by show ψ (((i : Int) * k) % p) = ψ (((i : Int) * ((k % p).toNat : Nat)) % p); rw [e])]
  exact smT_perm (h := fun x => (x * ((k % p).toNat : Nat)) % p) (fun i _ => emr _ (by omega)) (fun j hj => (cs_p hp (by omega) hj).2 (by omega)) ψ
def S2 (p : Int) (φ : Int → Int → Int) : Int := smT p.toNat (fun i => smT p.toNat (fun j => φ i j))
/-- V of U: all v1, v0 that meet the two -/
def NV (p f0 f1 u0 u1 : Int) : Int := S2 p (fun v1 v0 => if (v0 * v0 - v1 * v1 * u0) % p = f0 ∧ (2 * v0 * v1 - v1 * v1 * u1) % p = f1 then 1 else 0)
theorem kr1_len {p f0 u0 u1 : Int} : ∀ m v : Nat, ((kr1 p f0 u0 u1 m v).length : Int) = smT m (fun k => if (((v + k : Nat) : Int) * ((v + k : Nat) : Int)) % p = f0 then 1 else 0)
  | 0, v => rfl
  | m + 1, v => by
    unfold kr1
    rw [List.length_append, smT_fst, smT_ext (f := fun k => if (((v + (k + 1) : Nat) : Int) * ((v + (k + 1) : Nat) : Int)) % p = f0 then 1 else 0) (g := fun k => if (((v + 1 + k : Nat) : Int) * ((v + 1 + k : Nat) : Int)) % p = f0 then 1 else 0) (fun k _ => by rw [show v + (k + 1) = v + 1 + k by omega]), ← kr1_len (u0 := u0) (u1 := u1) m (v + 1)]
    by_cases c : ((v : Int) * v) % p = f0
    · have c' : (((v + 0 : Nat) : Int) * ((v + 0 : Nat) : Int)) % p = f0 := c
      rw [if_pos c, if_pos c']; show ((1 + _ : Nat) : Int) = _; omega
    · have c' : ¬ (((v + 0 : Nat) : Int) * ((v + 0 : Nat) : Int)) % p = f0 := c
      rw [if_neg c, if_neg c']; show ((0 + _ : Nat) : Int) = _; omega
theorem kr2_len {p f0 f1 u0 u1 : Int} : ∀ m v : Nat, ((kr2 p f0 f1 u0 u1 m v).length : Int) = smT m (fun k => if (krV p f1 u1 (v + k) * krV p f1 u1 (v + k) - (((v + k : Nat) : Int) * ((v + k : Nat) : Int)) % p * u0) % p = f0 then 1 else 0)
  | 0, v => rfl
  | m + 1, v => by
    unfold kr2
    rw [List.length_append, smT_fst, smT_ext (f := fun k => if (krV p f1 u1 (v + (k + 1)) * krV p f1 u1 (v + (k + 1)) - (((v + (k + 1) : Nat) : Int) * ((v + (k + 1) : Nat) : Int)) % p * u0) % p = f0 then 1 else 0) (g := fun k => if (krV p f1 u1 (v + 1 + k) * krV p f1 u1 (v + 1 + k) - (((v + 1 + k : Nat) : Int) * ((v + 1 + k : Nat) : Int)) % p * u0) % p = f0 then 1 else 0) (fun k _ => by rw [show v + (k + 1) = v + 1 + k by omega]), ← kr2_len m (v + 1)]
    by_cases c : (krV p f1 u1 v * krV p f1 u1 v - ((v : Int) * v) % p * u0) % p = f0
    · have c' : (krV p f1 u1 (v + 0) * krV p f1 u1 (v + 0) - (((v + 0 : Nat) : Int) * ((v + 0 : Nat) : Int)) % p * u0) % p = f0 := c
      rw [if_pos c, if_pos c']; show ((1 + _ : Nat) : Int) = _; omega
    · have c' : ¬ (krV p f1 u1 (v + 0) * krV p f1 u1 (v + 0) - (((v + 0 : Nat) : Int) * ((v + 0 : Nat) : Int)) % p * u0) % p = f0 := c
      rw [if_neg c, if_neg c']; show ((0 + _ : Nat) : Int) = _; omega
theorem krA_len {p : Int} (hp : IsP p) {f0 f1 u0 u1 : Int} (hf : 0 ≤ f1 ∧ f1 < p) : ((krA p f0 f1 u0 u1).length : Int) = NV p f0 f1 u0 u1 := by
  have hr := hp.rg
  unfold krA NV S2
  obtain ⟨m, hm⟩ : ∃ m : Nat, p.toNat = m + 1 := ⟨p.toNat - 1, by omega⟩
  rw [List.length_append, show p.toNat - 1 = m by omega]
  conv => rhs; rw [hm]
  rw [smT_fst, ← hm]
  have h2 : ((kr2 p f0 f1 u0 u1 m 1).length : Int) = smT m (fun i => smT p.toNat (fun j => if ((j : Int) * j - ((i + 1 : Nat) : Int) * ((i + 1 : Nat) : Int) * u0) % p = f0 ∧ (2 * (j : Int) * ((i + 1 : Nat) : Int) - ((i + 1 : Nat) : Int) * ((i + 1 : Nat) : Int) * u1) % p = f1 then 1 else 0)) := by
    rw [kr2_len]
    refine smT_ext (fun i hi => ?_)
    have kr := krV_rg (p := p) (f1 := f1) (u1 := u1) (by omega) (i + 1)
    rw [Nat.add_comm 1 i, smT_one (k := (krV p f1 u1 (i + 1)).toNat) (by omega) (fun j hj hne => if_neg (fun e => hne (by
      have := (krV_iff hp (u1 := u1) (w := i + 1) (v0 := (j : Int)) hf (by omega) (by omega)).mp e.2
      omega)))]
    rw [Int.toNat_of_nonneg kr.1]
    have e2 := (krV_iff hp (u1 := u1) (w := i + 1) hf (by omega) kr).mpr rfl
    by_cases c : (krV p f1 u1 (i + 1) * krV p f1 u1 (i + 1) - ((i + 1 : Nat) : Int) * ((i + 1 : Nat) : Int) * u0) % p = f0
    · rw [if_pos (by rw [sub_md]; exact c), if_pos ⟨c, e2⟩]
    · rw [if_neg (by rw [sub_md]; exact c), if_neg (fun e => c e.1)]
  have h1 : (((if f1 = 0 then kr1 p f0 u0 u1 p.toNat 0 else []).length : Nat) : Int) = smT p.toNat (fun j => if ((j : Int) * j - ((0 : Nat) : Int) * ((0 : Nat) : Int) * u0) % p = f0 ∧ (2 * (j : Int) * ((0 : Nat) : Int) - ((0 : Nat) : Int) * ((0 : Nat) : Int) * u1) % p = f1 then 1 else 0) := by
    have z2 : ∀ j : Nat, (2 * (j : Int) * ((0 : Nat) : Int) - ((0 : Nat) : Int) * ((0 : Nat) : Int) * u1) % p = 0 := fun j => by
      rw [show ((0 : Nat) : Int) = 0 from rfl, Int.mul_zero, Int.mul_zero, Int.zero_mul, Int.sub_zero, Int.zero_emod]
    have z1 : ∀ j : Nat, ((j : Int) * j - ((0 : Nat) : Int) * ((0 : Nat) : Int) * u0) % p = ((j : Int) * j) % p := fun j => by
      rw [show ((0 : Nat) : Int) = 0 from rfl, Int.mul_zero, Int.zero_mul, Int.sub_zero]
    by_cases c : f1 = 0
    · rw [if_pos c, kr1_len]
      refine smT_ext (fun j _ => ?_)
      show (if (((0 + j : Nat) : Int) * ((0 + j : Nat) : Int)) % p = f0 then (1 : Int) else 0) = (if ((j : Int) * j - ((0 : Nat) : Int) * ((0 : Nat) : Int) * u0) % p = f0 ∧ (2 * (j : Int) * ((0 : Nat) : Int) - ((0 : Nat) : Int) * ((0 : Nat) : Int) * u1) % p = f1 then 1 else 0)
      rw [z1, z2, Nat.zero_add]
      by_cases c2 : ((j : Int) * j) % p = f0
      · rw [if_pos c2, if_pos ⟨c2, c.symm⟩]
      · rw [if_neg c2, if_neg (fun e => c2 e.1)]
    · rw [if_neg c, smT_zero (fun j _ => if_neg (fun e => c (by rw [← e.2, z2])))]; rfl
  rw [← h2, ← h1]
  show ((_ + _ : Nat) : Int) = _
  omega
