/-! ===== CODE: rows made of rows; words ===== -/
/-- a row made of K rows, at the first places -/
def LnC (p : Int) (len : Nat) (V : Nat → Nat → Int) (K : Nat) (R : Nat → Int) : Prop := ∃ c : Nat → Int, ∀ i : Nat, i < len → R i % p = smT K (fun j => c j * V j i) % p
theorem LnC.mem {p : Int} {len : Nat} {V : Nat → Nat → Int} {K q : Nat} (hq : q < K) : LnC p len V K (V q) := ⟨fun j => if j = q then 1 else 0, fun i _ => by
  rw [smT_one (k := q) hq (fun j _ hj => by show (if j = q then (1 : Int) else 0) * V j i = 0; rw [if_neg hj, Int.zero_mul])]
  show _ = ((if q = q then (1 : Int) else 0) * V q i) % p
  rw [if_pos rfl, Int.one_mul]⟩
theorem LnC.lin {p : Int} {len : Nat} {V : Nat → Nat → Int} {K : Nat} {R S T : Nat → Int} (h1 : LnC p len V K R) (h2 : LnC p len V K S) (a b : Int) (h : ∀ i : Nat, i < len → T i % p = (a * R i + b * S i) % p) : LnC p len V K T := by
  obtain ⟨c, hc⟩ := h1
  obtain ⟨d, hd⟩ := h2
  refine ⟨fun j => a * c j + b * d j, fun i hi => ?_⟩
  rw [h i hi, Int.add_emod, Int.mul_emod a, hc i hi, Int.mul_emod b, hd i hi, ← Int.mul_emod, ← Int.mul_emod, ← Int.add_emod, ← smT_lin]
  exact congrArg (fun v => v % p) (smT_ext (fun j _ => by show a * (c j * V j i) + b * (d j * V j i) = (a * c j + b * d j) * V j i; rw [Int.add_mul, Int.mul_assoc, Int.mul_assoc]))
theorem LnC.cg {p : Int} {len : Nat} {V : Nat → Nat → Int} {K : Nat} {R T : Nat → Int} (h1 : LnC p len V K R) (h : ∀ i : Nat, i < len → T i % p = R i % p) : LnC p len V K T := ⟨h1.choose, fun i hi => (h i hi).trans (h1.choose_spec i hi)⟩
theorem LnC.zero {p : Int} {len : Nat} {V : Nat → Nat → Int} {K : Nat} {T : Nat → Int} (h : ∀ i : Nat, i < len → T i % p = 0) : LnC p len V K T := ⟨fun _ => 0, fun i hi => by
  have e : smT K (fun j => (0 : Int) * V j i) = 0 := smT_zero (fun j _ => Int.zero_mul _)
  show T i % p = smT K (fun j => (0 : Int) * V j i) % p
  rw [h i hi, e, Int.zero_emod]⟩
theorem LnC.sum {p : Int} {len : Nat} {V B : Nat → Nat → Int} {K : Nat} (c : Nat → Int) : ∀ m : Nat, (∀ j : Nat, j < m → LnC p len V K (B j)) → LnC p len V K (fun i => smT m (fun j => c j * B j i))
  | 0, _ => LnC.zero (fun i _ => by show (0 : Int) % p = 0; exact Int.zero_emod p)
  | m + 1, h => (LnC.sum c m (fun j hj => h j (by omega))).lin (h m (by omega)) 1 (c m) (fun i _ => by
    show (smT m (fun j => c j * B j i) + c m * B m i) % p = (1 * smT m (fun j => c j * B j i) + c m * B m i) % p
    rw [Int.one_mul])
theorem LnC.tr {p : Int} {len : Nat} {V B : Nat → Nat → Int} {K m : Nat} {R : Nat → Int} (h : ∀ j : Nat, j < m → LnC p len V K (B j)) (g : LnC p len B m R) : LnC p len V K R := by
  obtain ⟨c, hc⟩ := g
  exact (LnC.sum c m h).cg hc
theorem LnC.up {p : Int} {len : Nat} {V : Nat → Nat → Int} {K L : Nat} {R : Nat → Int} (h : LnC p len V K R) (hl : K ≤ L) : LnC p len V L R := LnC.tr (fun j hj => LnC.mem (by omega)) h
/-- rows in steps -/
def Tri (p : Int) (len : Nat) (B : Nat → Nat → Int) (r : Nat) : Prop := ∃ ld : Nat → Nat, ∀ j : Nat, j < r → ld j < len ∧ B j (ld j) % p ≠ 0 ∧ ∀ q : Nat, j < q → q < r → B q (ld j) % p = 0
theorem md_mul0 {p : Int} (hp : IsP p) {a b : Int} (h : (a * b) % p = 0) (hb : b % p ≠ 0) : a % p = 0 := by
  have h0 := hp.rg
  have ha := emr a (show 0 < p by omega)
  have hb2 := emr b (show 0 < p by omega)
  by_cases c : a % p = 0
  · exact c
  · rw [Int.mul_emod] at h
    exact absurd h (nzp hp (a % p) (b % p) (by omega) (by omega)).1
theorem Tri.ind {p : Int} (hp : IsP p) {len : Nat} {B : Nat → Nat → Int} {r : Nat} (h : Tri p len B r) {c : Nat → Int} (hc : ∀ i : Nat, i < len → smT r (fun j => c j * B j i) % p = 0) : ∀ m : Nat, m ≤ r → ∀ j : Nat, j < m → c j % p = 0 := by
  obtain ⟨ld, hld⟩ := h
  intro m
  induction m with
  | zero => intro _ j hj; exact absurd hj (Nat.not_lt_zero j)
  | succ m ih =>
    intro hm j hj
    have ih := ih (by omega)
    by_cases cj : j = m
    · subst cj
      obtain ⟨l1, l2, l3⟩ := hld j (by omega)
      have h1 := hc (ld j) l1
      have e1 : smT r (fun q => c q * B q (ld j)) % p = smT r (fun q => if q = j then c j * B j (ld j) else 0) % p := smT_md (fun q hq => by
        show c q * B q (ld j) % p = (if q = j then c j * B j (ld j) else 0) % p
        by_cases c1 : q = j
        · rw [if_pos c1, c1]
        · rw [if_neg c1]
          by_cases c2 : q < j
          · rw [Int.mul_emod, ih q c2, Int.zero_mul]
          · rw [Int.mul_emod, l3 q (by omega) hq, Int.mul_zero])
      have e2 : smT r (fun q => if q = j then c j * B j (ld j) else 0) = c j * B j (ld j) := (smT_one (f := fun q => if q = j then c j * B j (ld j) else 0) (k := j) (m := r) (by omega) (fun q _ hq => if_neg hq)).trans (if_pos rfl)
      rw [e1, e2] at h1
      exact md_mul0 hp h1 l2
    · exact ih j (by omega)
theorem dg_ex {P : Nat} (hP : 0 < P) : ∀ (r : Nat) (d : Nat → Nat), (∀ j : Nat, j < r → d j < P) → ∃ n : Nat, n < P ^ r ∧ ∀ j : Nat, j < r → dgt0 P n j = d j
  | 0, _, _ => ⟨0, by show 0 < P ^ 0; rw [Nat.pow_zero]; exact Nat.one_pos, fun j hj => absurd hj (Nat.not_lt_zero j)⟩
  | r + 1, d, h => by
    obtain ⟨n, h1, h2⟩ := dg_ex hP r (fun j => d (j + 1)) (fun j hj => h (j + 1) (by omega))
    have h0 := h 0 (by omega)
    refine ⟨d 0 + P * n, ?_, fun j hj => ?_⟩
    · have : P * (n + 1) ≤ P * P ^ r := Nat.mul_le_mul_left P h1
      rw [Nat.mul_add, Nat.mul_one] at this
      rw [Nat.pow_succ, Nat.mul_comm (P ^ r)]
      omega
    · cases j with
      | zero => show (d 0 + P * n) % P = d 0; rw [Nat.add_mul_mod_self_left, Nat.mod_eq_of_lt h0]
      | succ j =>
        show dgt0 P ((d 0 + P * n) / P) j = d (j + 1)
        rw [Nat.add_mul_div_left _ _ hP, Nat.div_eq_of_lt h0, Nat.zero_add]
        exact h2 j (by omega)
theorem dg_inj {P : Nat} (hP : 0 < P) : ∀ (r n m : Nat), n < P ^ r → m < P ^ r → (∀ j : Nat, j < r → dgt0 P n j = dgt0 P m j) → n = m
  | 0, n, m, h1, h2, _ => by
    rw [Nat.pow_zero] at h1 h2
    omega
  | r + 1, n, m, h1, h2, h => by
    have a : n % P = m % P := h 0 (by omega)
    rw [Nat.pow_succ, Nat.mul_comm] at h1 h2
    have b := dg_inj hP r (n / P) (m / P) (Nat.div_lt_of_lt_mul h1) (Nat.div_lt_of_lt_mul h2) (fun j hj => h (j + 1) (by omega))
    have c := Nat.div_add_mod n P
    have d := Nat.div_add_mod m P
    rw [b, a] at c
    omega
/-- all words that r rows make -/
def wdL (p : Int) (len : Nat) (B : Nat → Nat → Int) (r : Nat) : List (List Int) := (List.range (p.toNat ^ r)).map (fun n => (List.range len).map (fun i => lcw p B r (dgI p n) i))
theorem mr_eq {f g : Nat → Int} {len : Nat} : (List.range len).map f = (List.range len).map g ↔ ∀ i : Nat, i < len → f i = g i := by
  rw [List.map_inj_left]
  exact ⟨fun h i hi => h i (List.mem_range.mpr hi), fun h i hi => h i (List.mem_range.mp hi)⟩
theorem wdL_mem {p : Int} (hp : IsP p) {len : Nat} {B : Nat → Nat → Int} {r : Nat} {W : Nat → Int} (hW : ∀ i : Nat, i < len → 0 ≤ W i ∧ W i < p) : (List.range len).map W ∈ wdL p len B r ↔ LnC p len B r W := by
  have h0 := hp.rg
  unfold wdL
  rw [List.mem_map]
  constructor
  · intro ⟨n, _, h2⟩
    have h2 := mr_eq.mp h2
    refine ⟨dgI p n, fun i hi => ?_⟩
    rw [← h2 i hi]
    unfold lcw
    rw [Int.emod_emod]
  · intro ⟨c, hc⟩
    obtain ⟨n, h1, h2⟩ := dg_ex (P := p.toNat) (by omega) r (fun j => (c j % p).toNat) (fun j _ => by have := emr (c j) (show 0 < p by omega); omega)
    refine ⟨n, List.mem_range.mpr h1, mr_eq.mpr (fun i hi => ?_)⟩
    have hw := hW i hi
    rw [← Int.emod_eq_of_lt hw.1 hw.2, hc i hi]
    unfold lcw
    refine smT_md (fun j hj => ?_)
    show dgI p n j * B j i % p = c j * B j i % p
    have e : dgI p n j = c j % p := by
      have := emr (c j) (show 0 < p by omega)
      unfold dgI
      rw [h2 j hj]
      omega
    rw [e, mul_md]
theorem wdL_nd {p : Int} (hp : IsP p) {len : Nat} {B : Nat → Nat → Int} {r : Nat} (h : Tri p len B r) : (wdL p len B r).Nodup := by
  have h0 := hp.rg
  unfold wdL
  refine List.pairwise_map.mpr (List.Pairwise.imp_of_mem (fun {n m} hn hm hne e => ?_) List.nodup_range)
  have hn := List.mem_range.mp hn
  have hm := List.mem_range.mp hm
  have e := mr_eq.mp e
  refine hne (dg_inj (P := p.toNat) (by omega) r n m hn hm (fun j hj => ?_))
  have hd : ∀ q : Nat, 0 ≤ dgI p q j ∧ dgI p q j < p := fun q => by
    have := dgt0_lt (p := p.toNat) (by omega) q j
    unfold dgI
    omega
  have k := h.ind hp (c := fun j => dgI p n j - dgI p m j) (fun i hi => by
    have ei : lcw p B r (dgI p n) i = lcw p B r (dgI p m) i := e i hi
    unfold lcw at ei
    have : smT r (fun j => (dgI p n j - dgI p m j) * B j i) = 1 * smT r (fun j => dgI p n j * B j i) + (-1) * smT r (fun j => dgI p m j * B j i) := by
      rw [← smT_lin]
      exact smT_ext (fun j _ => by show (dgI p n j - dgI p m j) * B j i = 1 * (dgI p n j * B j i) + (-1) * (dgI p m j * B j i); rw [Int.sub_mul]; omega)
    rw [this, show ∀ a b : Int, 1 * a + (-1) * b = a - b from fun a b => by omega, Int.sub_emod, ei, Int.sub_self, Int.zero_emod]) r (Nat.le_refl r) j hj
  have k : (dgI p n j - dgI p m j) % p = 0 := k
  have d1 := hd n
  have d2 := hd m
  have k2 : dgI p n j % p = dgI p m j % p := Int.emod_eq_emod_iff_emod_sub_eq_zero.mpr k
  rw [Int.emod_eq_of_lt d1.1 d1.2, Int.emod_eq_of_lt d2.1 d2.2] at k2
  unfold dgI at k2
  omega
theorem wdL_perm {p : Int} (hp : IsP p) {len : Nat} {B C : Nat → Nat → Int} {r d : Nat} (h1 : Tri p len B r) (h2 : Tri p len C d) (h : ∀ W : Nat → Int, LnC p len B r W ↔ LnC p len C d W) : (wdL p len B r).Perm (wdL p len C d) := by
  have h0 := hp.rg
  refine (List.perm_ext_iff_of_nodup (wdL_nd hp h1) (wdL_nd hp h2)).mpr (fun X => ?_)
  constructor
  · intro hX
    obtain ⟨n, _, rfl⟩ := List.mem_map.mp hX
    have hW : ∀ i : Nat, i < len → 0 ≤ lcw p B r (dgI p n) i ∧ lcw p B r (dgI p n) i < p := fun i _ => lcw_rg (by omega) _ _ _ _
    exact (wdL_mem hp hW).mpr ((h _).mp ((wdL_mem hp hW).mp hX))
  · intro hX
    obtain ⟨n, _, rfl⟩ := List.mem_map.mp hX
    have hW : ∀ i : Nat, i < len → 0 ≤ lcw p C d (dgI p n) i ∧ lcw p C d (dgI p n) i < p := fun i _ => lcw_rg (by omega) _ _ _ _
    exact (wdL_mem hp hW).mpr ((h _).mpr ((wdL_mem hp hW).mp hX))
theorem wdL_many {p : Int} (hp : IsP p) {len : Nat} {B C : Nat → Nat → Int} {r d : Nat} (h : (wdL p len B r).Perm (wdL p len C d)) : r = d := by
  have h0 := hp.rg
  have e := h.length_eq
  unfold wdL at e
  rw [List.length_map, List.length_map, List.length_range, List.length_range] at e
  exact (Nat.pow_right_inj (show 1 < p.toNat by omega)).mp e
/-! ===== CODE: the class's rows ===== -/
theorem fsN_z {R : Nat → Int} : ∀ {m i : Nat}, i + m ≤ fsN R m i → ∀ j : Nat, i ≤ j → j < i + m → R j = 0
  | 0, i, _, j, h1, h2 => by omega
  | m + 1, i, h, j, h1, h2 => by
    unfold fsN at h
    by_cases c : R i = 0
    · rw [if_pos c] at h
      by_cases cj : j = i
      · rw [cj]; exact c
      · exact fsN_z (m := m) (i := i + 1) (by omega) j (by omega) (by omega)
    · rw [if_neg c] at h
      omega
def TBs (len : Nat) (w : Bs) : Prop := ∀ j : Nat, j < w.2.2 → w.2.1 j < len ∧ w.1 j (w.2.1 j) = 1 ∧ ∀ q : Nat, j < q → q < w.2.2 → w.1 q (w.2.1 j) = 0
theorem redB_z {p : Int} {len : Nat} {w : Bs} (h : TBs len w) (R : Nat → Int) : ∀ m : Nat, m ≤ w.2.2 → ∀ q : Nat, q < m → redB p w.1 w.2.1 m R (w.2.1 q) = 0
  | 0, _, q, hq => absurd hq (Nat.not_lt_zero q)
  | m + 1, hm, q, hq => by
    show (redB p w.1 w.2.1 m R (w.2.1 q) + -(redB p w.1 w.2.1 m R (w.2.1 m)) * w.1 m (w.2.1 q)) % p = 0
    by_cases c : q = m
    · rw [c, (h m (by omega)).2.1, Int.mul_one, Int.add_right_neg, Int.zero_emod]
    · rw [redB_z h R m (by omega) q (by omega), (h q (by omega)).2.2 m (by omega) (by omega), Int.mul_zero, Int.add_zero, Int.zero_emod]
theorem redB_lc {p : Int} {len : Nat} {B : Nat → Nat → Int} {ld : Nat → Nat} {V : Nat → Nat → Int} {K : Nat} (R : Nat → Int) : ∀ m : Nat, (∀ j : Nat, j < m → LnC p len V K (B j)) → (LnC p len V K R ↔ LnC p len V K (redB p B ld m R))
  | 0, _ => Iff.rfl
  | m + 1, h => by
    refine (redB_lc (ld := ld) R m (fun j hj => h j (by omega))).trans ⟨fun g => ?_, fun g => ?_⟩
    · refine g.lin (h m (by omega)) 1 (-(redB p B ld m R (ld m))) (fun i _ => ?_)
      show (redB p B ld m R i + -(redB p B ld m R (ld m)) * B m i) % p % p = _
      rw [Int.emod_emod, Int.one_mul]
    · refine g.lin (h m (by omega)) 1 (redB p B ld m R (ld m)) (fun i _ => ?_)
      show _ = (1 * ((redB p B ld m R i + -(redB p B ld m R (ld m)) * B m i) % p) + redB p B ld m R (ld m) * B m i) % p
      rw [Int.one_mul, Int.emod_add_emod, Int.neg_mul, Int.add_assoc, Int.add_left_neg, Int.add_zero]
/-- numbers below n, none twice: all of them -/
theorem pig {n : Nat} {f : Nat → Nat} (h : ∀ j : Nat, j < n → f j < n) (hi : ∀ j q : Nat, j < q → q < n → f j ≠ f q) {i : Nat} (hn : i < n) : ∃ j : Nat, j < n ∧ f j = i := by
  have nd : ((List.range n).map f).Nodup := by
    exact List.pairwise_map.mpr (List.Pairwise.imp_of_mem (fun {a b} _ hb hab => hi a b hab (List.mem_range.mp hb)) List.pairwise_lt_range)
  apply Classical.byContradiction
  intro hc
  have nd2 : (i :: (List.range n).map f).Nodup := List.nodup_cons.mpr ⟨fun hm => by
    obtain ⟨j, h1, h2⟩ := List.mem_map.mp hm
    exact hc ⟨j, List.mem_range.mp h1, h2⟩, nd⟩
  have := nd2.length_le_of_subset (l₂ := List.range n) (fun x hx => by
    rcases List.mem_cons.mp hx with e | e
    · rw [e]; exact List.mem_range.mpr hn
    · obtain ⟨j, h1, h2⟩ := List.mem_map.mp e
      rw [← h2]; exact List.mem_range.mpr (h j (List.mem_range.mp h1)))
  rw [List.length_cons, List.length_map, List.length_range] at this
  omega
def CIb (p : Int) (len : Nat) (V : Nat → Nat → Int) (k : Nat) (w : Bs) : Prop := TBs len w ∧ (∀ j : Nat, j < w.2.2 → LnC p len V k (w.1 j)) ∧ ∀ q : Nat, q < k → LnC p len w.1 w.2.2 (V q)
theorem CIb.st {p : Int} (hp : IsP p) {len : Nat} {V : Nat → Nat → Int} {k : Nat} {w : Bs} (hV : ∀ i : Nat, i < len → 0 ≤ V k i ∧ V k i < p) (hI : BsI p len w) (h : CIb p len V k w) : CIb p len V (k + 1) (bsS p len V k w) := by
  have h0 := hp.rg
  obtain ⟨h1, h2, h3⟩ := h
  have hz := redB_z (p := p) h1 (V k) w.2.2 (Nat.le_refl _)
  have hown : LnC p len w.1 w.2.2 (V k) ↔ LnC p len w.1 w.2.2 (redB p w.1 w.2.1 w.2.2 (V k)) := redB_lc (V k) w.2.2 (fun j hj => LnC.mem hj)
  have same : (∀ i : Nat, i < len → redB p w.1 w.2.1 w.2.2 (V k) i = 0) → CIb p len V (k + 1) w := fun hr => by
    refine ⟨h1, fun j hj => (h2 j hj).up (by omega), fun q hq => ?_⟩
    by_cases c : q = k
    · rw [c]; exact hown.mpr (LnC.zero (fun i hi => by rw [hr i hi, Int.zero_emod]))
    · exact h3 q (by omega)
  unfold bsS
  by_cases c1 : w.2.2 < len
  · rw [if_pos c1]
    by_cases c2 : fsN (redB p w.1 w.2.1 w.2.2 (V k)) len 0 < len
    · rw [if_pos c2]
      have hne := fsN_ne (R := redB p w.1 w.2.1 w.2.2 (V k)) (m := len) (i := 0) (by omega)
      have hnew : ∀ (U : Nat → Nat → Int) (L : Nat), (∀ j : Nat, j < w.2.2 → LnC p len U L (w.1 j)) → (LnC p len U L (V k) ↔ LnC p len U L (redB p w.1 w.2.1 w.2.2 (V k))) := fun U L hu => redB_lc (V k) w.2.2 hu
      have hrr := redB_rg (p := p) (by omega) (B := w.1) (ld := w.2.1) (hV _ c2) w.2.2
      generalize redB p w.1 w.2.1 w.2.2 (V k) = R at hz c2 hne hnew hrr ⊢
      generalize fsN R len 0 = l at c2 hne hrr ⊢
      have eN : ∀ i : Nat, addR p R R (inv p (R l) - 1) i = (R i * inv p (R l)) % p := fun i => by
        show (R i + (inv p (R l) - 1) * R i) % p = _
        rw [Int.sub_mul, Int.one_mul, Int.mul_comm (R i)]
        congr 1
        omega
      have iv := inv_mul hp (a := R l) ⟨by omega, hrr.2⟩
      generalize addR p R R (inv p (R l) - 1) = N at eN ⊢
      have nw : upr w.1 w.2.2 N w.2.2 = N := by unfold upr; rw [if_pos rfl]
      have ol : ∀ j : Nat, j < w.2.2 → upr w.1 w.2.2 N j = w.1 j := fun j hj => by unfold upr; rw [if_neg (by omega)]
      have nl : upn w.2.1 w.2.2 l w.2.2 = l := by unfold upn; rw [if_pos rfl]
      have oll : ∀ j : Nat, j < w.2.2 → upn w.2.1 w.2.2 l j = w.2.1 j := fun j hj => by unfold upn; rw [if_neg (by omega)]
      refine ⟨fun j hj => ?_, fun j hj => ?_, fun q hq => ?_⟩
      · have hj : j < w.2.2 + 1 := hj
        show upn w.2.1 w.2.2 l j < len ∧ upr w.1 w.2.2 N j (upn w.2.1 w.2.2 l j) = 1 ∧ ∀ q : Nat, j < q → q < w.2.2 + 1 → upr w.1 w.2.2 N q (upn w.2.1 w.2.2 l j) = 0
        by_cases cj : j = w.2.2
        · rw [cj, nl, nw, eN]
          exact ⟨c2, iv, fun q a b => by omega⟩
        · rw [oll j (by omega), ol j (by omega)]
          refine ⟨(h1 j (by omega)).1, (h1 j (by omega)).2.1, fun q a b => ?_⟩
          by_cases cq : q = w.2.2
          · rw [cq, nw, eN, hz j (by omega), Int.zero_mul, Int.zero_emod]
          · rw [ol q (by omega)]; exact (h1 j (by omega)).2.2 q a (by omega)
      · have hj : j < w.2.2 + 1 := hj
        show LnC p len V (k + 1) (upr w.1 w.2.2 N j)
        by_cases cj : j = w.2.2
        · rw [cj, nw]
          have hR := (hnew V (k + 1) (fun j hj => (h2 j hj).up (by omega))).mp (LnC.mem (by omega))
          exact hR.lin hR (inv p (R l)) 0 (fun i _ => by rw [eN, Int.emod_emod, Int.zero_mul, Int.add_zero, Int.mul_comm])
        · rw [ol j (by omega)]; exact (h2 j (by omega)).up (by omega)
      · show LnC p len (upr w.1 w.2.2 N) (w.2.2 + 1) (V q)
        have hold : ∀ j : Nat, j < w.2.2 → LnC p len (upr w.1 w.2.2 N) (w.2.2 + 1) (w.1 j) := fun j hj => by
          have := LnC.mem (p := p) (len := len) (V := upr w.1 w.2.2 N) (K := w.2.2 + 1) (q := j) (by omega)
          rw [ol j hj] at this
          exact this
        by_cases cq : q = k
        · rw [cq]
          refine (hnew _ _ hold).mpr ?_
          have hN := LnC.mem (p := p) (len := len) (V := upr w.1 w.2.2 N) (K := w.2.2 + 1) (q := w.2.2) (by omega)
          rw [nw] at hN
          refine hN.lin hN (R l) 0 (fun i _ => ?_)
          rw [eN, Int.zero_mul, Int.add_zero, Int.mul_comm (R l), mul_md, Int.mul_assoc, Int.mul_emod, Int.mul_comm (inv p (R l)), iv, Int.mul_one, Int.emod_emod]
        · exact LnC.tr hold (h3 q (by omega))
    · rw [if_neg c2]
      exact same (fun i hi => fsN_z (m := len) (i := 0) (by omega) i (by omega) (by omega))
  · rw [if_neg c1]
    have hr : w.2.2 = len := by have := hI.1; omega
    refine same (fun i hi => ?_)
    obtain ⟨j, j1, j2⟩ := pig (n := len) (f := w.2.1) (fun j hj => (h1 j (by omega)).1) (fun j q a b e => by
      have a1 := (h1 j (by omega)).2.2 q a (by omega)
      rw [e, (h1 q (by omega)).2.1] at a1
      omega) hi
    rw [← j2]
    exact hz j (by omega)
theorem bsN_CI {p : Int} (hp : IsP p) {len : Nat} {V : Nat → Nat → Int} (hV : ∀ k i : Nat, 0 ≤ V k i ∧ V k i < p) : ∀ k : Nat, CIb p len V k (bsN p len V k)
  | 0 => ⟨fun j hj => absurd hj (Nat.not_lt_zero j), fun j hj => absurd hj (Nat.not_lt_zero j), fun j hj => absurd hj (Nat.not_lt_zero j)⟩
  | k + 1 => CIb.st hp (fun i _ => hV k i) (BsI.all (by have := hp.rg; omega) k) (bsN_CI hp hV k)
theorem bsN_lc {p : Int} (hp : IsP p) {len : Nat} {V : Nat → Nat → Int} (hV : ∀ k i : Nat, 0 ≤ V k i ∧ V k i < p) (k : Nat) : Tri p len (bsN p len V k).1 (bsN p len V k).2.2 ∧ ∀ W : Nat → Int, LnC p len (bsN p len V k).1 (bsN p len V k).2.2 W ↔ LnC p len V k W := by
  have h0 := hp.rg
  obtain ⟨h1, h2, h3⟩ := bsN_CI hp hV (len := len) k
  refine ⟨⟨(bsN p len V k).2.1, fun j hj => ?_⟩, fun W => ⟨LnC.tr h2, LnC.tr h3⟩⟩
  obtain ⟨a, b, c⟩ := h1 j hj
  refine ⟨a, ?_, fun q q1 q2 => ?_⟩
  · rw [b, Int.emod_eq_of_lt (by omega) (by omega)]; decide
  · rw [c q q1 q2, Int.zero_emod]
