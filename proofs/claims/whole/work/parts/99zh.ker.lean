/-! ===== lines solved: what they leave ===== -/
def dotS (po : Nat) (a v : Nat → Int) : Int := smT (po + 1) (fun j => a j * v j)
theorem dot_lin {p : Int} {po : Nat} {a b d v : Nat → Int} {x y : Int} (h : ∀ j : Nat, j ≤ po → a j % p = (x * b j + y * d j) % p) : dotS po a v % p = (x * dotS po b v + y * dotS po d v) % p := by
  unfold dotS
  rw [← smT_lin]
  refine smT_md (fun j hj => ?_)
  show a j * v j % p = (x * (b j * v j) + y * (d j * v j)) % p
  rw [Int.mul_emod, h j (by omega), ← Int.mul_emod, Int.add_mul, Int.mul_assoc, Int.mul_assoc]
theorem dot_sub {p : Int} {po : Nat} {a v w : Nat → Int} : dotS po a (fun j => (v j - w j) % p) % p = (dotS po a v - dotS po a w) % p := by
  unfold dotS
  have e : smT (po + 1) (fun j => a j * v j) - smT (po + 1) (fun j => a j * w j) = smT (po + 1) (fun j => 1 * (a j * v j) + (-1) * (a j * w j)) := by rw [smT_lin]; omega
  rw [e]
  refine smT_md (fun j hj => ?_)
  show a j * ((v j - w j) % p) % p = (1 * (a j * v j) + (-1) * (a j * w j)) % p
  rw [Int.mul_comm, mul_md]
  congr 1
  rw [Int.sub_mul, Int.mul_comm (v j), Int.mul_comm (w j)]
  omega
theorem smT_zero {f : Nat → Int} {m : Nat} (h : ∀ i : Nat, i < m → f i = 0) : smT m f = 0 := by
  rw [smT_ext (g := fun _ => 0) h]
  have z : ∀ j : Nat, smT j (fun _ => (0 : Int)) = 0 := fun j => by
    induction j with
    | zero => rfl
    | succ j ih => show smT j (fun _ => (0 : Int)) + 0 = 0; rw [ih]; rfl
  exact z m
theorem smT_two {f : Nat → Int} {k l m : Nat} (hk : k < m) (hl : l < m) (hkl : k ≠ l) (h : ∀ i : Nat, i < m → i ≠ k → i ≠ l → f i = 0) : smT m f = f k + f l := by
  have e : smT m f = smT m (fun i => 1 * (if i = k then f k else 0) + 1 * (if i = k then 0 else f i)) := smT_ext (fun i _ => by
    show f i = 1 * (if i = k then f k else 0) + 1 * (if i = k then 0 else f i)
    by_cases c : i = k
    · rw [if_pos c, if_pos c, c]; omega
    · rw [if_neg c, if_neg c]; omega)
  rw [e, smT_lin, smT_one (k := k) hk (fun i _ hi => by show (if i = k then f k else 0) = 0; rw [if_neg hi]), smT_one (k := l) hl (fun i hi h2 => by
    show (if i = k then 0 else f i) = 0
    by_cases c : i = k
    · rw [if_pos c]
    · rw [if_neg c]; exact h i hi c h2)]
  rw [if_pos rfl, if_neg (fun e => hkl e.symm)]
  omega
/-- a column that no power has -/
def ill (g j : Nat) : Prop := j % 2 = 1 ∧ j < 2 * g + 1
def Ker (p : Int) (g po u : Nat) (M : Nat → Nat → Int) (v : Nat → Int) : Prop := InP p v ∧ (∀ j : Nat, (po < j ∨ ill g j) → v j = 0) ∧ ∀ i : Nat, i < u → dotS po (M i) v % p = 0
def PvI (g u c : Nat) (w : Sv) : Prop := (∀ j : Nat, j < c → (w.2.2.1 j = -2 ∧ ill g j) ∨ (w.2.2.1 j = -1 ∧ ¬ ill g j) ∨ ∃ r : Nat, w.2.2.1 j = (r : Int) ∧ r < w.2.1 ∧ ¬ ill g j ∧ w.1 r j = 1 ∧ (∀ i : Nat, i < u → i ≠ r → w.1 i j = 0) ∧ ∀ q : Nat, q < j → w.1 r q = 0) ∧ ∀ r : Nat, r < w.2.1 → ∃ j : Nat, j < c ∧ w.2.2.1 j = (r : Int)
theorem upf_is (f : Nat → Int) (i : Nat) (v : Int) : upf f i v i = v := by unfold upf; rw [if_pos rfl]
theorem upf_ot {f : Nat → Int} {i j : Nat} {v : Int} (h : j ≠ i) : upf f i v j = f j := by unfold upf; rw [if_neg h]
theorem clr_lo {p : Int} {c po r u : Nat} {M : Nat → Nat → Int} {i j : Nat} (h : j < c) : clrM p c po r u M i j = M i j := by unfold clrM; rw [if_pos (Or.inl h)]
theorem clr_r {p : Int} {c po r u : Nat} {M : Nat → Nat → Int} {j : Nat} (h : ¬ (j < c ∨ po < j)) : clrM p c po r u M r j = M r j * inv p (M r c) % p := by unfold clrM; rw [if_neg h, if_pos rfl]
theorem clr_i {p : Int} {c po r u : Nat} {M : Nat → Nat → Int} {i j : Nat} (h : ¬ (j < c ∨ po < j)) (hi : i ≠ r) (hu : i < u) : clrM p c po r u M i j = (M i j - M i c * (M r j * inv p (M r c) % p)) % p := by unfold clrM; rw [if_neg h, if_neg hi, if_pos hu]
theorem sw_r {M : Nat → Nat → Int} {l r : Nat} : swM M l r r = M l := by unfold swM; rw [if_pos rfl]
theorem sw_l {M : Nat → Nat → Int} {l r : Nat} (h : l ≠ r) : swM M l r l = M r := by unfold swM; rw [if_neg h, if_pos rfl]
theorem sw_i {M : Nat → Nat → Int} {l r i : Nat} (h1 : i ≠ r) (h2 : i ≠ l) : swM M l r i = M i := by unfold swM; rw [if_neg h1, if_neg h2]
theorem PvI.st {p : Int} (hp : IsP p) {g po u c : Nat} {w : Sv} (hE : EI p g po u c w) (h : PvI g u c w) (hc : c ≤ po) : PvI g u (c + 1) (slvS p g po u c w) := by
  obtain ⟨e1, e2, e3, e4, e5, e6⟩ := hE
  obtain ⟨h1, h2⟩ := h
  by_cases hi : c % 2 = 1 ∧ c < 2 * g + 1
  · rw [slvS_m hi]
    refine ⟨fun j hj => ?_, fun r hr => ?_⟩
    · by_cases cj : j = c
      · subst cj
        exact Or.inl ⟨upf_is _ _ _, hi⟩
      · show (upf w.2.2.1 c (-2) j = -2 ∧ _) ∨ (upf w.2.2.1 c (-2) j = -1 ∧ _) ∨ ∃ r : Nat, upf w.2.2.1 c (-2) j = (r : Int) ∧ _
        rw [upf_ot cj]
        exact h1 j (by omega)
    · obtain ⟨j, a1, a2⟩ := h2 r hr
      exact ⟨j, by omega, by show upf w.2.2.1 c (-2) j = _; rw [upf_ot (by omega)]; exact a2⟩
  · cases hf : fstL w.1 c (u - w.2.1) w.2.1 with
    | none =>
      rw [slvS_n hi hf]
      refine ⟨fun j hj => ?_, fun r hr => ?_⟩
      · by_cases cj : j = c
        · subst cj
          exact Or.inr (Or.inl ⟨upf_is _ _ _, hi⟩)
        · show (upf w.2.2.1 c (-1) j = -2 ∧ _) ∨ (upf w.2.2.1 c (-1) j = -1 ∧ _) ∨ ∃ r : Nat, upf w.2.2.1 c (-1) j = (r : Int) ∧ _
          rw [upf_ot cj]
          exact h1 j (by omega)
      · obtain ⟨j, a1, a2⟩ := h2 r hr
        exact ⟨j, by omega, by show upf w.2.2.1 c (-1) j = _; rw [upf_ot (by omega)]; exact a2⟩
    | some l =>
      obtain ⟨f1, f2, f3⟩ := fstL_some hf
      rw [slvS_s hi hf]
      have hl := e1 l (by omega) c hc
      refine ⟨fun j hj => ?_, fun r hr => ?_⟩
      · by_cases cj : j = c
        · subst cj
          refine Or.inr (Or.inr ⟨w.2.1, upf_is _ _ _, Nat.lt_succ_self _, hi, ?_, fun i hu hn => ?_, fun q hq => ?_⟩)
          · show clrM p j po w.2.1 u (swM w.1 l w.2.1) w.2.1 j = 1
            rw [clr_r (by omega), sw_r]
            exact inv_mul hp ⟨by omega, hl.2⟩
          · show clrM p j po w.2.1 u (swM w.1 l w.2.1) i j = 0
            rw [clr_i (by omega) hn hu, sw_r, inv_mul hp ⟨by omega, hl.2⟩, Int.mul_one, Int.sub_self]; rfl
          · show clrM p j po w.2.1 u (swM w.1 l w.2.1) w.2.1 q = 0
            rw [clr_lo hq, sw_r]
            exact e3 l (by omega) f1 q hq (by omega)
        · show (upf w.2.2.1 c w.2.1 j = -2 ∧ _) ∨ (upf w.2.2.1 c w.2.1 j = -1 ∧ _) ∨ ∃ r : Nat, upf w.2.2.1 c w.2.1 j = (r : Int) ∧ r < w.2.1 + 1 ∧ ¬ ill g j ∧ clrM p c po w.2.1 u (swM w.1 l w.2.1) r j = 1 ∧ (∀ i : Nat, i < u → i ≠ r → clrM p c po w.2.1 u (swM w.1 l w.2.1) i j = 0) ∧ ∀ q : Nat, q < j → clrM p c po w.2.1 u (swM w.1 l w.2.1) r q = 0
          rw [upf_ot cj]
          rcases h1 j (by omega) with a | a | ⟨r, a1, a2, a3, a4, a5, a6⟩
          · exact Or.inl a
          · exact Or.inr (Or.inl a)
          · refine Or.inr (Or.inr ⟨r, a1, by omega, a3, ?_, fun i hu hn => ?_, fun q hq => ?_⟩)
            · rw [clr_lo (by omega), sw_i (by omega) (by omega)]; exact a4
            · rw [clr_lo (by omega)]
              by_cases c1 : i = w.2.1
              · rw [c1, sw_r]; exact a5 l (by omega) (by omega)
              · by_cases c2 : i = l
                · rw [c2, sw_l (by omega)]; exact a5 w.2.1 (by omega) (by omega)
                · rw [sw_i c1 c2]; exact a5 i hu hn
            · rw [clr_lo (by omega), sw_i (by omega) (by omega)]; exact a6 q hq
      · have hr : r < w.2.1 + 1 := hr
        by_cases cr : r = w.2.1
        · exact ⟨c, by omega, by show upf w.2.2.1 c w.2.1 c = _; rw [upf_is, cr]⟩
        · obtain ⟨j, a1, a2⟩ := h2 r (by omega)
          exact ⟨j, by omega, by show upf w.2.2.1 c w.2.1 j = _; rw [upf_ot (by omega)]; exact a2⟩
theorem md_eq0 {p a b : Int} (h : a % p = b % p) (hb : b % p = 0) : a % p = 0 := h.trans hb
theorem Ker.st {p : Int} (hp : IsP p) {g po u c : Nat} {w : Sv} (hE : EI p g po u c w) (hc : c ≤ po) (v : Nat → Int) : Ker p g po u w.1 v ↔ Ker p g po u (slvS p g po u c w).1 v := by
  obtain ⟨e1, e2, e3, e4, e5, e6⟩ := hE
  by_cases hi : c % 2 = 1 ∧ c < 2 * g + 1
  · rw [slvS_m hi]
  · cases hf : fstL w.1 c (u - w.2.1) w.2.1 with
    | none => rw [slvS_n hi hf]
    | some l =>
      obtain ⟨f1, f2, f3⟩ := fstL_some hf
      rw [slvS_s hi hf]
      show Ker p g po u w.1 v ↔ Ker p g po u (clrM p c po w.2.1 u (swM w.1 l w.2.1)) v
      have hl := e1 l (by omega) c hc
      have ivm := inv_mul hp (a := w.1 l c) ⟨by omega, hl.2⟩
      obtain ⟨r, hr⟩ : ∃ r : Nat, w.2.1 = r := ⟨_, rfl⟩
      rw [hr] at f1 f2 e3 ⊢
      have hru : r < u := by omega
      have d1 : dotS po (clrM p c po r u (swM w.1 l r) r) v % p = (inv p (w.1 l c) * dotS po (w.1 l) v + 0 * dotS po (w.1 l) v) % p := dot_lin (fun j hj => by
        by_cases cj : j < c
        · rw [clr_lo cj, sw_r, e3 l (by omega) f1 j cj hj]; simp
        · rw [clr_r (by omega), sw_r, Int.emod_emod, Int.zero_mul, Int.add_zero, Int.mul_comm])
      have d2 : ∀ i : Nat, i < u → i ≠ r → dotS po (clrM p c po r u (swM w.1 l r) i) v % p = (1 * dotS po (swM w.1 l r i) v + (-(swM w.1 l r i c)) * dotS po (clrM p c po r u (swM w.1 l r) r) v) % p := fun i hu hn => dot_lin (fun j hj => by
        by_cases cj : j < c
        · rw [clr_lo cj, clr_lo cj, sw_r, e3 l (by omega) f1 j cj hj, Int.mul_zero, Int.add_zero, Int.one_mul]
        · rw [clr_i (by omega) hn hu, clr_r (by omega), Int.emod_emod, Int.one_mul, Int.neg_mul]; rfl)
      have sw : (∀ i : Nat, i < u → dotS po (w.1 i) v % p = 0) ↔ ∀ i : Nat, i < u → dotS po (swM w.1 l r i) v % p = 0 := by
        constructor
        · intro h i hu
          by_cases c1 : i = r
          · rw [c1, sw_r]; exact h l (by omega)
          · by_cases c2 : i = l
            · rw [c2, sw_l (by omega)]; exact h r hru
            · rw [sw_i c1 c2]; exact h i hu
        · intro h i hu
          by_cases c1 : i = r
          · by_cases c3 : l = r
            · have := h r hru; rw [sw_r, c3] at this; rw [c1]; exact this
            · have := h l (by omega); rw [sw_l c3] at this; rw [c1]; exact this
          · by_cases c2 : i = l
            · have := h r hru; rw [sw_r] at this; rw [c2]; exact this
            · have := h i hu; rw [sw_i c1 c2] at this; exact this
      refine and_congr_right (fun _ => and_congr_right (fun _ => sw.trans ⟨fun h i hu => ?_, fun h i hu => ?_⟩))
      · have z1 : dotS po (clrM p c po r u (swM w.1 l r) r) v % p = 0 := by
          rw [d1, Int.zero_mul, Int.add_zero, Int.mul_emod]
          have := h r hru
          rw [sw_r] at this
          rw [this, Int.mul_zero]; rfl
        by_cases ci : i = r
        · rw [ci]; exact z1
        · rw [d2 i hu ci, Int.one_mul, Int.add_emod, h i hu, Int.mul_emod, z1, Int.mul_zero]; rfl
      · have z1 := h r hru
        by_cases ci : i = r
        · rw [ci, sw_r]
          rw [d1, Int.zero_mul, Int.add_zero] at z1
          have : (w.1 l c * (inv p (w.1 l c) * dotS po (w.1 l) v)) % p = 0 := by rw [Int.mul_emod, z1, Int.mul_zero]; rfl
          rw [← Int.mul_assoc, Int.mul_emod, ivm, Int.one_mul, Int.emod_emod] at this
          exact this
        · have z2 := h i hu
          rw [d2 i hu ci, Int.one_mul, Int.add_emod, Int.mul_emod (-(swM w.1 l r i c)), z1, Int.mul_zero] at z2
          simpa using z2
def enL (pv : Nat → Int) : Nat → (Nat → Int) × Nat
  | 0 => (fun _ => 0, 0)
  | c + 1 => if pv c = -1 then (upf (enL pv c).1 (enL pv c).2 c, (enL pv c).2 + 1) else enL pv c
theorem enL_ext {P Q : Nat → Int} : ∀ {c : Nat}, (∀ j : Nat, j < c → (P j = -1 ↔ Q j = -1)) → enL P c = enL Q c
  | 0, _ => rfl
  | c + 1, h => by
    unfold enL
    rw [enL_ext (c := c) (fun j hj => h j (by omega))]
    by_cases hc : P c = -1
    · rw [if_pos hc, if_pos ((h c (by omega)).mp hc)]
    · rw [if_neg hc, if_neg (fun e => hc ((h c (by omega)).mpr e))]
theorem enL_st {p : Int} {g po u c : Nat} {w : Sv} (h : (w.2.2.2.1, w.2.2.2.2) = enL w.2.2.1 c) : ((slvS p g po u c w).2.2.2.1, (slvS p g po u c w).2.2.2.2) = enL (slvS p g po u c w).2.2.1 (c + 1) := by
  have key : ∀ v : Int, enL (upf w.2.2.1 c v) (c + 1) = if v = -1 then (upf w.2.2.2.1 w.2.2.2.2 c, w.2.2.2.2 + 1) else (w.2.2.2.1, w.2.2.2.2) := fun v => by
    show (if upf w.2.2.1 c v c = -1 then (upf (enL (upf w.2.2.1 c v) c).1 (enL (upf w.2.2.1 c v) c).2 c, (enL (upf w.2.2.1 c v) c).2 + 1) else enL (upf w.2.2.1 c v) c) = _
    rw [upf_is, enL_ext (P := upf w.2.2.1 c v) (Q := w.2.2.1) (fun j hj => by rw [upf_ot (by omega)]), ← h]
  by_cases hi : c % 2 = 1 ∧ c < 2 * g + 1
  · rw [slvS_m hi]
    show (w.2.2.2.1, w.2.2.2.2) = enL (upf w.2.2.1 c (-2)) (c + 1)
    rw [key, if_neg (by decide)]
  · cases hf : fstL w.1 c (u - w.2.1) w.2.1 with
    | none =>
      rw [slvS_n hi hf]
      show (upf w.2.2.2.1 w.2.2.2.2 c, w.2.2.2.2 + 1) = enL (upf w.2.2.1 c (-1)) (c + 1)
      rw [key, if_pos rfl]
    | some l =>
      rw [slvS_s hi hf]
      show (w.2.2.2.1, w.2.2.2.2) = enL (upf w.2.2.1 c w.2.1) (c + 1)
      rw [key, if_neg (by omega)]
/-- rows that may be solved -/
def MOkk (p : Int) (g po u : Nat) (M : Nat → Nat → Int) : Prop := ∀ i : Nat, i < u → ∀ j : Nat, j ≤ po → (0 ≤ M i j ∧ M i j < p) ∧ (ill g j → M i j = 0)
theorem slv_all {p : Int} (hp : IsP p) {g po u : Nat} {M : Nat → Nat → Int} (hM : MOkk p g po u M) : ∀ c : Nat, c ≤ po + 1 → EI p g po u c (slvN p g po u M c) ∧ PvI g u c (slvN p g po u M c) ∧ (∀ v, Ker p g po u M v ↔ Ker p g po u (slvN p g po u M c).1 v) ∧ ((slvN p g po u M c).2.2.2.1, (slvN p g po u M c).2.2.2.2) = enL (slvN p g po u M c).2.2.1 c
  | 0, _ => ⟨⟨fun i hi j hj => (hM i hi j hj).1, Nat.zero_le _, fun i _ _ j hj => by omega, fun i hi j hj h => (hM i hi j hj).2 h, Nat.le_refl 0, Nat.le_refl 0⟩, ⟨fun j hj => by omega, fun r hr => by have hr : r < 0 := hr; omega⟩, fun v => Iff.rfl, rfl⟩
  | c + 1, h => by
    obtain ⟨a1, a2, a3, a4⟩ := slv_all hp hM c (by omega)
    exact ⟨a1.st hp (by omega), PvI.st hp a1 a2 (by omega), fun v => (a3 v).trans (Ker.st hp a1 (by omega) v), enL_st a4⟩
/-- the row of a base that a column leads -/
def bsV (p : Int) (po : Nat) (w : Sv) (L : Nat) : Nat → Int := fun c => if c = L then 1 else if c ≤ po ∧ 0 ≤ w.2.2.1 c then (-(w.1 (w.2.2.1 c).toNat L)) % p else 0
theorem bsV_ok {p : Int} (hp : IsP p) {g po u : Nat} {w : Sv} (hE : EI p g po u (po + 1) w) (hP : PvI g u (po + 1) w) {L : Nat} (hL : L ≤ po) (hl : w.2.2.1 L = -1) : Ker p g po u w.1 (bsV p po w L) ∧ bsV p po w L L = 1 ∧ (∀ j : Nat, L < j → bsV p po w L j = 0) ∧ ∀ j : Nat, j ≤ po → w.2.2.1 j = -1 → j ≠ L → bsV p po w L j = 0 := by
  obtain ⟨e1, e2, e3, e4, e5, e6⟩ := hE
  have hr := hp.rg
  have Lle : ¬ ill g L := by
    rcases hP.1 L (by omega) with ⟨a, -⟩ | ⟨-, a⟩ | ⟨r, a, -⟩
    · omega
    · exact a
    · omega
  have b1 : bsV p po w L L = 1 := by unfold bsV; rw [if_pos rfl]
  have b2 : ∀ j : Nat, j ≤ po → w.2.2.1 j = -1 → j ≠ L → bsV p po w L j = 0 := fun j hj h hn => by unfold bsV; rw [if_neg hn, if_neg (by omega)]
  have b3 : ∀ j : Nat, po < j → bsV p po w L j = 0 := fun j hj => by unfold bsV; rw [if_neg (by omega), if_neg (by omega)]
  have b4 : ∀ j : Nat, j ≤ po → ill g j → bsV p po w L j = 0 := fun j hj h => by
    unfold bsV
    rw [if_neg (show ¬ j = L from fun e => Lle (e ▸ h)), if_neg]
    rcases hP.1 j (by omega) with ⟨a, -⟩ | ⟨-, a⟩ | ⟨r, -, -, a, -⟩
    · omega
    · exact absurd h a
    · exact absurd h a
  have b5 : ∀ (j r : Nat), j ≤ po → w.2.2.1 j = (r : Int) → bsV p po w L j = (-(w.1 r L)) % p := fun j r hj h => by
    unfold bsV
    rw [if_neg (fun e => by rw [e] at h; omega), if_pos (by omega), h, Int.toNat_natCast]
  refine ⟨⟨fun j => ?_, fun j hj => ?_, fun i hi => ?_⟩, b1, fun j hj => ?_, b2⟩
  · unfold bsV
    split
    · omega
    · split
      · exact emr _ (by omega)
      · omega
  · by_cases c : po < j
    · exact b3 j c
    · exact b4 j (by omega) (hj.resolve_left c)
  · unfold dotS
    by_cases ci : i < w.2.1
    · obtain ⟨j, j1, j2⟩ := hP.2 i ci
      obtain ⟨r, r1, r2, r3, r4, r5, r6⟩ : ∃ r : Nat, w.2.2.1 j = (r : Int) ∧ r < w.2.1 ∧ ¬ ill g j ∧ w.1 r j = 1 ∧ (∀ i : Nat, i < u → i ≠ r → w.1 i j = 0) ∧ ∀ q : Nat, q < j → w.1 r q = 0 := by
        rcases hP.1 j j1 with ⟨a, -⟩ | ⟨a, -⟩ | a
        · omega
        · omega
        · exact a
      have : r = i := by omega
      subst this
      rw [smT_two (k := L) (l := j) (by omega) j1 (fun e => by rw [← e] at j2; omega) (fun q hq h1 h2 => ?_)]
      · rw [b1, b5 j r (by omega) r1, r4, Int.mul_one, Int.one_mul, Int.add_emod_emod, show w.1 r L + -(w.1 r L) = 0 from by omega]; rfl
      · show w.1 r q * bsV p po w L q = 0
        rcases hP.1 q hq with ⟨a, b⟩ | ⟨a, b⟩ | ⟨s, s1, s2, s3, s4, s5, s6⟩
        · rw [b4 q (by omega) b, Int.mul_zero]
        · rw [b2 q (by omega) a h1, Int.mul_zero]
        · by_cases cs : r = s
          · exfalso
            subst cs
            rcases Nat.lt_trichotomy q j with h | h | h
            · have := r6 q h; omega
            · exact h2 h
            · have := s6 j h; omega
          · rw [s5 r (by omega) cs, Int.zero_mul]
    · rw [smT_zero (fun q hq => by show w.1 i q * bsV p po w L q = 0; rw [e3 i hi (by omega) q hq (by omega), Int.zero_mul])]; rfl
  · by_cases c : j ≤ po
    · rcases hP.1 j (by omega) with ⟨a, b⟩ | ⟨a, b⟩ | ⟨s, s1, s2, s3, s4, s5, s6⟩
      · exact b4 j c b
      · exact b2 j c a (by omega)
      · rw [b5 j s c s1, s6 L hj]; simp
    · exact b3 j (by omega)
/-- one that is 0 where columns lead is 0 -/
theorem ker_0 {p : Int} (hp : IsP p) {g po u : Nat} {w : Sv} (hE : EI p g po u (po + 1) w) (hP : PvI g u (po + 1) w) {v : Nat → Int} (hv : Ker p g po u w.1 v) (h : ∀ j : Nat, j ≤ po → w.2.2.1 j = -1 → v j = 0) (j : Nat) : v j = 0 := by
  by_cases c : j ≤ po
  · rcases hP.1 j (by omega) with ⟨a, b⟩ | ⟨a, b⟩ | ⟨s, s1, s2, s3, s4, s5, s6⟩
    · exact hv.2.1 j (Or.inr b)
    · exact h j c a
    · have d := hv.2.2 s (by have := hE.2.1; omega)
      unfold dotS at d
      rw [smT_one (k := j) (by omega) (fun q hq hn => ?_)] at d
      · rw [s4, Int.one_mul, Int.emod_eq_of_lt (hv.1 j).1 (hv.1 j).2] at d
        exact d
      · show w.1 s q * v q = 0
        rcases hP.1 q hq with ⟨a, b⟩ | ⟨a, b⟩ | ⟨t, t1, t2, t3, t4, t5, t6⟩
        · rw [hv.2.1 q (Or.inr b), Int.mul_zero]
        · rw [h q (by omega) a, Int.mul_zero]
        · by_cases cs : s = t
          · exfalso
            subst cs
            rcases Nat.lt_trichotomy q j with e | e | e
            · have := s6 q e; omega
            · exact hn e
            · have := t6 j e; omega
          · rw [t5 s (by have := hE.2.1; omega) cs, Int.zero_mul]
  · exact hv.2.1 j (Or.inl (by omega))
/-- which columns lead: those that end a row of the kernel -/
theorem lead_iff {p : Int} (hp : IsP p) {g po u : Nat} {w : Sv} (hE : EI p g po u (po + 1) w) (hP : PvI g u (po + 1) w) {L : Nat} (hL : L ≤ po) : w.2.2.1 L = -1 ↔ ∃ v : Nat → Int, Ker p g po u w.1 v ∧ v L ≠ 0 ∧ ∀ j : Nat, L < j → v j = 0 := by
  constructor
  · intro h
    obtain ⟨a1, a2, a3, -⟩ := bsV_ok hp hE hP hL h
    exact ⟨_, a1, by rw [a2]; decide, a3⟩
  · rintro ⟨v, v1, v2, v3⟩
    rcases hP.1 L (by omega) with ⟨a, b⟩ | ⟨a, b⟩ | ⟨s, s1, s2, s3, s4, s5, s6⟩
    · exact absurd (v1.2.1 L (Or.inr b)) v2
    · exact a
    · exfalso
      have d := v1.2.2 s (by have := hE.2.1; omega)
      unfold dotS at d
      rw [smT_one (k := L) (by omega) (fun q hq hn => ?_)] at d
      · rw [s4, Int.one_mul, Int.emod_eq_of_lt (v1.1 L).1 (v1.1 L).2] at d
        exact v2 d
      · show w.1 s q * v q = 0
        by_cases c : q < L
        · rw [s6 q c, Int.zero_mul]
        · rw [v3 q (by omega), Int.mul_zero]
theorem Ker.sub {p : Int} (hp : 0 < p) {g po u : Nat} {M : Nat → Nat → Int} {v w : Nat → Int} (h1 : Ker p g po u M v) (h2 : Ker p g po u M w) : Ker p g po u M (fun j => (v j - w j) % p) := by
  refine ⟨fun j => emr _ hp, fun j hj => by show (v j - w j) % p = 0; rw [h1.2.1 j hj, h2.2.1 j hj]; rfl, fun i hi => ?_⟩
  rw [dot_sub, Int.sub_emod, h1.2.2 i hi, h2.2.2 i hi]; rfl
/-- two systems of lines with one kernel -/
theorem slv_same {p : Int} (hp : IsP p) {g po u1 u2 : Nat} {M1 M2 : Nat → Nat → Int} (h1 : MOkk p g po u1 M1) (h2 : MOkk p g po u2 M2) (hk : ∀ v, Ker p g po u1 M1 v ↔ Ker p g po u2 M2 v) : ((slvN p g po u1 M1 (po + 1)).2.2.2.1 = (slvN p g po u2 M2 (po + 1)).2.2.2.1 ∧ (slvN p g po u1 M1 (po + 1)).2.2.2.2 = (slvN p g po u2 M2 (po + 1)).2.2.2.2) ∧ (∀ j : Nat, j ≤ po → ((slvN p g po u1 M1 (po + 1)).2.2.1 j = -1 ↔ (slvN p g po u2 M2 (po + 1)).2.2.1 j = -1)) ∧ ∀ L : Nat, L ≤ po → (slvN p g po u1 M1 (po + 1)).2.2.1 L = -1 → bsV p po (slvN p g po u1 M1 (po + 1)) L = bsV p po (slvN p g po u2 M2 (po + 1)) L := by
  have hr := hp.rg
  obtain ⟨a1, a2, a3, a4⟩ := slv_all hp h1 (po + 1) (Nat.le_refl _)
  obtain ⟨b1, b2, b3, b4⟩ := slv_all hp h2 (po + 1) (Nat.le_refl _)
  generalize slvN p g po u1 M1 (po + 1) = w1 at *
  generalize slvN p g po u2 M2 (po + 1) = w2 at *
  have kk : ∀ v, Ker p g po u1 w1.1 v ↔ Ker p g po u2 w2.1 v := fun v => (a3 v).symm.trans ((hk v).trans (b3 v))
  have ld : ∀ j : Nat, j ≤ po → (w1.2.2.1 j = -1 ↔ w2.2.2.1 j = -1) := fun j hj => by
    rw [lead_iff hp a1 a2 hj, lead_iff hp b1 b2 hj]
    exact ⟨fun ⟨v, x, y⟩ => ⟨v, (kk v).mp x, y⟩, fun ⟨v, x, y⟩ => ⟨v, (kk v).mpr x, y⟩⟩
  have en : enL w1.2.2.1 (po + 1) = enL w2.2.2.1 (po + 1) := enL_ext (fun j hj => ld j (by omega))
  have e := a4.trans (en.trans b4.symm)
  refine ⟨⟨congrArg Prod.fst e, congrArg Prod.snd e⟩, ld, fun L hL hl => ?_⟩
  obtain ⟨x1, x2, x3, x4⟩ := bsV_ok hp a1 a2 hL hl
  obtain ⟨y1, y2, y3, y4⟩ := bsV_ok hp b1 b2 hL ((ld L hL).mp hl)
  have z := ker_0 hp a1 a2 (x1.sub (by omega) ((kk _).mpr y1)) (fun j hj hlj => by
    show (bsV p po w1 L j - bsV p po w2 L j) % p = 0
    by_cases c : j = L
    · rw [c, x2, y2]; rfl
    · rw [x4 j hj hlj c, y4 j hj ((ld j hj).mp hlj) c]; rfl)
  funext j
  have := z j
  have r1 := x1.1 j
  have r2 := y1.1 j
  have e7 : (bsV p po w1 L j - bsV p po w2 L j) % p = 0 := this
  have e8 := Int.emod_eq_emod_iff_emod_sub_eq_zero.mpr e7
  rw [Int.emod_eq_of_lt r1.1 r1.2, Int.emod_eq_of_lt r2.1 r2.2] at e8
  exact e8
