/-! ===== CODE: counts over words; CODE, MENDED tied ===== -/
theorem unl_comm (A D : Nat → Int) : ∀ m : Nat, unl A D m = unl D A m
  | 0 => rfl
  | m + 1 => by
    unfold unl
    rw [unl_comm A D m]
    by_cases c : A m = D m
    · rw [if_pos c, if_pos c.symm]
    · rw [if_neg c, if_neg (fun e => c e.symm)]
/-- a list as a row -/
def rowL (X : List Int) : Nat → Int := fun i => X.getD i 0
theorem rowL_mr {f : Nat → Int} {len i : Nat} (hi : i < len) : rowL ((List.range len).map f) i = f i := by
  unfold rowL
  rw [List.getD_eq_getElem?_getD, List.getElem?_map, List.getElem?_range hi]
  rfl
/-- how many of the first have the number u -/
def cntU (U : Nat → Int) (N : Nat) (u : Int) : Nat := (List.range N).countP (fun n => decide (U n = u))
theorem cntU_s (U : Nat → Int) (N : Nat) (u : Int) : cntU U (N + 1) u = cntU U N u + (if U N = u then 1 else 0) := by
  unfold cntU
  rw [List.range_succ, List.countP_append, List.countP_singleton]
  by_cases c : U N = u <;> simp [c]
theorem cntU_pos {U : Nat → Int} {N : Nat} {u : Int} : 0 < cntU U N u ↔ ∃ n : Nat, n < N ∧ U n = u := by
  unfold cntU
  rw [List.countP_pos_iff]
  exact ⟨fun ⟨n, h1, h2⟩ => ⟨n, List.mem_range.mp h1, of_decide_eq_true h2⟩, fun ⟨n, h1, h2⟩ => ⟨n, List.mem_range.mpr h1, decide_eq_true h2⟩⟩
theorem cntU_cg {U U' : Nat → Int} (h : ∀ n : Nat, U n = U' n) (N : Nat) (u : Int) : cntU U N u = cntU U' N u := by
  rw [show U = U' from funext h]
theorem cnt_wdL {p : Int} {len : Nat} {B : Nat → Nat → Int} {r : Nat} {D : Nat → Int} {u : Int} : (wdL p len B r).countP (fun X => decide (unl (rowL X) D len = u)) = cntU (fun n => unl (lcw p B r (dgI p n)) D len) (p.toNat ^ r) u := by
  unfold wdL cntU
  rw [List.countP_map]
  refine List.countP_congr (fun n _ => ?_)
  show decide (unl (rowL ((List.range len).map (fun i => lcw p B r (dgI p n) i))) D len = u) = true ↔ decide (unl (lcw p B r (dgI p n)) D len = u) = true
  rw [unl_ext (m := len) (A' := lcw p B r (dgI p n)) (D' := D) (fun i hi => ⟨rowL_mr hi, rfl⟩)]
/-- the least, and how often it comes -/
def fdS (s : Int) (U : Nat → Int) : Nat → Int × Int
  | 0 => (s, 0)
  | n + 1 => mdS (U n) (fdS s U n)
theorem fd_ok {s : Int} {U : Nat → Int} : ∀ n : Nat, (∀ q : Nat, q < n → U q < s) → (∀ q : Nat, q < n → (fdS s U n).1 ≤ U q) ∧ (0 < n → ∃ q : Nat, q < n ∧ U q = (fdS s U n).1) ∧ (fdS s U n).2 = (cntU U n (fdS s U n).1 : Int) ∧ (fdS s U n).1 ≤ s
  | 0, _ => ⟨fun q hq => absurd hq (Nat.not_lt_zero q), fun h => absurd h (Nat.not_lt_zero 0), rfl, Int.le_refl s⟩
  | n + 1, h => by
    obtain ⟨h1, h2, h3, h4⟩ := fd_ok n (fun q hq => h q (by omega))
    have hn := h n (by omega)
    have c0 : U n < (fdS s U n).1 → cntU U n (U n) = 0 := fun hlt => by
      apply Classical.byContradiction
      intro hc
      obtain ⟨q, q1, q2⟩ := cntU_pos.mp (Nat.pos_of_ne_zero hc)
      have := h1 q q1
      omega
    have e : fdS s U (n + 1) = if U n < (fdS s U n).1 then (U n, 1) else if U n = (fdS s U n).1 then ((fdS s U n).1, (fdS s U n).2 + 1) else fdS s U n := rfl
    by_cases a : U n < (fdS s U n).1
    · rw [if_pos a] at e
      rw [e]
      refine ⟨fun q hq => ?_, fun _ => ⟨n, by omega, rfl⟩, ?_, Int.le_of_lt hn⟩
      · show U n ≤ U q
        by_cases cq : q = n
        · rw [cq]; exact Int.le_refl _
        · have := h1 q (by omega); omega
      · show (1 : Int) = ((cntU U (n + 1) (U n) : Nat) : Int)
        rw [cntU_s, if_pos rfl, c0 a]; rfl
    · rw [if_neg a] at e
      by_cases b : U n = (fdS s U n).1
      · rw [if_pos b] at e
        rw [e]
        refine ⟨fun q hq => ?_, fun _ => ⟨n, by omega, b⟩, ?_, h4⟩
        · show (fdS s U n).1 ≤ U q
          by_cases cq : q = n
          · rw [cq]; omega
          · exact h1 q (by omega)
        · show (fdS s U n).2 + 1 = ((cntU U (n + 1) (fdS s U n).1 : Nat) : Int)
          rw [cntU_s, if_pos b, h3]; rfl
      · rw [if_neg b] at e
        rw [e]
        refine ⟨fun q hq => ?_, fun _ => ?_, ?_, h4⟩
        · by_cases cq : q = n
          · rw [cq]; omega
          · exact h1 q (by omega)
        · by_cases cn : 0 < n
          · obtain ⟨q, q1, q2⟩ := h2 cn
            exact ⟨q, by omega, q2⟩
          · have e0 : n = 0 := by omega
            subst e0
            exact absurd hn a
        · rw [cntU_s, if_neg b, h3]; rfl
theorem fd_same {s s' : Int} {U U' : Nat → Int} {N N' : Nat} (hU : ∀ q : Nat, q < N → U q < s) (hU' : ∀ q : Nat, q < N' → U' q < s') (h : ∀ u : Int, cntU U N u = cntU U' N' u) (hN : 0 < N) (hN' : 0 < N') : fdS s U N = fdS s' U' N' := by
  obtain ⟨a1, a2, a3, _⟩ := fd_ok N hU
  obtain ⟨b1, b2, b3, _⟩ := fd_ok N' hU'
  have e1 : (fdS s U N).1 = (fdS s' U' N').1 := by
    obtain ⟨q, q1, q2⟩ := a2 hN
    obtain ⟨t, t1, t2⟩ := b2 hN'
    obtain ⟨q', x1, x2⟩ := cntU_pos.mp (by rw [← h (U q)]; exact cntU_pos.mpr ⟨q, q1, rfl⟩)
    obtain ⟨t', y1, y2⟩ := cntU_pos.mp (by rw [h (U' t)]; exact cntU_pos.mpr ⟨t, t1, rfl⟩)
    have i1 := b1 q' x1
    have i2 := a1 t' y1
    omega
  have e2 : (fdS s U N).2 = (fdS s' U' N').2 := by rw [a3, b3, e1, h]
  exact Prod.ext e1 e2
theorem mdN_fd (p : Int) (F r D : Nat → Int) : ∀ n : Nat, mdN p F r D n = fdS ((cdT p F r).1 + 1) (fun n => unl (wdC p F r n) D (cdT p F r).1) n
  | 0 => rfl
  | n + 1 => by
    show mdS _ (mdN p F r D n) = mdS _ (fdS _ _ n)
    rw [mdN_fd p F r D n]
theorem mdM_fd (p : Int) (F r D own : Nat → Int) : ∀ n : Nat, ((mdM p F r D own n).1, (mdM p F r D own n).2.1) = fdS 99 (fun n => unl D (mWrd p F r n) (mLen p F r)) n
  | 0 => rfl
  | n + 1 => by
    have ih := mdM_fd p F r D own n
    have e : mdM p F r D own (n + 1) = if (mdM p F r D own n).1 < unl D (mWrd p F r n) (mLen p F r) then mdM p F r D own n else (unl D (mWrd p F r n) (mLen p F r), (if unl D (mWrd p F r n) (mLen p F r) < (mdM p F r D own n).1 then 1 else (mdM p F r D own n).2.1 + 1), @ite _ ((unl D (mWrd p F r n) (mLen p F r) = (mdM p F r D own n).1 ∧ (mdM p F r D own n).2.2 = 1) ∨ ∀ i : Nat, i < mLen p F r → mWrd p F r n i = own i) (Classical.propDecidable _) 1 0) := rfl
    show _ = mdS (unl D (mWrd p F r n) (mLen p F r)) (fdS 99 (fun n => unl D (mWrd p F r n) (mLen p F r)) n)
    rw [← ih, e]
    generalize (@ite Int ((unl D (mWrd p F r n) (mLen p F r) = (mdM p F r D own n).1 ∧ (mdM p F r D own n).2.2 = 1) ∨ ∀ i : Nat, i < mLen p F r → mWrd p F r n i = own i) (Classical.propDecidable _) 1 0) = is2
    clear ih e
    generalize unl D (mWrd p F r n) (mLen p F r) = u
    generalize mdM p F r D own n = w
    show _ = if u < w.1 then (u, (1 : Int)) else if u = w.1 then (w.1, w.2.1 + 1) else (w.1, w.2.1)
    by_cases c : w.1 < u
    · rw [if_pos c, if_neg (by omega), if_neg (by omega)]
    · rw [if_neg c]
      by_cases c2 : u < w.1
      · rw [if_pos c2, if_pos c2]
      · rw [if_neg c2, if_neg c2, if_pos (by omega), show u = w.1 by omega]
theorem mdM_is {p : Int} {F r D own : Nat → Int} (h26 : mLen p F r ≤ 26) : ∀ n : Nat, (mdM p F r D own n).2.2 = 1 ↔ ∃ q : Nat, q < n ∧ unl D (mWrd p F r q) (mLen p F r) = (mdM p F r D own n).1 ∧ ∀ i : Nat, i < mLen p F r → mWrd p F r q i = own i
  | 0 => ⟨fun h => absurd h (by show ¬ (0 : Int) = 1; decide), fun ⟨q, hq, _⟩ => absurd hq (Nat.not_lt_zero q)⟩
  | n + 1 => by
    have ih := mdM_is (D := D) (own := own) h26 n
    have hle : ∀ q : Nat, q < n → (mdM p F r D own n).1 ≤ unl D (mWrd p F r q) (mLen p F r) := fun q hq => by
      have h1 := (fd_ok (s := 99) (U := fun n => unl D (mWrd p F r n) (mLen p F r)) n (fun q _ => by
        have := (unl_rg D (mWrd p F r q) (mLen p F r)).2
        show unl D (mWrd p F r q) (mLen p F r) < 99
        omega)).1 q hq
      rw [← mdM_fd p F r D own n] at h1
      exact h1
    have e : mdM p F r D own (n + 1) = if (mdM p F r D own n).1 < unl D (mWrd p F r n) (mLen p F r) then mdM p F r D own n else (unl D (mWrd p F r n) (mLen p F r), (if unl D (mWrd p F r n) (mLen p F r) < (mdM p F r D own n).1 then 1 else (mdM p F r D own n).2.1 + 1), @ite _ ((unl D (mWrd p F r n) (mLen p F r) = (mdM p F r D own n).1 ∧ (mdM p F r D own n).2.2 = 1) ∨ ∀ i : Nat, i < mLen p F r → mWrd p F r n i = own i) (Classical.propDecidable _) 1 0) := rfl
    by_cases c : (mdM p F r D own n).1 < unl D (mWrd p F r n) (mLen p F r)
    · rw [if_pos c] at e
      rw [e, ih]
      constructor
      · intro ⟨q, q1, q2⟩
        exact ⟨q, by omega, q2⟩
      · intro ⟨q, q1, q2, q3⟩
        refine ⟨q, ?_, q2, q3⟩
        by_cases cq : q = n
        · rw [cq] at q2; omega
        · omega
    · rw [if_neg c] at e
      rw [e]
      show (@ite Int _ (Classical.propDecidable _) 1 0) = 1 ↔ ∃ q : Nat, q < n + 1 ∧ unl D (mWrd p F r q) (mLen p F r) = unl D (mWrd p F r n) (mLen p F r) ∧ _
      constructor
      · intro h
        by_cases g : (unl D (mWrd p F r n) (mLen p F r) = (mdM p F r D own n).1 ∧ (mdM p F r D own n).2.2 = 1) ∨ ∀ i : Nat, i < mLen p F r → mWrd p F r n i = own i
        · rcases g with ⟨g1, g2⟩ | g
          · obtain ⟨q, q1, q2, q3⟩ := ih.mp g2
            exact ⟨q, by omega, by omega, q3⟩
          · exact ⟨n, by omega, rfl, g⟩
        · rw [if_neg g] at h
          exact absurd h (by decide)
      · intro ⟨q, q1, q2, q3⟩
        rw [if_pos]
        by_cases cq : q = n
        · rw [cq] at q3; exact Or.inr q3
        · have := hle q (by omega)
          exact Or.inl ⟨by omega, ih.mpr ⟨q, by omega, by omega, q3⟩⟩
theorem szF_val {P : Nat} (hP : 2 ≤ P) : ∀ i : Nat, szF (P : Int) i = if P ^ i ≤ 2500 then ((P ^ i : Nat) : Int) else -1
  | 0 => by rw [Nat.pow_zero, if_pos (by decide)]; rfl
  | i + 1 => by
    have ih := szF_val hP i
    have hg : P ^ i ≤ P ^ (i + 1) := Nat.pow_le_pow_right (by omega) (by omega)
    have hs : ((P ^ (i + 1) : Nat) : Int) = ((P ^ i : Nat) : Int) * P := by rw [Nat.pow_succ, Int.natCast_mul]
    show (if szF (P : Int) i = -1 then -1 else if 2500 < szF (P : Int) i * P then -1 else szF (P : Int) i * P) = _
    generalize P ^ (i + 1) = B at hg hs ⊢
    generalize P ^ i = A at ih hg hs
    rw [ih]
    by_cases c : A ≤ 2500
    · rw [if_pos c, if_neg (by omega), ← hs]
      by_cases c2 : B ≤ 2500
      · rw [if_neg (by omega), if_pos c2]
      · rw [if_pos (by omega), if_neg c2]
    · rw [if_neg c, if_pos rfl, if_neg (by omega)]
theorem wdN_val {P : Nat} (hP : 2 ≤ P) : ∀ i : Nat, (P ^ i ≤ 2500 → wdN (P : Int) i = ((P ^ i : Nat) : Int)) ∧ (2500 < P ^ i → 2500 < wdN (P : Int) i)
  | 0 => by rw [Nat.pow_zero]; exact ⟨fun _ => rfl, fun h => absurd h (by decide)⟩
  | i + 1 => by
    obtain ⟨h1, h2⟩ := wdN_val hP i
    have hg : P ^ i ≤ P ^ (i + 1) := Nat.pow_le_pow_right (by omega) (by omega)
    have hs : ((P ^ (i + 1) : Nat) : Int) = ((P ^ i : Nat) : Int) * P := by rw [Nat.pow_succ, Int.natCast_mul]
    have e : wdN (P : Int) (i + 1) = if wdN (P : Int) i ≤ 2500 then wdN (P : Int) i * P else wdN (P : Int) i := rfl
    rw [e]
    generalize P ^ (i + 1) = B at hg hs ⊢
    generalize P ^ i = A at h1 h2 hg hs
    by_cases c : A ≤ 2500
    · have e1 := h1 c
      rw [if_pos (by omega), e1, ← hs]
      exact ⟨fun _ => rfl, fun _ => by omega⟩
    · have := h2 (by omega)
      rw [if_neg (by omega)]
      exact ⟨fun _ => by omega, fun _ => this⟩
theorem wgN_cnt (p : Int) (F r : Nat → Int) : ∀ n q : Nat, wgN p F r n q = (cntU (wtC p F r) n (q : Int) : Int)
  | 0, _ => rfl
  | n + 1, q => by
    have hw : 0 ≤ wtC p F r n := (unl_rg _ _ _).1
    show upf (wgN p F r n) (wtC p F r n).toNat (wgN p F r n (wtC p F r n).toNat + 1) q = _
    rw [cntU_s]
    unfold upf
    by_cases c : q = (wtC p F r n).toNat
    · rw [if_pos c, if_pos (by omega), ← c, wgN_cnt p F r n q]; rfl
    · rw [if_neg c, if_neg (by omega), wgN_cnt p F r n q]; rfl
theorem lsN_ok {W : Nat → Int} : ∀ m w : Nat, (lsN W m w = 0 ∧ ∀ v : Nat, w ≤ v → v < w + m → ¬ 0 < W v) ∨ ∃ v : Nat, w ≤ v ∧ v < w + m ∧ lsN W m w = (v : Int) ∧ 0 < W v ∧ ∀ t : Nat, w ≤ t → t < v → ¬ 0 < W t
  | 0, w => Or.inl ⟨rfl, fun v h1 h2 => by omega⟩
  | m + 1, w => by
    unfold lsN
    by_cases c : 0 < W w
    · rw [if_pos c]
      exact Or.inr ⟨w, Nat.le_refl w, by omega, rfl, c, fun t h1 h2 => by omega⟩
    · rw [if_neg c]
      rcases lsN_ok (W := W) m (w + 1) with ⟨h1, h2⟩ | ⟨v, h1, h2, h3, h4, h5⟩
      · refine Or.inl ⟨h1, fun v a b => ?_⟩
        by_cases cv : v = w
        · rw [cv]; exact c
        · exact h2 v (by omega) (by omega)
      · refine Or.inr ⟨v, by omega, by omega, h3, h4, fun t a b => ?_⟩
        by_cases ct : t = w
        · rw [ct]; exact c
        · exact h5 t (by omega) b
theorem cdL_cnt (p : Int) (F r : Nat → Int) (v : Int) : ∀ n : Nat, (cdL p F r v n).2 = (cntU (fun n => unl (fun _ => 0) (mWrd p F r n) (mLen p F r)) n v : Int)
  | 0 => rfl
  | n + 1 => by
    show (cdL p F r v n).2 + (if unl (fun _ => 0) (mWrd p F r n) (mLen p F r) = v then 1 else 0) = _
    rw [cntU_s, cdL_cnt p F r v n]
    by_cases c : unl (fun _ => 0) (mWrd p F r n) (mLen p F r) = v
    · rw [if_pos c, if_pos c]; rfl
    · rw [if_neg c, if_neg c]; rfl
theorem cdL_least (p : Int) (F r : Nat → Int) (v : Int) : ∀ n : Nat, ((cdL p F r v n).1 = 0 ∧ ∀ q : Nat, q < n → unl (fun _ => 0) (mWrd p F r q) (mLen p F r) ≤ 0) ∨ (0 < (cdL p F r v n).1 ∧ (∃ q : Nat, q < n ∧ unl (fun _ => 0) (mWrd p F r q) (mLen p F r) = (cdL p F r v n).1) ∧ ∀ q : Nat, q < n → 0 < unl (fun _ => 0) (mWrd p F r q) (mLen p F r) → (cdL p F r v n).1 ≤ unl (fun _ => 0) (mWrd p F r q) (mLen p F r))
  | 0 => Or.inl ⟨rfl, fun q hq => absurd hq (Nat.not_lt_zero q)⟩
  | n + 1 => by
    have ih := cdL_least p F r v n
    have e : (cdL p F r v (n + 1)).1 = if 0 < unl (fun _ => 0) (mWrd p F r n) (mLen p F r) ∧ ((cdL p F r v n).1 = 0 ∨ unl (fun _ => 0) (mWrd p F r n) (mLen p F r) < (cdL p F r v n).1) then unl (fun _ => 0) (mWrd p F r n) (mLen p F r) else (cdL p F r v n).1 := rfl
    rw [e]
    generalize (cdL p F r v n).1 = m at ih ⊢
    generalize hU : (fun q => unl (fun _ => 0) (mWrd p F r q) (mLen p F r)) = U
    have hU2 : ∀ q : Nat, unl (fun _ => 0) (mWrd p F r q) (mLen p F r) = U q := fun q => congrFun hU q
    simp only [hU2] at ih ⊢
    by_cases c : 0 < U n ∧ (m = 0 ∨ U n < m)
    · rw [if_pos c]
      refine Or.inr ⟨c.1, ⟨n, by omega, rfl⟩, fun q hq hq2 => ?_⟩
      by_cases cq : q = n
      · rw [cq]; exact Int.le_refl _
      · rcases ih with ⟨_, h2⟩ | ⟨h1, _, h3⟩
        · have := h2 q (by omega); omega
        · have := h3 q (by omega) hq2; omega
    · rw [if_neg c]
      rcases ih with ⟨h1, h2⟩ | ⟨h1, ⟨t, t1, t2⟩, h3⟩
      · refine Or.inl ⟨h1, fun q hq => ?_⟩
        by_cases cq : q = n
        · rw [cq]; omega
        · exact h2 q (by omega)
      · refine Or.inr ⟨h1, ⟨t, by omega, t2⟩, fun q hq hq2 => ?_⟩
        by_cases cq : q = n
        · rw [cq] at hq2 ⊢; omega
        · exact h3 q (by omega) hq2
/-- the numbers of unlike places, in both -/
theorem code_cnt {p : Int} {F r : Nat → Int} (hF : CF p (gen F) F) (hr : SumR r) (hc : carr (pall p F) r = true) (D : Nat → Int) (u : Int) : cntU (fun n => unl (wdC p F r n) D (mLen p F r)) (p.toNat ^ (mStp p F r).2) u = cntU (fun n => unl D (mWrd p F r n) (mLen p F r)) (p.toNat ^ (mStp p F r).2) u := by
  obtain ⟨h1, h2⟩ := code_perm hF hr hc
  have e := h1.countP_eq (fun X => decide (unl (rowL X) D (mLen p F r) = u))
  rw [cnt_wdL, cnt_wdL, h2] at e
  have e1 : cntU (fun n => unl (wdC p F r n) D (mLen p F r)) (p.toNat ^ (mStp p F r).2) u = cntU (fun n => unl (lcw p (cdB p F r).1 (mStp p F r).2 (dgI p n)) D (mLen p F r)) (p.toNat ^ (mStp p F r).2) u := cntU_cg (fun n => by unfold wdC; rw [h2]) _ _
  rw [e1, e]
  refine cntU_cg (fun n => ?_) _ _
  show unl (lcw p (mStp p F r).1 (mStp p F r).2 (dgI p n)) D (mLen p F r) = unl D (mWrd p F r n) (mLen p F r)
  rw [unl_comm]
  exact unl_ext (fun i hi => ⟨rfl, by unfold mWrd wdW; rw [if_pos hi]⟩)
theorem mLen_26 {p : Int} (hp : IsP p) {F r : Nat → Int} (hr : SumR r) (hc : carr (pall p F) r = true) : mLen p F r ≤ 26 := by
  have := (cdT_rg hp F r).1
  rw [pl_eq hr hc] at this
  exact this
/-- SENT is one of the words -/
theorem own_word {p : Int} {F r : Nat → Int} (hF : CF p (gen F) F) (m : Int) : ∃ n : Nat, n < p.toNat ^ (mStp p F r).2 ∧ ∀ i : Nat, i < mLen p F r → mWrd p F r n i = mSnt p F r m i := by
  have hp := hF.1
  have h0 := hp.rg
  have hl : LnC p (mLen p F r) (mVal p F r) (mRoo p F r) (mSnt p F r m) := ⟨dgI p m.toNat, fun i hi => by
    unfold mSnt wdW
    rw [if_pos hi]
    unfold lcw
    rw [Int.emod_emod]⟩
  have hl2 := ((stN_lc hp (len := mLen p F r) (R := mRoo p F r) (mVal_rg hp F r)).2 _).mpr hl
  rw [← mStp_eq] at hl2
  have hm := (wdL_mem hp (fun i _ => wdW_rg (p := p) (by omega) (mVal p F r) (mRoo p F r) (mLen p F r) m.toNat i)).mpr hl2
  obtain ⟨n, n1, n2⟩ := List.mem_map.mp hm
  refine ⟨n, List.mem_range.mp n1, fun i hi => ?_⟩
  have := mr_eq.mp n2 i hi
  unfold mWrd wdW
  rw [if_pos hi]
  exact this
theorem code_size {p : Int} {F r : Nat → Int} (hF : CF p (gen F) F) (hr : SumR r) (hc : carr (pall p F) r = true) : (szF p (cdB p F r).2.2 = -1 ↔ 2500 < mWds p F r) ∧ (¬ 2500 < mWds p F r → (szF p (cdB p F r).2.2).toNat = p.toNat ^ (mStp p F r).2 ∧ (mWds p F r).toNat = p.toNat ^ (mStp p F r).2) := by
  have h0 := hF.1.rg
  obtain ⟨P, hP⟩ : ∃ P : Nat, p = (P : Int) := ⟨p.toNat, by omega⟩
  have hPt : p.toNat = P := by omega
  have hr2 := (code_perm hF hr hc).2
  unfold mWds
  rw [hr2, hPt]
  generalize (mStp p F r).2 = d
  have a := szF_val (P := P) (by omega) d
  have b := wdN_val (P := P) (by omega) d
  rw [← hP] at a b
  rw [a]
  generalize P ^ d = A at b ⊢
  by_cases c : A ≤ 2500
  · have e := b.1 c
    rw [if_pos c, e]
    exact ⟨⟨fun h => by omega, fun h => by omega⟩, fun _ => ⟨Int.toNat_natCast _, Int.toNat_natCast _⟩⟩
  · have e := b.2 (by omega)
    rw [if_neg c]
    exact ⟨⟨fun _ => e, fun _ => rfl⟩, fun h => absurd e h⟩
theorem tie_code {T : Td} (hV : TdV T) (c s w : Int) : aCode T c s w = mACode T c s w := by
  unfold aCode mACode
  by_cases h : fitB T c s = true
  · obtain ⟨h1, h2, h3⟩ := fitB_c.mp h
    have hF := (Td.crv hV (q := c.toNat) (by omega)).1
    have hS := (hV.2.2.2.2.2.2.2.2.1 s.toNat (by omega)).1
    rw [if_pos h]
    obtain ⟨r, hr⟩ : ∃ r : Nat → Int, T.rw (2 + s.toNat) = r := ⟨_, rfl⟩
    obtain ⟨p, hp⟩ : ∃ p : Int, T.p c.toNat = p := ⟨_, rfl⟩
    obtain ⟨F, hFF⟩ : ∃ F : Nat → Int, T.F c.toNat = F := ⟨_, rfl⟩
    have h3 : carr (pall (T.p c.toNat) (T.F c.toNat)) (T.rw (2 + s.toNat)) = true := h3
    rw [hr, hp, hFF] at h3 ⊢
    rw [hp, hFF] at hF
    rw [hr] at hS
    have hsz := code_size hF hS h3
    have hlen : (cdT p F r).1 = mLen p F r := by rw [pl_eq hS h3]; rfl
    have hL26 := mLen_26 hF.1 hS h3
    rw [hlen, (code_perm hF hS h3).2]
    by_cases c1 : 0 ≤ w ∧ (w ≤ 2 ∨ 100 ≤ w)
    · rw [if_pos ⟨h, c1⟩]
      by_cases w0 : w = 0
      · rw [if_pos w0, if_pos w0]
      · rw [if_neg w0, if_neg w0]
        by_cases w1 : w = 1
        · rw [if_pos w1, if_pos w1]
        · rw [if_neg w1, if_neg w1, ← (code_perm hF hS h3).2]
          by_cases c2 : 2500 < mWds p F r ∨ (mLen p F r : Int) < w - 100
          · rw [if_pos (c2.elim (fun e => Or.inl (hsz.1.mpr e)) Or.inr), if_pos (by omega)]
          · have n1 : ¬ 2500 < mWds p F r := fun e => c2 (Or.inl e)
            rw [if_neg (fun e => e.elim (fun e => n1 (hsz.1.mp e)) (fun e => c2 (Or.inr e))), if_neg (show ¬ (2500 < mWds p F r ∨ w ≠ 2 ∧ (w < 100 ∨ 100 + (mLen p F r : Int) < w)) by omega)]
            obtain ⟨s1, s2⟩ := hsz.2 n1
            have hcn := code_cnt hF hS h3 (fun _ => 0)
            have hW : ∀ q : Nat, wgF p F r q = (cntU (fun n => unl (fun _ => 0) (mWrd p F r n) (mLen p F r)) (p.toNat ^ (mStp p F r).2) (q : Int) : Int) := fun q => by
              unfold wgF
              rw [s1, wgN_cnt, ← hcn]
              have : wtC p F r = fun n => unl (wdC p F r n) (fun _ => 0) (mLen p F r) := funext fun n => by unfold wtC; rw [hlen]
              rw [this]
            rw [s2]
            by_cases w2 : w = 2
            · rw [if_pos w2, if_pos w2]
              have ub : ∀ n : Nat, unl (fun _ => 0) (mWrd p F r n) (mLen p F r) ≤ mLen p F r := fun n => (unl_rg _ _ _).2
              have hl := cdL_least p F r (w - 100) (p.toNat ^ (mStp p F r).2)
              generalize (cdL p F r (w - 100) (p.toNat ^ (mStp p F r).2)).1 = L at hl ⊢
              generalize p.toNat ^ (mStp p F r).2 = N at hW hl
              have pos : ∀ q : Nat, 0 < wgF p F r q ↔ ∃ n : Nat, n < N ∧ unl (fun _ => 0) (mWrd p F r n) (mLen p F r) = (q : Int) := fun q => by
                have k := cntU_pos (U := fun n => unl (fun _ => 0) (mWrd p F r n) (mLen p F r)) (N := N) (u := (q : Int))
                rw [hW q]
                exact Iff.trans ⟨fun h => by omega, fun h => by omega⟩ k
              rcases lsN_ok (W := wgF p F r) (mLen p F r) 1 with ⟨a1, a2⟩ | ⟨v, a1, a2, a3, a4, a5⟩
              · rw [a1]
                rcases hl with ⟨b1, _⟩ | ⟨b1, ⟨q, q1, q2⟩, _⟩
                · exact b1.symm
                · have := ub q
                  exact absurd ((pos L.toNat).mpr ⟨q, q1, by omega⟩) (a2 L.toNat (by omega) (by omega))
              · rw [a3]
                obtain ⟨n, n2, n3⟩ := (pos v).mp a4
                rcases hl with ⟨b1, b2⟩ | ⟨b1, ⟨q, q1, q2⟩, b3⟩
                · have := b2 n n2; omega
                · have := b3 n n2 (by omega)
                  by_cases ce : L = (v : Int)
                  · exact ce.symm
                  · exact absurd ((pos L.toNat).mpr ⟨q, q1, by omega⟩) (a5 L.toNat (by omega) (by omega))
            · rw [if_neg w2, if_neg w2, cdL_cnt, hW, show (((w - 100).toNat : Nat) : Int) = w - 100 by omega]
    · rw [if_neg (fun e => c1 e.2), if_neg (by omega), if_neg (by omega), if_pos (by omega)]
  · rw [if_neg (fun e => h e.1), if_neg h]
theorem tie_mended {T : Td} (hV : TdV T) (c s m e sd w : Int) : aMended T c s m e sd w = mAMended T c s m e sd w := by
  unfold aMended mAMended
  by_cases h : fitB T c s = true ∧ 0 ≤ m ∧ (0 ≤ e ∧ e ≤ 9) ∧ 0 ≤ w ∧ w ≤ 2
  · rw [if_pos h, if_pos h]
    obtain ⟨h1, h2, h3⟩ := fitB_c.mp h.1
    have hF := (Td.crv hV (q := c.toNat) (by omega)).1
    have hS := (hV.2.2.2.2.2.2.2.2.1 s.toNat (by omega)).1
    obtain ⟨r, hr⟩ : ∃ r : Nat → Int, T.rw (2 + s.toNat) = r := ⟨_, rfl⟩
    obtain ⟨p, hp⟩ : ∃ p : Int, T.p c.toNat = p := ⟨_, rfl⟩
    obtain ⟨F, hFF⟩ : ∃ F : Nat → Int, T.F c.toNat = F := ⟨_, rfl⟩
    have h3 : carr (pall (T.p c.toNat) (T.F c.toNat)) (T.rw (2 + s.toNat)) = true := h3
    rw [hr, hp, hFF] at h3 ⊢
    rw [hp, hFF] at hF
    rw [hr] at hS
    have h0 := hF.1.rg
    have hsz := code_size hF hS h3
    have hlen : (cdT p F r).1 = mLen p F r := by rw [pl_eq hS h3]; rfl
    have hL26 := mLen_26 hF.1 hS h3
    have hsn := snt_eq hF hS h3 m
    unfold mdV mMdV mdW
    rw [hlen, hsn]
    by_cases c1 : mLen p F r = 0 ∨ 2500 < mWds p F r
    · rw [if_pos (c1.elim Or.inr (fun e => Or.inl (hsz.1.mpr e))), if_pos c1]
    · have n1 : ¬ 2500 < mWds p F r := fun e => c1 (Or.inr e)
      rw [if_neg (fun e => e.elim (fun e => n1 (hsz.1.mp e)) (fun e => c1 (Or.inl e))), if_neg c1]
      obtain ⟨s1, s2⟩ := hsz.2 n1
      rw [s1, s2]
      generalize dst p (mLen p F r) e.toNat sd (mSnt p F r m) = D
      have hcn := code_cnt hF hS h3 D
      obtain ⟨on, on1, on2⟩ := own_word (r := r) hF m
      have hN : 0 < p.toNat ^ (mStp p F r).2 := Nat.pow_pos (by omega)
      generalize p.toNat ^ (mStp p F r).2 = N at hcn on1 hN ⊢
      have e1 : mdN p F r D N = ((mdM p F r D (mSnt p F r m) N).1, (mdM p F r D (mSnt p F r m) N).2.1) := by
        rw [mdN_fd, mdM_fd, hlen]
        exact fd_same (fun q _ => by
          have := (unl_rg (wdC p F r q) D (mLen p F r)).2
          show unl (wdC p F r q) D (mLen p F r) < _
          omega) (fun q _ => by
          have := (unl_rg D (mWrd p F r q) (mLen p F r)).2
          show unl D (mWrd p F r q) (mLen p F r) < 99
          omega) hcn hN hN
      rw [e1]
      by_cases w0 : w = 0
      · rw [if_pos w0, if_pos w0]
      · rw [if_neg w0, if_neg w0]
        by_cases w1 : w = 1
        · rw [if_pos w1, if_pos w1]
        · rw [if_neg w1, if_neg w1]
          have his := mdM_is (D := D) (own := mSnt p F r m) hL26 N
          have hrg := (mdM_rg p F r D (mSnt p F r m) hL26 N).2.2
          have eo : ∀ q : Nat, (∀ i : Nat, i < mLen p F r → mWrd p F r q i = mSnt p F r m i) → unl D (mWrd p F r q) (mLen p F r) = unl (mSnt p F r m) D (mLen p F r) := fun q hq => by
            rw [unl_comm]
            exact unl_ext (fun i hi => ⟨hq i hi, rfl⟩)
          generalize mdM p F r D (mSnt p F r m) N = md at his hrg ⊢
          show bI (decide (unl (mSnt p F r m) D (mLen p F r) = md.1)) = md.2.2
          by_cases ce : unl (mSnt p F r m) D (mLen p F r) = md.1
          · rw [his.mpr ⟨on, on1, by rw [eo on on2]; exact ce, on2⟩, decide_eq_true ce]; rfl
          · rcases hrg with hr0 | hr1
            · rw [hr0, decide_eq_false ce]; rfl
            · obtain ⟨q, _, q2, q3⟩ := his.mp hr1
              exact absurd ((eo q q3).symm.trans q2) ce
  · rw [if_neg h, if_neg h]
