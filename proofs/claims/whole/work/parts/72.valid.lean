/-! ===== what a text without a FAULT tells is in its bounds ===== -/
theorem nx_f1 (s f : Nat → Int) : nxF s f 1 = f 1 := by
  unfold nxF
  split
  · rfl
  · show nx3 f _ _ _ 1 = f 1
    unfold nx3
    rw [if_neg (by decide), if_neg (by decide), if_neg (by decide)]
theorem stop_f1 (f : Nat → Int) : stopF f 1 = 1 := by
  have e : stopF f 1 = (if f 1 = 1 then f else upf (upf f 1 1) 2 (f 7)) 1 := rfl
  rw [e]
  by_cases c : f 1 = 1
  · rw [if_pos c]; exact c
  · rw [if_neg c]; rfl
theorem note_f1 {w : Int} (hw : w ≠ 0) (f : Nat → Int) : noteF w f 1 ≠ 0 := by
  unfold noteF
  by_cases c : f 1 = 0
  · rw [if_pos c]; unfold upf; rw [if_neg (by decide), if_pos rfl]; exact hw
  · rw [if_neg c]; exact c
theorem num_0 {s f : Nat → Int} {m : Int} (hi : RInv s f) (h : numF s m f 1 = 0) : f 1 = 0 ∧ 0 ≤ numV s f ∧ numV s f ≤ m := by
  unfold numF at h
  by_cases c : f 6 = 2
  · rw [if_pos c, nx_f1] at h
    have hv := val_rg hi c
    have e : numV s f = valF s f := by unfold numV; rw [if_pos c]
    by_cases c2 : valF s f ≤ m
    · rw [if_pos c2] at h; rw [e]; exact ⟨h, hv.1, c2⟩
    · rw [if_neg c2] at h; exact absurd h (note_f1 (by decide) f)
  · rw [if_neg c, stop_f1] at h; cases h
theorem prm_0 {s f : Nat → Int} (h : prmF s f 1 = 0) : f 1 = 0 ∧ IsP (numV s f) := by
  unfold prmF at h
  by_cases c : f 6 = 2
  · rw [if_pos c, nx_f1] at h
    have e : numV s f = valF s f := by unfold numV; rw [if_pos c]
    by_cases c2 : ipr (valF s f) = true
    · rw [if_pos c2] at h
      rw [e]
      unfold ipr at c2
      rw [decide_eq_true_eq] at c2
      exact ⟨h, c2⟩
    · rw [if_neg c2] at h; exact absurd h (note_f1 (by decide) f)
  · rw [if_neg c, stop_f1] at h; cases h
theorem cls_0 {s f : Nat → Int} (h : clsF s f 1 = 0) : f 1 = 0 := by
  unfold clsF at h
  split at h
  · rw [nx_f1] at h; exact h
  · rw [stop_f1] at h; cases h
theorem sgn_0 {s f : Nat → Int} {m : Int} (hi : RInv s f) (hm : 0 ≤ m) (h : sgnF s m f 1 = 0) : f 1 = 0 ∧ -m ≤ sgnV s f ∧ sgnV s f ≤ m := by
  unfold sgnF at h
  unfold sgnV
  by_cases c : f 6 = 3
  · rw [if_pos c] at h ⊢
    have := num_0 hi.nx h
    rw [nx_f1] at this
    omega
  · rw [if_neg c] at h ⊢
    have := num_0 hi h
    omega
def RV (t : Int) (r : Nat → Int) : Prop := if t = 0 then IsP (r 0) ∧ (r 1 = 3 ∨ r 1 = 5) ∧ (∀ i : Nat, 2 ≤ i → i < 8 → 0 ≤ r i ∧ r i ≤ 12) ∧ (r 1 = 3 → r 6 = 0 ∧ r 7 = 0) ∧ (∀ i : Nat, 8 ≤ i → i < 26 → r i = 0) else if t = 1 then SumR r else FunR r
theorem cn_0 {s : Nat → Int} : ∀ (m i : Nat) {q : Rq}, RInv s q.1 → i + m ≤ 6 → (cnN s m i q).1 1 = 0 → q.1 1 = 0 ∧ (∀ j : Nat, (j < 2 + i ∨ 2 + i + m ≤ j) → (cnN s m i q).2 j = q.2 j) ∧ (∀ j : Nat, 2 + i ≤ j → j < 2 + i + m → 0 ≤ (cnN s m i q).2 j ∧ (cnN s m i q).2 j ≤ 12)
  | 0, i, q, hi, _, h => ⟨h, fun _ _ => rfl, fun j h1 h2 => by omega⟩
  | m + 1, i, q, hi, hm, h => by
    have h' : (cnN s m (i + 1) (cnI s i q)).1 1 = 0 := h
    obtain ⟨g1, g2, g3⟩ := cn_0 m (i + 1) (q := cnI s i q) (hi.num) (by omega) h'
    have g1' : numF s 12 q.1 1 = 0 := g1
    have gn := num_0 hi g1'
    refine ⟨gn.1, fun j hj => ?_, fun j h1 h2 => ?_⟩
    · show (cnN s m (i + 1) (cnI s i q)).2 j = q.2 j
      rw [g2 j (by omega)]
      show upf q.2 (2 + i) _ j = q.2 j
      unfold upf; rw [if_neg (by omega)]
    · show 0 ≤ (cnN s m (i + 1) (cnI s i q)).2 j ∧ (cnN s m (i + 1) (cnI s i q)).2 j ≤ 12
      by_cases c : j = 2 + i
      · rw [g2 j (by omega)]
        show 0 ≤ upf q.2 (2 + i) _ j ∧ upf q.2 (2 + i) _ j ≤ 12
        unfold upf; rw [if_pos c]; exact gn.2
      · exact g3 j (by omega) (by omega)
theorem ln_v0 {s : Nat → Int} {q : Rq} (hi : RInv s q.1) (hv : q.1 1 = 0 → RV 0 q.2) (h : (clS s q).1 1 = 0) : q.1 1 = 0 ∧ RV 0 (clS s q).2 := by
  have h1 := cls_0 h
  show q.1 1 = 0 ∧ RV 0 (clX s q).2
  unfold clX at h1 ⊢
  by_cases c1 : isW s q.1 10 = true
  · rw [if_pos c1] at h1 ⊢
    have g := prm_0 h1
    rw [nx_f1] at g
    have hr := hv g.1
    unfold RV at hr ⊢
    rw [if_pos rfl] at hr ⊢
    refine ⟨g.1, ?_⟩
    dsimp only
    refine ⟨by unfold upf; rw [if_pos rfl]; exact g.2, ?_, fun i h2 h3 => ?_, ?_, fun i h2 h3 => ?_⟩
    · unfold upf; rw [if_neg (by decide)]; exact hr.2.1
    · unfold upf; rw [if_neg (by omega)]; exact hr.2.2.1 i h2 h3
    · unfold upf; rw [if_neg (by decide), if_neg (by decide), if_neg (by decide)]; exact hr.2.2.2.1
    · unfold upf; rw [if_neg (by omega)]; exact hr.2.2.2.2 i h2 h3
  · rw [if_neg c1] at h1 ⊢
    by_cases c2 : isW s q.1 11 = true
    · rw [if_pos c2] at h1 ⊢
      have hnx := hi.nx
      unfold cnS at h1 ⊢
      by_cases c3 : (cnN s 4 0 (nxF s q.1, q.2)).1 6 = 2
      · rw [if_pos c3] at h1 ⊢
        have g := cn_0 2 4 (q := cnN s 4 0 (nxF s q.1, q.2)) (RInv.cn 4 0 (q := (nxF s q.1, q.2)) hnx) (by omega) h1
        have g4 := cn_0 4 0 (q := (nxF s q.1, q.2)) hnx (by omega) g.1
        have e1 : q.1 1 = 0 := by rw [← nx_f1 s q.1]; exact g4.1
        have hr := hv e1
        unfold RV at hr ⊢
        rw [if_pos rfl] at hr ⊢
        dsimp only
        refine ⟨e1, ?_, ?_, fun i h2 h3 => ?_, fun e => ?_, fun i h2 h3 => ?_⟩
        · unfold upf; rw [if_neg (by decide), g.2.1 0 (by omega), g4.2.1 0 (by omega)]; exact hr.1
        · unfold upf; rw [if_pos rfl]; exact Or.inr rfl
        · unfold upf; rw [if_neg (by omega)]
          by_cases c4 : 6 ≤ i
          · exact g.2.2 i (by omega) (by omega)
          · rw [g.2.1 i (by omega)]; exact g4.2.2 i (by omega) (by omega)
        · unfold upf at e; rw [if_pos rfl] at e; cases e
        · unfold upf; rw [if_neg (by omega), g.2.1 i (by omega), g4.2.1 i (by omega)]; exact hr.2.2.2.2 i h2 h3
      · rw [if_neg c3] at h1 ⊢
        have g4 := cn_0 4 0 (q := (nxF s q.1, q.2)) hnx (by omega) h1
        have e1 : q.1 1 = 0 := by rw [← nx_f1 s q.1]; exact g4.1
        have hr := hv e1
        unfold RV at hr ⊢
        rw [if_pos rfl] at hr ⊢
        dsimp only
        have u : ∀ i : Nat, upf (upf (upf (cnN s 4 0 (nxF s q.1, q.2)).2 6 0) 7 0) 1 3 i = if i = 1 then 3 else if i = 7 then 0 else if i = 6 then 0 else (cnN s 4 0 (nxF s q.1, q.2)).2 i := fun i => rfl
        refine ⟨e1, ?_, ?_, fun i h2 h3 => ?_, fun _ => ⟨?_, ?_⟩, fun i h2 h3 => ?_⟩
        · rw [u, if_neg (by decide), if_neg (by decide), if_neg (by decide), g4.2.1 0 (by omega)]; exact hr.1
        · rw [u, if_pos rfl]; exact Or.inl rfl
        · rw [u, if_neg (by omega)]
          by_cases c7 : i = 7
          · rw [if_pos c7]; decide
          · rw [if_neg c7]
            by_cases c6 : i = 6
            · rw [if_pos c6]; decide
            · rw [if_neg c6]; exact g4.2.2 i (by omega) (by omega)
        · rw [u, if_neg (by decide), if_neg (by decide), if_pos rfl]
        · rw [u, if_neg (by decide), if_pos rfl]
        · rw [u, if_neg (by omega), if_neg (by omega), if_neg (by omega), g4.2.1 i (by omega)]; exact hr.2.2.2.2 i h2 h3
    · rw [if_neg c2] at h1
      have h1' : stopF q.1 1 = 0 := h1
      rw [stop_f1] at h1'; cases h1'
theorem eN_0 {q : Rq} (h : eN q 1 = 0) : q.1 1 = 0 := by
  unfold eN at h
  split at h
  · exact h
  · exact absurd h (note_f1 (by decide) _)
theorem ln_v1 {s : Nat → Int} {q : Rq} (hi : RInv s q.1) (hv : q.1 1 = 0 → SumR q.2) (h : (smS s q).1 1 = 0) : q.1 1 = 0 ∧ SumR (smS s q).2 := by
  have h1 := cls_0 h
  show q.1 1 = 0 ∧ SumR (smX s q).2
  unfold smX at h1 ⊢
  by_cases c1 : isW s q.1 12 = true
  · rw [if_pos c1] at h1 ⊢
    have g := sgn_0 hi.nx (by decide) h1
    rw [nx_f1] at g
    have hr := hv g.1
    refine ⟨g.1, ?_, ?_, fun i h3 => ?_⟩
    · dsimp only; unfold upf; rw [if_neg (by decide)]; exact hr.1
    · dsimp only; unfold upf; rw [if_pos rfl]; exact g.2
    · have := hr.2.2 i h3
      unfold eX eY eO at this ⊢
      dsimp only
      unfold upf
      rw [if_neg (by omega), if_neg (by omega), if_neg (by omega)]; exact this
  · rw [if_neg c1] at h1 ⊢
    by_cases c2 : isW s q.1 13 = true
    · rw [if_pos c2] at h1 ⊢
      have h1' : sgnF s 5 (enF3 s q) 1 = 0 := h1
      have hi0 : RInv s (eN q) := RInv.en0 hi
      have i1 : RInv s (enF1 s q) := hi0.nx
      have i2 : RInv s (enF2 s q) := i1.num
      have i3 : RInv s (enF3 s q) := i2.num
      have g3 := sgn_0 i3 (by decide) h1'
      have g2 := num_0 i2 g3.1
      have g1 := num_0 i1 g2.1
      have g0 : eN q 1 = 0 := by have := g1.1; unfold enF1 at this; rw [nx_f1] at this; exact this
      have e1 := eN_0 g0
      have hr := hv e1
      have h0 := hr.1
      refine ⟨e1, ?_⟩
      unfold enS
      dsimp only
      by_cases c3 : q.2 0 < 8
      · rw [if_pos c3]
        obtain ⟨k, hk⟩ : ∃ k : Nat, q.2 0 = (k : Int) := ⟨(q.2 0).toNat, by omega⟩
        rw [hk, Int.toNat_natCast]
        have u : ∀ j : Nat, upf (upf (upf (upf q.2 (2 + 3 * k) (numV s (enF1 s q))) (3 + 3 * k) (numV s (enF2 s q))) (4 + 3 * k) (sgnV s (enF3 s q))) 0 ((k : Int) + 1) j = if j = 0 then (k : Int) + 1 else if j = 4 + 3 * k then sgnV s (enF3 s q) else if j = 3 + 3 * k then numV s (enF2 s q) else if j = 2 + 3 * k then numV s (enF1 s q) else q.2 j := fun j => rfl
        refine ⟨?_, ?_, fun i h3 => ?_⟩
        · rw [u, if_pos rfl]; omega
        · rw [u, if_neg (by decide), if_neg (by omega), if_neg (by omega), if_neg (by omega)]; exact hr.2.1
        · have := hr.2.2 i h3
          unfold eX eY eO at this ⊢
          by_cases ci : i = k
          · subst ci
            have e1 := u (2 + 3 * i)
            have e2 := u (2 + 3 * i + 1)
            have e3 := u (2 + 3 * i + 2)
            rw [if_neg (by omega), if_neg (by omega), if_neg (by omega), if_pos rfl] at e1
            rw [if_neg (by omega), if_neg (by omega), if_pos (by omega)] at e2
            rw [if_neg (by omega), if_pos (by omega)] at e3
            rw [e1, e2, e3]
            exact ⟨g1.2, g2.2, g3.2⟩
          · have e1 := u (2 + 3 * i)
            have e2 := u (2 + 3 * i + 1)
            have e3 := u (2 + 3 * i + 2)
            rw [if_neg (by omega), if_neg (by omega), if_neg (by omega), if_neg (by omega)] at e1
            rw [if_neg (by omega), if_neg (by omega), if_neg (by omega), if_neg (by omega)] at e2
            rw [if_neg (by omega), if_neg (by omega), if_neg (by omega), if_neg (by omega)] at e3
            rw [e1, e2, e3]
            exact this
      · rw [if_neg c3]; exact hr
    · rw [if_neg c2] at h1
      have h1' : stopF q.1 1 = 0 := h1
      rw [stop_f1] at h1'; cases h1'
theorem fnY_v {s : Nat → Int} {q : Rq} {m : Int} {b : Nat} (hi : RInv s q.1) (hm : 0 ≤ m) (hv : q.1 1 = 0 → FunR q.2) (h : (fnY s q m b).1 1 = 0) : q.1 1 = 0 ∧ FunR (fnY s q m b).2 := by
  have h1 := cls_0 h
  have g2 := num_0 hi.nx.num h1
  have g1 := num_0 hi.nx g2.1
  have e1 : q.1 1 = 0 := by rw [← nx_f1 s q.1]; exact g1.1
  refine ⟨e1, ?_⟩
  have hr := hv e1
  unfold fnY
  dsimp only
  split
  · intro i h3
    unfold upf
    split
    · exact g2.2
    · exact hr i h3
  · exact hr
theorem ln_v {s : Nat → Int} {t : Int} {q : Rq} (hi : RInv s q.1) (hv : q.1 1 = 0 → RV t q.2) (h : (lnS s t q).1 1 = 0) : RV t (lnS s t q).2 := by
  unfold lnS at h ⊢
  by_cases c0 : t = 0
  · subst c0
    rw [if_pos rfl] at h ⊢
    exact (ln_v0 hi hv h).2
  · rw [if_neg c0] at h ⊢
    unfold RV at hv ⊢
    rw [if_neg c0] at hv ⊢
    by_cases c1 : t = 1
    · rw [if_pos c1] at h hv ⊢
      rw [if_pos c1]
      exact (ln_v1 hi hv h).2
    · rw [if_neg c1] at h hv ⊢
      rw [if_neg c1]
      unfold fnS at h ⊢
      split at h
      · rename_i w; rw [if_pos w]; exact (fnY_v hi (by decide) hv h).2
      · rename_i w
        rw [if_neg w]
        split at h
        · rename_i w2; rw [if_pos w2]; exact (fnY_v hi (by decide) hv h).2
        · have h' : stopF q.1 1 = 0 := h
          rw [stop_f1] at h'; cases h'
theorem rd_v {s : Nat → Int} {t : Int} : ∀ (m : Nat) {q : Rq}, LInv s t q → (q.1 1 = 0 → RV t q.2) → (rdq s t m q).1 1 = 0 → RV t (rdq s t m q).2
  | 0, _, _, hv, h => hv h
  | m + 1, q, hi, hv, h => by
    unfold rdq at h ⊢
    split at h
    · rename_i c; rw [if_pos c]; exact hv h
    · rename_i c; rw [if_neg c]
      exact rd_v m hi.ln (fun e => ln_v hi.1 hv e) h
theorem beg_v (t : Int) (r : Nat → Int) : RV t (begR t r) := by
  unfold RV
  by_cases c0 : t = 0
  · rw [if_pos c0]
    have e : ∀ i : Nat, i < 26 → begR t r i = if i = 0 then 7 else if i = 1 then 3 else if i = 2 then 1 else if i = 5 then 1 else 0 := fun i hi => by unfold begR; rw [if_pos hi, if_pos c0]
    refine ⟨by rw [e 0 (by decide)]; exact Or.inr (Or.inr (Or.inl rfl)), Or.inl (by rw [e 1 (by decide)]; rfl), fun i h1 h2 => ?_, fun _ => ⟨by rw [e 6 (by decide)]; rfl, by rw [e 7 (by decide)]; rfl⟩, fun i h1 h2 => ?_⟩
    · rw [e i (by omega), if_neg (by omega), if_neg (by omega)]
      split
      · decide
      · split <;> decide
    · rw [e i h2, if_neg (by omega), if_neg (by omega), if_neg (by omega), if_neg (by omega)]
  · rw [if_neg c0]
    have e : ∀ i : Nat, i < 26 → begR t r i = 0 := fun i hi => by unfold begR; rw [if_pos hi, if_neg c0]
    by_cases c1 : t = 1
    · rw [if_pos c1]
      refine ⟨by rw [e 0 (by decide)]; decide, by rw [e 1 (by decide)]; decide, fun i hi => ?_⟩
      unfold eX eY eO
      rw [e _ (by omega), e _ (by omega), e _ (by omega)]; decide
    · rw [if_neg c1]
      intro i hi
      rw [e i hi]; decide
