/-! ===== the law: both objects are made ===== -/
def w11 (x : Wx) (Z : Zt) : Wx × Zt := rn x.2.2.1 op11 (mk x (11, 0), rowZ Z x.2.2.1)
def w12 (x : Wx) (Z : Zt) : Wx × Zt := rn (x.2.2.1 + 292) op12 (mk (w11 x Z).1 (12, 0), rowZ (w11 x Z).2 (x.2.2.1 + 292))
theorem mk_nx (x : Wx) (q : Nat × Nat) : (mk x q).2.2.1 = x.2.2.1 + 1 := rfl
theorem mk_at (x : Wx) (q : Nat × Nat) : (mk x q).1 x.2.2.1 = some q := by show newS x.1 x.2.2.1 q x.2.2.1 = _; unfold newS; rw [if_pos rfl]
theorem w11_nx (x : Wx) (Z : Zt) : (w11 x Z).1.2.2.1 = x.2.2.1 + 292 := rn_nxo (s := (mk x (11, 0), rowZ Z x.2.2.1)) rfl (by decide +kernel)
theorem w12_hs (x : Wx) (Z : Zt) : (mk (w11 x Z).1 (12, 0)).2.2.1 = x.2.2.1 + 292 + 1 := by rw [mk_nx, w11_nx]
theorem w12_at (x : Wx) (Z : Zt) : (mk (w11 x Z).1 (12, 0)).1 (x.2.2.1 + 292) = some (12, 0) := by have := mk_at (w11 x Z).1 (12, 0); rw [w11_nx] at this; exact this
set_option maxRecDepth 20000 in
theorem lw_new {k n s : Nat} {x : Wx} {Z : Zt} {Q : Option Value → Wx → Zt → Prop} (h : V mL_law k n 18 [some (r_ s), some (r_ x.2.2.1), some (r_ (x.2.2.1 + 292)), some (i_ 0)] [] (w12 x Z).1 (w12 x Z).2 Q) : V mL_law (k + 318) (n + 35051) 0 [some (r_ s), none, none, none] [] x Z Q := by
  refine V_new (k := k + 317) (n := n + 35034) (t := 11) (q := (RX11, TX11, 17)) rfl lc_L_7 ln_11 lini_11 df_11 dL_law_0 (V_dup dL_law_3 rfl (V_callI (k' := 291) (n' := 11602) [] [r_ x.2.2.1] okX11_init rfl rfl lm_L_9 liX11_init (Nat.le_of_ble_eq_true rfl) (Nat.le_of_ble_eq_true rfl) (Nat.le_of_ble_eq_true rfl) (cat_of rfl) (Nat.le_of_ble_eq_true rfl) (by omega) (by omega) rfl dL_law_4 (ci_11 (k := 0) (n := 0) (s := (mk x (11, 0), rowZ Z x.2.2.1)) rfl (mk_at x (11, 0)) ?_)))
  rw [show k + 317 - 291 = k + 26 from by omega, show n + 35034 - 11602 = n + 23432 from by omega]
  show V mL_law (k + 26) (n + 23432) 7 [some (r_ s), none, none, none] [r_ x.2.2.1] (w11 x Z).1 (w11 x Z).2 Q
  refine V_astore_n (lv' := [some (r_ s), some (r_ x.2.2.1), none, none]) dL_law_7 (Nat.le_of_ble_eq_true rfl) rfl ?_
  refine V_new (k := k + 25) (n := n + 23386) (t := 12) (q := (RX12, TX12, 46)) rfl lc_L_10 ln_12 lini_12 df_12 dL_law_8 ?_
  rw [w11_nx]
  refine V_dup dL_law_11 rfl (V_callI (k' := 25) (n' := 23386) [] [r_ (x.2.2.1 + 292)] okX12_init rfl rfl lm_L_12 liX12_init (Nat.le_of_ble_eq_true rfl) (Nat.le_of_ble_eq_true rfl) (Nat.le_of_ble_eq_true rfl) (cat_of rfl) (Nat.le_of_ble_eq_true rfl) (by omega) (by omega) rfl dL_law_12 (ci_12 (k := 0) (n := 0) (s := (mk (w11 x Z).1 (12, 0), rowZ (w11 x Z).2 (x.2.2.1 + 292))) (w12_hs x Z) (w12_at x Z) ?_))
  rw [show k + 25 - 25 = k from by omega, show n + 23386 - 23386 = n from by omega]
  show V mL_law k n 15 [some (r_ s), some (r_ x.2.2.1), none, none] [r_ (x.2.2.1 + 292)] (w12 x Z).1 (w12 x Z).2 Q
  refine V_astore_n (lv' := [some (r_ s), some (r_ x.2.2.1), some (r_ (x.2.2.1 + 292)), none]) dL_law_15 (Nat.le_of_ble_eq_true rfl) rfl ?_
  exact V_iconst dL_law_16 (V_istore_n (lv' := [some (r_ s), some (r_ x.2.2.1), some (r_ (x.2.2.1 + 292)), some (i_ 0)]) dL_law_17 (Nat.le_of_ble_eq_true rfl) rfl h)
/-- a fresh Told, a fresh object -/
def T00 : Td := (fun _ => 0, 0, 0, -1, fun _ => 0, fun _ _ => 0)
def S00 : Ab := (T00, fun _ => none)
theorem T00_V : TdV T00 := by
  refine ⟨⟨fun i _ => ?_, fun i _ => rfl, fun r i _ _ => rfl⟩, ⟨?_, ?_⟩, ⟨?_, ?_⟩, ⟨?_, ?_⟩, ⟨?_, ?_⟩, ⟨?_, ?_⟩, ⟨?_, ?_⟩, fun k hk => ?_, fun k hk => ?_, fun k hk => ?_⟩
  · show -128 ≤ (0 : Int) ∧ (0 : Int) < 128; decide
  · show (0 : Int) ≤ 0; decide
  · show (0 : Int) ≤ 600; decide
  · show (0 : Int) ≤ 0; decide
  · show (0 : Int) ≤ 4; decide
  · show (-1 : Int) ≤ -1; decide
  · show (-1 : Int) ≤ 600; decide
  · show (0 : Int) ≤ 0; decide
  · show (0 : Int) ≤ 2; decide
  · show (0 : Int) ≤ 0; decide
  · show (0 : Int) ≤ 3; decide
  · show (0 : Int) ≤ 0; decide
  · show (0 : Int) ≤ 3; decide
  · have hk : (k : Int) < 0 := hk; omega
  · have hk : (k : Int) < 0 := hk; omega
  · have hk : (k : Int) < 0 := hk; omega
theorem S00_V : AbV S00 := ⟨T00_V, fun k _ T h => by cases h⟩
theorem z12 {f : Nat} (hf : f ≠ 5) : zAt op12 1 f = some 0 := by
  unfold op12
  unfold zAt
  rw [if_neg (fun e => absurd e.1 (by decide)), if_neg (fun e => absurd e.1 (by decide)), if_neg (fun e => hf e.2.2.2.2)]
  exact zRow_at (by decide +kernel)
theorem w12_low {x : Wx} {Z : Zt} {b : Nat} (hb : b < x.2.2.1 + 292) : (w12 x Z).1.1 b = (w11 x Z).1.1 b ∧ (w12 x Z).1.2.1 b = (w11 x Z).1.2.1 b ∧ (w12 x Z).2 b = (w11 x Z).2 b := by
  have h := rn_low (s := (mk (w11 x Z).1 (12, 0), rowZ (w11 x Z).2 (x.2.2.1 + 292))) (w12_hs x Z) hb op12
  obtain ⟨h1, h2, h3⟩ := h
  have e := w11_nx x Z
  refine ⟨h1.trans ?_, h2.trans ?_, h3.trans ?_⟩
  · show newS _ _ _ b = _; unfold newS; rw [if_neg (by omega)]
  · show rowR _ _ b = _; funext i; unfold rowR; rw [if_neg (by omega)]
  · show rowZ _ _ b = _; funext i; unfold rowZ; rw [if_neg (by omega)]
theorem w11_low {x : Wx} {Z : Zt} {b : Nat} (hb : b < x.2.2.1) : (w11 x Z).1.1 b = x.1 b ∧ (w11 x Z).1.2.1 b = x.2.1 b ∧ (w11 x Z).2 b = Z b := by
  have h := rn_low (s := (mk x (11, 0), rowZ Z x.2.2.1)) rfl hb op11
  obtain ⟨h1, h2, h3⟩ := h
  refine ⟨h1.trans ?_, h2.trans ?_, h3.trans ?_⟩
  · show newS _ _ _ b = _; unfold newS; rw [if_neg (by omega)]
  · show rowR _ _ b = _; funext i; unfold rowR; rw [if_neg (by omega)]
  · show rowZ _ _ b = _; funext i; unfold rowZ; rw [if_neg (by omega)]
theorem w11_c (x : Wx) (Z : Zt) : (w11 x Z).1.2.2.2 = x.2.2.2 := by
  unfold w11
  rw [rn_c op11]; rfl
theorem w12_c (x : Wx) (Z : Zt) : (w12 x Z).1.2.2.2 = x.2.2.2 := by
  unfold w12
  rw [rn_c op12]
  exact w11_c x Z
def zNo : List Mo → Nat → Bool
  | [], _ => true
  | o :: L, f => if o.1 ≠ 0 ∧ o.1 ≠ 1 ∧ o.1 ≠ 2 ∧ o.2.1 = 0 ∧ o.2.2.1 = f then false else zNo L f
theorem rn_z0 {a : Nat} {s : Wx × Zt} (hs : s.1.2.2.1 = a + 1) {f : Nat} : ∀ {L : List Mo}, zNo L f = true → (rn a L s).2 a f = s.2 a f
  | [], _ => rfl
  | o :: L, h => by
    have hn := rn_nx hs L
    have hp := nxo_pos L
    unfold zNo at h
    unfold rn stp
    by_cases h0 : o.1 = 0
    · rw [if_neg (fun e => e.1 h0)] at h
      rw [if_pos h0]
      show rowZ _ _ a f = _; unfold rowZ; rw [if_neg (by omega)]; exact rn_z0 hs h
    · rw [if_neg h0]
      by_cases h1 : o.1 = 1
      · rw [if_neg (fun e => e.2.1 h1)] at h
        rw [if_pos h1]
        show rowsZ _ _ _ a f = _; unfold rowsZ; rw [if_neg (by omega)]; exact rn_z0 hs h
      · rw [if_neg h1]
        by_cases h2 : o.1 = 2
        · rw [if_neg (fun e => e.2.2.1 h2)] at h
          rw [if_pos h2]
          exact rn_z0 hs h
        · rw [if_neg h2]
          by_cases hc : o.2.1 = 0 ∧ o.2.2.1 = f
          · rw [if_pos ⟨h0, h1, h2, hc⟩] at h; cases h
          · rw [if_neg (fun e => hc e.2.2.2)] at h
            show up _ _ _ _ a f = _
            rw [up_ne _ _ _ _ _ _ (by omega)]; exact rn_z0 hs h
theorem lw_OI {x : Wx} {Z : Zt} (hK : KS x ∧ KW x Z ∧ KT x ∧ KU x Z ∧ KB x x.2.2.1) : OI (w12 x Z).1 (w12 x Z).2 x.2.2.1 S00 := by
  obtain ⟨a, ha⟩ : ∃ a : Nat, x.2.2.1 = a := ⟨_, rfl⟩
  have lo := fun b (hb : b < x.2.2.1 + 292) => w12_low (x := x) (Z := Z) hb
  have lo1 := fun b (hb : b < x.2.2.1) => w11_low (x := x) (Z := Z) hb
  have o1 : Is11 (w11 x Z).1 x.2.2.1 := mk_11 (s := (mk x (11, 0), rowZ Z x.2.2.1)) rfl (mk_at x (11, 0))
  have rz : ∀ {b f : Nat} {v : Int}, b < 292 → zAt op11 b f = some v → (w12 x Z).2 (x.2.2.1 + b) f = v := fun {b f v} hb h => by
    rw [(lo _ (by omega)).2.2]; exact rn_z (s := (mk x (11, 0), rowZ Z x.2.2.1)) rfl h
  have rr : ∀ {b f d : Nat}, b < 292 → rAt op11 b f = some (some d) → (w12 x Z).1.2.1 (x.2.2.1 + b) f = some (x.2.2.1 + d) := fun {b f d} hb h => by
    rw [(lo _ (by omega)).2.1]; exact rn_r (s := (mk x (11, 0), rowZ Z x.2.2.1)) rfl h
  have rn0 : ∀ {b f : Nat}, b < 292 → rAt op11 b f = some none → (w12 x Z).1.2.1 (x.2.2.1 + b) f = none := fun {b f} hb h => by
    rw [(lo _ (by omega)).2.1]; exact rn_rn (s := (mk x (11, 0), rowZ Z x.2.2.1)) rfl h
  have row : ∀ {b : Nat}, b < 292 → zRow op11 b = true → (w12 x Z).2 (x.2.2.1 + b) = fun _ => 0 := fun {b} hb h => by
    rw [(lo _ (by omega)).2.2]; exact rn_row (s := (mk x (11, 0), rowZ Z x.2.2.1)) rfl h
  have hc := w12_c x Z
  obtain ⟨k1, k2, k3, k4, k5⟩ := hK
  have cb : ∀ j : Nat, j < 3 → (w12 x Z).1.1 (x.2.2.2 j) = x.1 (x.2.2.2 j) ∧ (w12 x Z).2 (x.2.2.2 j) = Z (x.2.2.2 j) := fun j hj => by
    have h1 := k5.1 j hj
    exact ⟨(lo _ (by omega)).1.trans (lo1 _ h1).1, (lo _ (by omega)).2.2.trans (lo1 _ h1).2.2⟩
  refine ⟨o1.gr (fun b _ b2 => (lo b b2).1) (fun b j _ b2 _ => by rw [(lo b b2).2.1]), ⟨?_, ?_, ?_, ?_, ?_⟩, rr (b := 14) (f := 3) (d := 2) (by decide) (by decide +kernel), ⟨?_, ⟨?_, ?_, ?_⟩, fun i hi => ?_, fun r hr => ?_⟩, ⟨fun k hk _ => rfl, fun k b hk hb => ?_, fun k l b c hk hl _ hb _ => ?_⟩, S00_V, fun i => i, ⟨fun i hi => ⟨?_, hi⟩, fun i j _ _ h => h⟩, Or.inl ⟨?_, ?_, ?_⟩⟩
  · unfold KS; rw [hc, (cb 0 (by decide)).1, (cb 1 (by decide)).1, (cb 2 (by decide)).1]; exact k1
  · unfold KW; rw [hc, (cb 0 (by decide)).2, (cb 1 (by decide)).2, (cb 2 (by decide)).2]; exact k2
  · intro j hj
    have h1 := k5.2 j hj
    rw [hc, (lo _ (by omega)).1, (lo1 _ h1).1]; exact k3 j hj
  · intro j hj i hi
    have h1 := k5.2 j hj
    rw [hc, (lo _ (by omega)).2.2, (lo1 _ h1).2.2]; exact k4 j hj i hi
  · unfold KB; rw [hc]; exact k5
  · exact row (b := 2) (by decide) (by decide +kernel)
  · exact rz (b := 1) (f := 1) (by decide) (by decide +kernel)
  · exact rz (b := 1) (f := 2) (by decide) (by decide +kernel)
  · exact rz (b := 1) (f := 3) (v := -1) (by decide) (by decide +kernel)
  · rw [show x.2.2.1 + 1 + 2 = x.2.2.1 + 3 from by omega, row (b := 3) (by decide) (by decide +kernel)]; rfl
  · rw [show x.2.2.1 + 1 + 4 + r = x.2.2.1 + (5 + r) from by omega, row (b := 5 + r) (by omega) ((show ∀ r : Nat, r < 8 → zRow op11 (5 + r) = true by decide +kernel) r hr)]; rfl
  · rw [rn0 (b := 13) (f := k) (by decide) ((show ∀ k : Nat, k < 3 → rAt op11 13 k = some none by decide +kernel) k hk)] at hb; cases hb
  · rw [rn0 (b := 13) (f := k) (by decide) ((show ∀ k : Nat, k < 3 → rAt op11 13 k = some none by decide +kernel) k hk)] at hb; cases hb
  · rw [show x.2.2.1 + 68 + 5 = x.2.2.1 + 73 from by omega, rr (b := 73) (f := i) (d := 74 + i) (by decide) ((show ∀ i : Nat, i < 40 → rAt op11 73 i = some (some (74 + i)) by decide +kernel) i hi)]
    show some (x.2.2.1 + (74 + i)) = some (x.2.2.1 + 68 + 6 + i)
    congr 1; omega
  · exact rz (b := 0) (f := 14) (v := -1) (by decide) (by decide +kernel)
  · exact rz (b := 0) (f := 15) (v := -1) (by decide) (by decide +kernel)
  · rw [(lo _ (by omega)).2.2]
    have := rn_z0 (s := (mk x (11, 0), rowZ Z x.2.2.1)) (a := x.2.2.1) rfl (f := 16) (L := op11) (by decide +kernel)
    exact this.trans (by show rowZ Z x.2.2.1 x.2.2.1 16 = 0; unfold rowZ; rw [if_pos rfl])
theorem lw_MI {x : Wx} {Z : Zt} : MI (w12 x Z).1 (w12 x Z).2 (x.2.2.1 + 292) S00 := by
  have rz : ∀ {b f : Nat} {v : Int}, zAt op12 b f = some v → (w12 x Z).2 (x.2.2.1 + 292 + b) f = v := fun {b f v} h => rn_z (s := (mk (w11 x Z).1 (12, 0), rowZ (w11 x Z).2 (x.2.2.1 + 292))) (w12_hs x Z) h
  have r2 : (w12 x Z).2 (x.2.2.1 + 292 + 2) = fun _ => 0 := rn_row (s := (mk (w11 x Z).1 (12, 0), rowZ (w11 x Z).2 (x.2.2.1 + 292))) (w12_hs x Z) (by decide +kernel)
  refine ⟨mk_12 (s := (mk (w11 x Z).1 (12, 0), rowZ (w11 x Z).2 (x.2.2.1 + 292))) (w12_hs x Z) (w12_at x Z), ⟨⟨rz (z12 (by decide)), rz (z12 (by decide)), rz (z12 (by decide))⟩, ⟨rz (z12 (by decide)), rz (z12 (by decide)), rz (b := 1) (f := 5) (v := -1) (by decide +kernel)⟩, fun i hi => ?_, fun q hq => ?_, fun q hq => ?_, fun q hq => ?_⟩, fun q hq => ⟨fun _ => by rw [r2], fun T h => by cases h⟩⟩
  · exact rz (z12 (by omega))
  · have hq : (q : Int) < 0 := hq; omega
  · have hq : (q : Int) < 0 := hq; omega
  · have hq : (q : Int) < 0 := hq; omega
/-- the law, from its first row -/
theorem lw_all (hT : Ties) {s L : Nat} {x : Wx} {Z : Zt} {Q : Option Value → Wx → Zt → Prop} (hq : ∀ (x : Wx) (Z : Zt), Q (some (i_ 1)) x Z) (hK : KS x ∧ KW x Z ∧ KT x ∧ KU x Z ∧ KB x x.2.2.1) (hs : x.1 s = some (200, L) ∧ s < x.2.2.1) (hr : ∀ j : Nat, j < L → Rg (Z s j)) (hL : L ≤ 3584) : V mL_law 7000 500000 0 [some (r_ s), none, none, none] [] x Z Q := by
  refine V_le (k2 := 6462 + 0) (n2 := 457451 + 0) (by decide) (by decide) ?_
  refine lw_new (k := 6144) (n := 422400) (lw_loop hT hq 512 6144 422400 _ _ 0 S00 (Int.le_refl 0) (by omega) (by decide) (by decide) ⟨lw_OI hK, lw_MI, ?_, fun j hj => ?_, hs.2, ?_, hL⟩)
  · rw [(w12_low (by omega)).1, (w11_low hs.2).1]; exact hs.1
  · rw [(w12_low (by omega)).2.2, (w11_low hs.2).2.2]; exact hr j hj
  · have : (w12 x Z).1.2.2.1 = x.2.2.1 + 292 + 26 := rn_nxo (s := (mk (w11 x Z).1 (12, 0), rowZ (w11 x Z).2 (x.2.2.1 + 292))) (w12_hs x Z) (by decide +kernel)
    omega
