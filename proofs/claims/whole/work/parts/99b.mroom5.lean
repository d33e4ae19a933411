/-! ===== the reference: rooms: the lines solved ===== -/
/-- what stays true while the columns are gone through -/
def EI (p : Int) (g po u c : Nat) (w : Sv) : Prop := (∀ i : Nat, i < u → ∀ j : Nat, j ≤ po → 0 ≤ w.1 i j ∧ w.1 i j < p) ∧ w.2.1 ≤ u ∧ (∀ i : Nat, i < u → w.2.1 ≤ i → ∀ j : Nat, j < c → j ≤ po → w.1 i j = 0) ∧ (∀ i : Nat, i < u → ∀ j : Nat, j ≤ po → j % 2 = 1 ∧ j < 2 * g + 1 → w.1 i j = 0) ∧ w.2.2.2.2 ≤ c ∧ w.2.1 ≤ c
theorem EI.st {p : Int} (hp : IsP p) {g po u c : Nat} {w : Sv} (h : EI p g po u c w) (hc : c ≤ po) : EI p g po u (c + 1) (slvS p g po u c w) := by
  have hpr := hp.rg
  obtain ⟨h1, h2, h3, h4, h5, h6⟩ := h
  by_cases cm : c % 2 = 1 ∧ c < 2 * g + 1
  · rw [slvS_m cm]
    refine ⟨h1, h2, fun i hi hw j hj hjp => ?_, h4, by show w.2.2.2.2 ≤ c + 1; omega, by show w.2.1 ≤ c + 1; omega⟩
    by_cases e : j = c
    · rw [e]; exact h4 i hi c hc cm
    · exact h3 i hi hw j (by omega) hjp
  · cases hf : fstL w.1 c (u - w.2.1) w.2.1 with
    | none =>
      rw [slvS_n cm hf]
      refine ⟨h1, h2, fun i hi hw j hj hjp => ?_, h4, by show w.2.2.2.2 + 1 ≤ c + 1; omega, by show w.2.1 ≤ c + 1; omega⟩
      have hw : w.2.1 ≤ i := hw
      by_cases e : j = c
      · rw [e]; exact fstL_none hf i hw (by omega)
      · exact h3 i hi hw j (by omega) hjp
    | some l =>
      obtain ⟨f1, f2, f3⟩ := fstL_some hf
      rw [slvS_s cm hf]
      have sw : ∀ i : Nat, i < u → ∃ q : Nat, q < u ∧ (∀ j : Nat, swM w.1 l w.2.1 i j = w.1 q j) ∧ (w.2.1 ≤ i → w.2.1 ≤ q) := fun i hi => by
        by_cases ci : i = w.2.1
        · exact ⟨l, by omega, fun j => by unfold swM; rw [if_pos ci], fun _ => f1⟩
        · by_cases cl : i = l
          · exact ⟨w.2.1, by omega, fun j => by unfold swM; rw [if_neg ci, if_pos cl], fun _ => Nat.le_refl _⟩
          · exact ⟨i, hi, fun j => by unfold swM; rw [if_neg ci, if_neg cl], fun hh => hh⟩
      have lead : swM w.1 l w.2.1 w.2.1 c = w.1 l c := by unfold swM; rw [if_pos rfl]
      have hlr := h1 l (by omega) c hc
      have hl0 : 0 < w.1 l c ∧ w.1 l c < p := by omega
      refine ⟨fun i hi j hj => ?_, by show w.2.1 + 1 ≤ u; omega, fun i hi hw j hj hjp => ?_, fun i hi j hj hn => ?_, by show w.2.2.2.2 ≤ c + 1; omega, by show w.2.1 + 1 ≤ c + 1; omega⟩
      · obtain ⟨q, q1, q2, _⟩ := sw i hi
        show 0 ≤ clrM p c po w.2.1 u (swM w.1 l w.2.1) i j ∧ clrM p c po w.2.1 u (swM w.1 l w.2.1) i j < p
        unfold clrM
        split
        · rw [q2]; exact h1 q q1 j hj
        · split
          · exact emr _ (by omega)
          · exact emr _ (by omega)
      · have hw : w.2.1 + 1 ≤ i := hw
        obtain ⟨q, q1, q2, q3⟩ := sw i hi
        show clrM p c po w.2.1 u (swM w.1 l w.2.1) i j = 0
        unfold clrM
        by_cases cj : j < c
        · rw [if_pos (Or.inl cj), q2]; exact h3 q q1 (q3 (by omega)) j cj hjp
        · have ej : j = c := by omega
          subst ej
          rw [if_neg (by omega), if_neg (by omega), if_pos hi, lead, inv_mul hp hl0, Int.mul_one, Int.sub_self, Int.zero_emod]
      · obtain ⟨q, q1, q2, _⟩ := sw i hi
        obtain ⟨q', q1', q2', _⟩ := sw w.2.1 (by omega)
        show clrM p c po w.2.1 u (swM w.1 l w.2.1) i j = 0
        unfold clrM
        have z1 : swM w.1 l w.2.1 i j = 0 := by rw [q2]; exact h4 q q1 j hj hn
        have z2 : swM w.1 l w.2.1 w.2.1 j = 0 := by rw [q2']; exact h4 q' q1' j hj hn
        split
        · exact z1
        · split
          · rw [z2, Int.zero_mul, Int.zero_emod]
          · rw [z1, z2, Int.zero_mul, Int.zero_emod, Int.mul_zero, Int.sub_zero, Int.zero_emod]
def pvN (v : Int) : Int := if v < 0 then -1 else v
/-- the matrix, wide -/
def MW (po u : Nat) (N M : Nat → Nat → Int) : Prop := ∀ q j : Nat, q < u → j < 96 → N q j = if j ≤ po then M q j else 0
def EFr (b : Nat) (Z Z' : Zt) : Prop := (∀ c, c ≠ b → c ≠ b + 13 → c ≠ b + 14 → c ≠ b + 15 → Z' c = Z c) ∧ ∀ i : Nat, i ≠ 28 → Z' b i = Z b i
theorem EFr.rf {b : Nat} {Z : Zt} : EFr b Z Z := ⟨fun _ _ _ _ _ => rfl, fun _ _ => rfl⟩
theorem EFr.tr {b : Nat} {Z Z1 Z2 : Zt} (h : EFr b Z Z1) (g : EFr b Z1 Z2) : EFr b Z Z2 := ⟨fun c h1 h2 h3 h4 => (g.1 c h1 h2 h3 h4).trans (h.1 c h1 h2 h3 h4), fun i hi => (g.2 i hi).trans (h.2 i hi)⟩
theorem EFr.m {b : Nat} {Z Z1 : Zt} (h : Oth Z Z1 (fun c => c = b + 13)) : EFr b Z Z1 := ⟨fun c _ h2 _ _ => h c h2, fun i _ => by rw [h b (by show ¬ (b = b + 13); omega)]⟩
theorem EFr.put {b c i : Nat} {v : Int} {Z Z1 : Zt} (hc : c = b + 13 ∨ c = b + 14 ∨ c = b + 15) (e : Z1 = up Z c i v) : EFr b Z Z1 := ⟨fun d h1 h2 h3 h4 => by rw [e, up_row _ _ _ _ _ (by omega)], fun i _ => by rw [e, up_row _ _ _ _ _ (by omega)]⟩
/-- solved as w says -/
def SV (Z : Zt) (b po u c : Nat) (w : Sv) : Prop := (∃ N : Nat → Nat → Int, MM Z b N ∧ MW po u N w.1) ∧ Z b 28 = (w.2.2.2.2 : Int) ∧ (∀ j : Nat, j < c → Z (b + 14) j = pvN (w.2.2.1 j)) ∧ (∀ i : Nat, i < w.2.2.2.2 → Z (b + 15) i = w.2.2.2.1 i)
theorem sp_X12_eliminates {k n : Nat} {x : Wx} {Z : Zt} {Q : Option Value → Wx → Zt → Prop} {b : Nat} (o : Is12 x b) {p : Int} {g po u : Nat} {M : Nat → Nat → Int} (hp : IsP p ∧ Z b 11 = p) (hg : Z b 12 = (g : Int) ∧ g ≤ 2) (hmo : Z b 24 = (po : Int) ∧ po ≤ 95) (hu : Z b 26 = (u : Int) ∧ u ≤ 100) (hM : MM Z b M) (hE : EI p g po u 0 (M, 0, fun _ => 0, fun _ => 0, 0)) (hw : ∀ q j : Nat, q < u → po < j → M q j = 0) (h : ∀ Z' : Zt, (SV Z' b po u (po + 1) (slvN p g po u M (po + 1)) ∧ EFr b Z Z') → Q none x Z') : V mX12_eliminates k n 0 [some (r_ b), none, none, none, none, none] [] x Z Q := by
  obtain ⟨hp, b11⟩ := hp
  have hpr := hp.rg
  have hEI : ∀ c : Nat, c ≤ po + 1 → EI p g po u c (slvN p g po u M c) := by
    intro c
    induction c with
    | zero => intro _; exact hE
    | succ c ih => intro hc; exact (ih (by omega)).st hp (by omega)
  have fld : ∀ Z1 : Zt, EFr b Z Z1 → Z1 b 11 = p ∧ Z1 b 12 = (g : Int) ∧ Z1 b 24 = (po : Int) ∧ Z1 b 26 = (u : Int) := fun Z1 hf => ⟨by rw [hf.2 11 (by decide)]; exact b11, by rw [hf.2 12 (by decide)]; exact hg.1, by rw [hf.2 24 (by decide)]; exact hmo.1, by rw [hf.2 26 (by decide)]; exact hu.1⟩
  have col : ∀ (m c : Nat) (Z1 : Zt), c + m = po + 1 → EFr b Z Z1 → SV Z1 b po u c (slvN p g po u M c) → V mX12_eliminates k n 9 [some (r_ b), some (i_ ((slvN p g po u M c).2.1 : Int)), some (i_ (c : Int)), none, none, none] [] x Z1 Q := by
    intro m
    induction m with
    | zero =>
      intro c Z1 hc hf hS
      obtain ⟨f1, f2, f3, f4⟩ := fld Z1 hf
      have ec : c = po + 1 := by omega
      subst ec
      have hei := hEI (po + 1) (Nat.le_refl _)
      refine b_X12_eliminates_9 o ?_
      rw [f3]
      exact ⟨⟨by omega, by omega⟩, ⟨by omega, by omega⟩, fun _ => h Z1 ⟨hS, hf⟩, fun cc => by omega⟩
    | succ m ih =>
      intro c Z1 hc hf hS
      obtain ⟨f1, f2, f3, f4⟩ := fld Z1 hf
      have hei := hEI c (by omega)
      have hst : slvN p g po u M (c + 1) = slvS p g po u c (slvN p g po u M c) := rfl
      obtain ⟨w, hw'⟩ : ∃ w : Sv, slvN p g po u M c = w := ⟨_, rfl⟩
      have nxt := fun Z2 hf2 hS2 => ih (c + 1) Z2 (by omega) hf2 hS2
      rw [hst, hw'] at nxt
      rw [hw'] at hei hS ⊢
      obtain ⟨⟨N, hN, hNM⟩, s28, s14, s15⟩ := hS
      obtain ⟨r1, r2, r3, r4, r5, r6⟩ := hei
      refine b_X12_eliminates_9 o ?_
      rw [f3]
      refine ⟨⟨by omega, by omega⟩, ⟨by omega, by omega⟩, fun cc => by omega, fun _ => ⟨by omega, by omega, fun Z2 e2 => ?_⟩⟩
      rw [Int.toNat_natCast] at e2 ⊢
      have hf2 : EFr b Z Z2 := hf.tr (EFr.put (Or.inr (Or.inl rfl)) e2)
      obtain ⟨k1, k2, k3, k4⟩ := fld Z2 hf2
      have hN2 : MM Z2 b N := hN.kept (by rw [e2, up_row _ _ _ _ _ (by omega)])
      have s282 : Z2 b 28 = (w.2.2.2.2 : Int) := by rw [e2, up_row _ _ _ _ _ (by omega)]; exact s28
      have s142 : ∀ j : Nat, j < c + 1 → Z2 (b + 14) j = if j = c then -1 else pvN (w.2.2.1 j) := fun j hj => by
        rw [e2, up_at]
        by_cases cj : j = c
        · rw [if_pos cj, if_pos cj]
        · rw [if_neg cj, if_neg cj]; exact s14 j (by omega)
      have s152 : ∀ i : Nat, i < w.2.2.2.2 → Z2 (b + 15) i = w.2.2.2.1 i := fun i hi => by rw [e2, up_row _ _ _ _ _ (by omega)]; exact s15 i hi
      refine ⟨g, ⟨k2, hg.2⟩, by omega, fun t ht => ⟨⟨by omega, by omega⟩, fun ct => ?_, fun ct => b_X12_eliminates_234 ?_⟩⟩
      · have cm : ¬ (c % 2 = 1 ∧ c < 2 * g + 1) := by omega
        -- the search of a line
        have free : fstL w.1 c (u - w.2.1) w.2.1 = none → V mX12_eliminates k n 65 [some (r_ b), some (i_ (w.2.1 : Int)), some (i_ (c : Int)), some (i_ (u : Int)), none, none] [] x Z2 Q := fun hn => by
          refine b_X12_eliminates_65 o ?_
          rw [k4]
          refine ⟨⟨by omega, by omega⟩, ⟨by omega, by omega⟩, fun cc => absurd rfl cc, fun _ => ⟨by omega, by omega, fun Z3 e3 Z4 e4 => b_X12_eliminates_234 ?_⟩⟩
          rw [s282, Int.toNat_natCast] at e3
          have z328 : Z3 b 28 = (w.2.2.2.2 : Int) := by rw [e3, up_row _ _ _ _ _ (by omega)]; exact s282
          rw [z328] at e4
          have hf4 : EFr b Z Z4 := (hf2.tr (EFr.put (Or.inr (Or.inr rfl)) e3)).tr ⟨fun d h1 _ _ _ => by rw [e4, up_row _ _ _ _ _ h1], fun i hi => by rw [e4, up_at, if_neg hi]⟩
          rw [slvS_n cm hn] at nxt
          refine nxt Z4 hf4 ⟨⟨N, hN2.kept (by rw [e4, up_row _ _ _ _ _ (by omega), e3, up_row _ _ _ _ _ (by omega)]), hNM⟩, ?_, fun j hj => ?_, fun i hi => ?_⟩
          · rw [e4, up_self]; show (w.2.2.2.2 : Int) + 1 = ((w.2.2.2.2 + 1 : Nat) : Int); omega
          · rw [e4, up_row _ _ _ _ _ (by omega), e3, up_row _ _ _ _ _ (by omega), s142 j hj]
            show _ = pvN (upf w.2.2.1 c (-1) j)
            unfold upf
            by_cases cj : j = c
            · rw [if_pos cj, if_pos cj]; rfl
            · rw [if_neg cj, if_neg cj]
          · have hi : i < w.2.2.2.2 + 1 := hi
            rw [e4, up_row _ _ _ _ _ (by omega), e3, up_at]
            show _ = upf w.2.2.2.1 w.2.2.2.2 c i
            unfold upf
            by_cases ci : i = w.2.2.2.2
            · rw [if_pos ci, if_pos ci]
            · rw [if_neg ci, if_neg ci]; exact s152 i (by omega)
        have found : ∀ l : Nat, fstL w.1 c (u - w.2.1) w.2.1 = some l → V mX12_eliminates k n 65 [some (r_ b), some (i_ (w.2.1 : Int)), some (i_ (c : Int)), some (i_ (l : Int)), none, none] [] x Z2 Q := fun l hl => by
          obtain ⟨l1, l2, l3⟩ := fstL_some hl
          have hlu : l < u := by omega
          have hdu : w.2.1 < u := by omega
          obtain ⟨d, hd⟩ : ∃ d : Nat, w.2.1 = d := ⟨_, rfl⟩
          rw [slvS_s cm hl] at nxt
          rw [hd] at l1 l2 hdu r3 nxt ⊢
          refine b_X12_eliminates_65 o ?_
          rw [k4]
          refine ⟨⟨by omega, by omega⟩, ⟨by omega, by omega⟩, fun _ => ⟨N, hN2, by omega, fun Z3 hz3 => ?_⟩, fun cc => by omega⟩
          rw [Int.toNat_natCast, Int.toNat_natCast] at hz3
          have hf3 : EFr b Z Z3 := hf2.tr (EFr.m hz3.2)
          obtain ⟨q1, q2, q3, q4⟩ := fld Z3 hf3
          obtain ⟨N1, hN1e⟩ : ∃ N1 : Nat → Nat → Int, swM N l d = N1 := ⟨_, rfl⟩
          obtain ⟨W1, hW1e⟩ : ∃ W1 : Nat → Nat → Int, swM w.1 l d = W1 := ⟨_, rfl⟩
          have N1W : MW po u N1 W1 := fun q j hq hj => by
            rw [← hN1e, ← hW1e]
            unfold swM
            by_cases c1 : q = d
            · rw [if_pos c1, if_pos c1]; exact hNM l j hlu hj
            · rw [if_neg c1, if_neg c1]
              by_cases c2 : q = l
              · rw [if_pos c2, if_pos c2]; exact hNM d j hdu hj
              · rw [if_neg c2, if_neg c2]; exact hNM q j hq hj
          have W1r : ∀ i : Nat, i < u → ∀ j : Nat, j ≤ po → 0 ≤ W1 i j ∧ W1 i j < p := fun i hi j hj => by
            rw [← hW1e]; unfold swM
            by_cases c1 : i = d
            · rw [if_pos c1]; exact r1 l hlu j hj
            · rw [if_neg c1]
              by_cases c2 : i = l
              · rw [if_pos c2]; exact r1 d hdu j hj
              · rw [if_neg c2]; exact r1 i hi j hj
          have W1z : ∀ j : Nat, j < c → W1 d j = 0 := fun j hj => by
            rw [← hW1e]; unfold swM; rw [if_pos rfl]; exact r3 l hlu l1 j hj (by omega)
          have N1r : ∀ i : Nat, i < u → ∀ j : Nat, j < 96 → 0 ≤ N1 i j ∧ N1 i j < p := fun i hi j hj => by
            rw [N1W i j hi hj]
            split
            · exact W1r i hi j (by assumption)
            · omega
          have W1dc : W1 d c = w.1 l c := by rw [← hW1e]; unfold swM; rw [if_pos rfl]
          have N1dc : N1 d c = W1 d c := by rw [N1W d c hdu (by omega), if_pos (by omega)]
          have hlead : 0 < W1 d c ∧ W1 d c < p := by
            have := W1r d hdu c (by omega)
            rw [W1dc] at this ⊢; omega
          rw [hN1e] at hz3
          have ed : Z3 (b + 13) (96 * (d : Int) + (c : Int)).toNat = W1 d c := by rw [show (96 * (d : Int) + (c : Int)).toNat = 96 * d + c from by omega, hz3.1 d c (by omega) (by omega)]; exact N1dc
          rw [ed]
          refine ⟨by omega, by omega, p, ⟨hp, q1⟩, hlead, ?_⟩
          obtain ⟨iv, hiv⟩ : ∃ iv : Int, inv p (W1 d c) = iv := ⟨_, rfl⟩
          have hivr : 0 < iv ∧ iv < p := by rw [← hiv]; exact inv_rg hp hlead
          rw [hiv]
          -- the scaled line
          obtain ⟨R, hRe⟩ : ∃ R : Nat → Int, R = fun j => N1 d j * iv % p := ⟨_, rfl⟩
          have Rr : ∀ j : Nat, 0 ≤ R j ∧ R j < p := fun j => by rw [hRe]; exact emr _ (by omega)
          have fin : ∀ (m2 q : Nat) (Z4 : Zt), q + m2 = u → Oth Z2 Z4 (fun c => c = b + 13) → MM Z4 b (fun i j => if i = d then R j else if i < q ∧ i < u then (N1 i j - N1 i c * R j) % p else N1 i j) → V mX12_eliminates k n 169 [some (r_ b), some (i_ (d : Int)), some (i_ (c : Int)), none, none, some (i_ (q : Int))] [] x Z4 Q := by
            intro m2
            induction m2 with
            | zero =>
              intro q Z4 hq hf4 hm4
              have hf4' : EFr b Z Z4 := hf2.tr (EFr.m hf4)
              obtain ⟨q1', q2', q3', q4'⟩ := fld Z4 hf4'
              have z4b : Z4 b = Z2 b := hf4 b (by show ¬ (b = b + 13); omega)
              have z4p : Z4 (b + 14) = Z2 (b + 14) := hf4 _ (by show ¬ (b + 14 = b + 13); omega)
              have z4f : Z4 (b + 15) = Z2 (b + 15) := hf4 _ (by show ¬ (b + 15 = b + 13); omega)
              refine b_X12_eliminates_169 o ?_
              rw [q4']
              refine ⟨⟨by omega, by omega⟩, ⟨by omega, by omega⟩, fun _ => ⟨by omega, by omega, fun Z5 e5 => b_X12_eliminates_234 ?_⟩, fun cc => by omega⟩
              rw [Int.toNat_natCast] at e5
              have := nxt Z5 (hf4'.tr (EFr.put (Or.inr (Or.inl rfl)) e5)) ⟨⟨_, hm4.kept (by rw [e5, up_row _ _ _ _ _ (by omega)]), fun i j hi hj => ?_⟩, ?_, fun j hj => ?_, fun i hi => ?_⟩
              · exact this
              · show (if i = d then R j else if i < q ∧ i < u then (N1 i j - N1 i c * R j) % p else N1 i j) = if j ≤ po then clrM p c po d u (swM w.1 l d) i j else 0
                rw [hW1e]
                have nij := N1W i j hi hj
                have ndj := N1W d j hdu hj
                have nic := N1W i c hi (by omega)
                rw [if_pos (show c ≤ po by omega)] at nic
                by_cases cp : j ≤ po
                · rw [if_pos cp] at nij ndj ⊢
                  unfold clrM
                  by_cases cj : j < c
                  · rw [if_pos (show j < c ∨ po < j from Or.inl cj)]
                    have R0 : R j = 0 := by rw [hRe]; show N1 d j * iv % p = 0; rw [ndj, W1z j cj, Int.zero_mul, Int.zero_emod]
                    by_cases ci : i = d
                    · rw [if_pos ci, R0, ci, W1z j cj]
                    · rw [if_neg ci, if_pos (show i < q ∧ i < u by omega), R0, Int.mul_zero, Int.sub_zero, nij, Int.emod_eq_of_lt (W1r i hi j cp).1 (W1r i hi j cp).2]
                  · rw [if_neg (show ¬ (j < c ∨ po < j) by omega)]
                    by_cases ci : i = d
                    · rw [if_pos ci, if_pos ci, hRe]
                      show N1 d j * iv % p = _
                      rw [ndj, hiv]
                    · rw [if_neg ci, if_neg ci, if_pos (show i < q ∧ i < u by omega), if_pos hi, hRe]
                      show (N1 i j - N1 i c * (N1 d j * iv % p)) % p = _
                      rw [nij, nic, ndj, hiv]
                · rw [if_neg cp] at nij ndj ⊢
                  have R0 : R j = 0 := by rw [hRe]; show N1 d j * iv % p = 0; rw [ndj, Int.zero_mul, Int.zero_emod]
                  by_cases ci : i = d
                  · rw [if_pos ci]; exact R0
                  · rw [if_neg ci, if_pos (show i < q ∧ i < u by omega), R0, nij, Int.mul_zero, Int.sub_zero, Int.zero_emod]
              · rw [e5, up_row _ _ _ _ _ (by omega), z4b]; exact s282
              · rw [e5, up_at, z4p]
                show _ = pvN (upf w.2.2.1 c (d : Int) j)
                unfold upf
                by_cases cj : j = c
                · rw [if_pos cj, if_pos cj]; unfold pvN; rw [if_neg (by omega)]
                · rw [if_neg cj, if_neg cj, s142 j hj, if_neg cj]
              · rw [e5, up_row _ _ _ _ _ (by omega), z4f]; exact s152 i hi
            | succ m2 ih2 =>
              intro q Z4 hq hf4 hm4
              have hf4' : EFr b Z Z4 := hf2.tr (EFr.m hf4)
              obtain ⟨q1', q2', q3', q4'⟩ := fld Z4 hf4'
              have cur : ∀ i j : Nat, i < 100 → j < 96 → Z4 (b + 13) (96 * i + j) = (if i = d then R j else if i < q ∧ i < u then (N1 i j - N1 i c * R j) % p else N1 i j) := hm4
              have go : ∀ Z5 : Zt, Oth Z2 Z5 (fun c => c = b + 13) → MM Z5 b (fun i j => if i = d then R j else if i < q + 1 ∧ i < u then (N1 i j - N1 i c * R j) % p else N1 i j) → V mX12_eliminates k n 218 [some (r_ b), some (i_ (d : Int)), some (i_ (c : Int)), none, none, some (i_ (q : Int))] [] x Z5 Q := fun Z5 a1 a2 => b_X12_eliminates_218 (by have := ih2 (q + 1) Z5 (by omega) a1 a2; exact this)
              refine b_X12_eliminates_169 o ?_
              rw [q4']
              refine ⟨⟨by omega, by omega⟩, ⟨by omega, by omega⟩, fun cc => by omega, fun _ => ⟨⟨by omega, by omega⟩, fun cd => go Z4 hf4 (hm4.eq (fun i j hi hj => ?_)), fun cd => ⟨by omega, by omega, ?_⟩⟩⟩
              · by_cases ci : i = d
                · rw [if_pos ci, if_pos ci]
                · rw [if_neg ci, if_neg ci]
                  by_cases c1 : i < q ∧ i < u
                  · rw [if_pos c1, if_pos (show i < q + 1 ∧ i < u by omega)]
                  · rw [if_neg c1, if_neg (show ¬ (i < q + 1 ∧ i < u) by omega)]
              · have eqc : Z4 (b + 13) (96 * (q : Int) + (c : Int)).toNat = N1 q c := by
                  rw [show (96 * (q : Int) + (c : Int)).toNat = 96 * q + c from by omega, cur q c (by omega) (by omega), if_neg (show ¬ q = d by omega), if_neg (show ¬ (q < q ∧ q < u) by omega)]
                have nqc := N1r q (by omega) c (by omega)
                rw [eqc]
                refine ⟨⟨by omega, by omega⟩, fun c0 => go Z4 hf4 (hm4.eq (fun i j hi hj => ?_)), fun c0 => ⟨_, p, ⟨hp, q1'⟩, hm4, by omega, nqc, fun j hj => ?_, fun Z5 hz5 => go Z5 (hf4.tr hz5.2) (hz5.1.eq (fun i j hi hj => ?_))⟩⟩
                · by_cases ci : i = d
                  · rw [if_pos ci, if_pos ci]
                  · rw [if_neg ci, if_neg ci]
                    by_cases c1 : i < q ∧ i < u
                    · rw [if_pos c1, if_pos (show i < q + 1 ∧ i < u by omega)]
                    · rw [if_neg c1]
                      by_cases c2 : i = q
                      · rw [if_pos (show i < q + 1 ∧ i < u by omega), c2, c0, Int.zero_mul, Int.sub_zero, Int.emod_eq_of_lt (N1r q (by omega) j hj).1 (N1r q (by omega) j hj).2]
                      · rw [if_neg (show ¬ (i < q + 1 ∧ i < u) by omega)]
                · rw [Int.toNat_natCast q, Int.toNat_natCast d]
                  rw [if_neg (show ¬ q = d by omega), if_neg (show ¬ (q < q ∧ q < u) by omega), if_pos (show d = d from rfl)]
                  exact ⟨N1r q (by omega) j hj, Rr j⟩
                · rw [Int.toNat_natCast q, Int.toNat_natCast d]
                  by_cases c2 : i = q
                  · rw [if_pos c2, if_neg (show ¬ q = d by omega), if_neg (show ¬ (q < q ∧ q < u) by omega), if_pos (show d = d from rfl), if_neg (show ¬ i = d by omega), if_pos (show i < q + 1 ∧ i < u by omega), c2]
                  · rw [if_neg c2]
                    by_cases ci : i = d
                    · rw [if_pos ci, if_pos ci]
                    · rw [if_neg ci, if_neg ci]
                      by_cases c1 : i < q ∧ i < u
                      · rw [if_pos c1, if_pos (show i < q + 1 ∧ i < u by omega)]
                      · rw [if_neg c1, if_neg (show ¬ (i < q + 1 ∧ i < u) by omega)]
          have scl : ∀ (m2 t : Nat) (Z4 : Zt), t + m2 = 96 → Oth Z2 Z4 (fun c => c = b + 13) → MM Z4 b (fun i j => if i = d ∧ j < t then R j else N1 i j) → V mX12_eliminates k n 122 [some (r_ b), some (i_ (d : Int)), some (i_ (c : Int)), none, some (i_ iv), some (i_ (t : Int))] [] x Z4 Q := by
            intro m2
            induction m2 with
            | zero =>
              intro t Z4 ht4 hf4 hm4
              refine b_X12_eliminates_122 o ⟨⟨by omega, by omega⟩, fun _ => fin u 0 Z4 (by omega) hf4 (hm4.eq (fun i j hi hj => ?_)), fun cc => by omega⟩
              by_cases ci : i = d
              · rw [if_pos (show i = d ∧ j < t by omega), if_pos ci]
              · rw [if_neg (fun e => ci e.1), if_neg ci, if_neg (show ¬ (i < 0 ∧ i < u) by omega)]
            | succ m2 ih2 =>
              intro t Z4 ht4 hf4 hm4
              obtain ⟨q1', _, _, _⟩ := fld Z4 (hf2.tr (EFr.m hf4))
              have edt : Z4 (b + 13) (96 * d + t) = (if d = d ∧ t < t then R t else N1 d t) := hm4 d t (by omega) (by omega)
              rw [if_neg (show ¬ (d = d ∧ t < t) by omega)] at edt
              have ndt := N1r d hdu t (by omega)
              have qq := mul13 (a := N1 d t) (b := iv) (by omega) (by omega)
              refine b_X12_eliminates_122 o ?_
              rw [show (96 * (d : Int) + (t : Int)).toNat = 96 * d + t from by omega, edt, q1']
              refine ⟨⟨by omega, by omega⟩, fun cc => by omega, fun _ => ⟨by omega, by omega, ⟨by omega, by omega⟩, by omega, by omega, fun Z5 e5 => ?_⟩⟩
              have := ih2 (t + 1) Z5 (by omega) (hf4.tr (fun c hc => by rw [e5, up_row _ _ _ _ _ hc])) ((hm4.put (by omega) e5).eq (fun i j hi hj => ?_))
              · exact this
              · unfold putM
                dsimp only
                by_cases ci : i = d
                · by_cases cj : j = t
                  · rw [if_pos ⟨ci, cj⟩, if_pos (show i = d ∧ j < t + 1 by omega), hRe, cj]
                  · rw [if_neg (fun e => cj e.2)]
                    by_cases c1 : i = d ∧ j < t
                    · rw [if_pos c1, if_pos (show i = d ∧ j < t + 1 by omega)]
                    · rw [if_neg c1, if_neg (show ¬ (i = d ∧ j < t + 1) by omega)]
                · rw [if_neg (fun e => ci e.1), if_neg (fun e => ci e.1), if_neg (fun e => ci e.1)]
          exact scl 96 0 Z3 rfl hz3.2 (hz3.1.eq (fun i j hi hj => by rw [if_neg (show ¬ (i = d ∧ j < 0) by omega)]))
        have srch : ∀ (m2 q : Nat), q + m2 = u → w.2.1 ≤ q → fstL w.1 c m2 q = fstL w.1 c (u - w.2.1) w.2.1 → V mX12_eliminates k n 37 [some (r_ b), some (i_ (w.2.1 : Int)), some (i_ (c : Int)), some (i_ (q : Int)), none, none] [] x Z2 Q := by
          intro m2
          induction m2 with
          | zero =>
            intro q hq hdq he
            have eq : q = u := by omega
            refine b_X12_eliminates_37 o ?_
            rw [k4]
            refine ⟨⟨by omega, by omega⟩, ⟨by omega, by omega⟩, fun _ => ?_, fun cc => by omega⟩
            rw [eq]; exact free he.symm
          | succ m2 ih2 =>
            intro q hq hdq he
            have eqc : Z2 (b + 13) (96 * (q : Int) + (c : Int)).toNat = w.1 q c := by
              rw [show (96 * (q : Int) + (c : Int)).toNat = 96 * q + c from by omega, hN2 q c (by omega) (by omega), hNM q c (by omega) (by omega), if_pos (by omega)]
            have rqc := r1 q (by omega) c (by omega)
            refine b_X12_eliminates_37 o ?_
            rw [k4, eqc]
            refine ⟨⟨by omega, by omega⟩, ⟨by omega, by omega⟩, fun cc => by omega, fun _ => ⟨by omega, by omega, ⟨by omega, by omega⟩, fun c1 => found q ?_, fun c1 => ?_⟩⟩
            · rw [← he]; unfold fstL; rw [if_neg c1]
            · have := ih2 (q + 1) (by omega) (by omega) (by rw [← he]; show _ = (if w.1 q c = 0 then fstL w.1 c m2 (q + 1) else some q); rw [if_pos c1])
              exact this
        exact srch (u - w.2.1) w.2.1 (by omega) (Nat.le_refl _) rfl
      · have cm : c % 2 = 1 ∧ c < 2 * g + 1 := by omega
        rw [slvS_m cm] at nxt
        refine nxt Z2 hf2 ⟨⟨N, hN2, hNM⟩, s282, fun j hj => ?_, s152⟩
        rw [s142 j hj]
        show _ = pvN (upf w.2.2.1 c (-2) j)
        unfold upf
        by_cases cj : j = c
        · rw [if_pos cj, if_pos cj]; rfl
        · rw [if_neg cj, if_neg cj]
  refine b_X12_eliminates_0 o (fun Z1 e1 => ?_)
  have := col (po + 1) 0 Z1 (by omega) ⟨fun c h1 _ _ _ => by rw [e1, up_row _ _ _ _ _ h1], fun i hi => by rw [e1, up_at, if_neg hi]⟩ ⟨⟨M, hM.kept (by rw [e1, up_row _ _ _ _ _ (by omega)]), fun q j hq hj => ?_⟩, by rw [e1, up_self]; rfl, fun j hj => absurd hj (Nat.not_lt_zero j), fun i hi => absurd hi (Nat.not_lt_zero i)⟩
  · exact this
  · show M q j = if j ≤ po then M q j else 0
    by_cases cj : j ≤ po
    · rw [if_pos cj]
    · rw [if_neg cj]; exact hw q j hq (by omega)
