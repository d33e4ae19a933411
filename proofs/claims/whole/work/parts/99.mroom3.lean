/-! ===== the reference: rooms: what is wanted ===== -/
/-- (X + t) ^ i, as a row -/
def npI (p X : Int) : Nat → Nat → Int
  | 0 => pln
  | i + 1 => npw p X 1 (npI p X i)
theorem npI_in {p X : Int} (hp : 1 < p) : ∀ i : Nat, InP p (npI p X i)
  | 0, j => by
    show 0 ≤ pln j ∧ pln j < p
    unfold pln; split <;> omega
  | i + 1, j => emr _ (by omega)
/-- what is wanted of A's and of B's numbers: 0 both, 1 A's, 2 B's -/
def wtP (p X t : Int) (i q : Nat) : Int := if t = 2 then 0 else npI p X i q
def wtY (p X : Int) (S : Nat → Int) (t : Int) (i q : Nat) : Int := if t = 1 then 0 else if t = 0 then pmul p (npI p X i) S q else npI p X i q
def MM (Z : Zt) (b : Nat) (M : Nat → Nat → Int) : Prop := ∀ q j : Nat, q < 100 → j < 96 → Z (b + 13) (96 * q + j) = M q j
def putM (M : Nat → Nat → Int) (q0 j0 : Nat) (v : Int) : Nat → Nat → Int := fun q j => if q = q0 ∧ j = j0 then v else M q j
theorem MM.put {Z Z1 : Zt} {b : Nat} {M : Nat → Nat → Int} (h : MM Z b M) {q0 j0 : Nat} {v : Int} (hj : j0 < 96) (e : Z1 = up Z (b + 13) (96 * q0 + j0) v) : MM Z1 b (putM M q0 j0 v) := fun q j hq hj2 => by
  rw [e, up_at]
  unfold putM
  by_cases c : q = q0 ∧ j = j0
  · rw [if_pos c, if_pos (by omega)]
  · rw [if_neg c, if_neg (by omega)]; exact h q j hq hj2
theorem MM.eq {Z : Zt} {b : Nat} {M M' : Nat → Nat → Int} (h : MM Z b M) (e : ∀ q j : Nat, q < 100 → j < 96 → M q j = M' q j) : MM Z b M' := fun q j hq hj => (h q j hq hj).trans (e q j hq hj)
theorem MM.kept {Z Z1 : Zt} {b : Nat} {M : Nat → Nat → Int} (h : MM Z b M) (e : Z1 (b + 13) = Z (b + 13)) : MM Z1 b M := fun q j hq hj => by rw [e]; exact h q j hq hj
def WF (b : Nat) (Z Z' : Zt) : Prop := (∀ c, c ≠ b → c ≠ b + 13 → c ≠ b + 18 → c ≠ b + 19 → Z' c = Z c) ∧ ∀ i : Nat, i ≠ 26 → Z' b i = Z b i
theorem WF.rf {b : Nat} {Z : Zt} : WF b Z Z := ⟨fun _ _ _ _ _ => rfl, fun _ _ => rfl⟩
theorem WF.tr {b : Nat} {Z Z1 Z2 : Zt} (h : WF b Z Z1) (g : WF b Z1 Z2) : WF b Z Z2 := ⟨fun c h1 h2 h3 h4 => (g.1 c h1 h2 h3 h4).trans (h.1 c h1 h2 h3 h4), fun i hi => (g.2 i hi).trans (h.2 i hi)⟩
theorem WF.put {b c i : Nat} {v : Int} {Z Z1 : Zt} (hc : c = b + 13 ∨ c = b + 18 ∨ c = b + 19) (e : Z1 = up Z c i v) : WF b Z Z1 := ⟨fun d h1 h2 h3 h4 => by rw [e, up_row _ _ _ _ _ (by omega)], fun i _ => by rw [e, up_row _ _ _ _ _ (by omega)]⟩
/-- rows are added -/
def wtM (p : Int) (g : Nat) (mo X : Int) (S : Nat → Int) (t : Int) (w : Nat) (W : Lq) : Lq := (fun q j => if W.2 ≤ q ∧ q < W.2 + w then askW (wtP p X t) (wtY p X S t) g mo (pwN mo) (q - W.2) j else W.1 q j, W.2 + w)
theorem sp_X12_wants {k n : Nat} {x : Wx} {Z : Zt} {Q : Option Value → Wx → Zt → Prop} {b : Nat} {X w t : Int} (o : Is12 x b) {p mo : Int} {g : Nat} {S : Nat → Int} {W : Lq} (hp : IsP p ∧ Z b 11 = p) (hg : Z b 12 = (g : Int) ∧ g ≤ 2) (hmo : Z b 24 = mo ∧ 0 ≤ mo ∧ mo ≤ 95) (hW : MM Z b W.1 ∧ Z b 26 = (W.2 : Int) ∧ ∀ q j : Nat, W.2 ≤ q → W.1 q j = 0) (hX : 0 ≤ X ∧ X < p) (hw : 0 ≤ w ∧ w ≤ 95 ∧ (W.2 : Int) + w ≤ 100) (ht : t = 0 ∨ t = 1 ∨ t = 2) (hS : InP p S ∧ (t = 0 → ∀ q : Nat, (q : Int) < w → Z (b + 16) q = S q)) (h : ∀ Z' : Zt, (MM Z' b (wtM p g mo X S t w.toNat W).1 ∧ Z' b 26 = ((wtM p g mo X S t w.toNat W).2 : Int) ∧ WF b Z Z') → Q none x Z') : V mX12_wants k n 0 [some (r_ b), some (i_ X), some (i_ w), some (i_ t), none, none, none, none] [] x Z Q := by
  obtain ⟨hp, b11⟩ := hp
  have hpr := hp.rg
  obtain ⟨b12, hg2⟩ := hg
  obtain ⟨b24, mo0, mo1⟩ := hmo
  obtain ⟨hM, b26, hz⟩ := hW
  obtain ⟨m, hm⟩ : ∃ m : Nat, w = (m : Int) := ⟨w.toNat, by omega⟩
  subst hm
  rw [Int.toNat_natCast] at h
  have hN := fun i => npI_in (X := X) (show 1 < p by omega) i
  have s18 : x.1 (b + 18) = some (100, 96) := by
    have := o.2.2.2.2.2.2.2.2.2.2.2.2.2.2.2.2.2.2.2.2.2.2.2.2.2.2.2.2.2.2.2.2.2.2.2.2.1
    exact this
  have s19 : x.1 (b + 19) = some (100, 96) := by
    have := o.2.2.2.2.2.2.2.2.2.2.2.2.2.2.2.2.2.2.2.2.2.2.2.2.2.2.2.2.2.2.2.2.2.2.2.2.2.2.1
    exact this
  have tdv : Int.tdiv mo 2 = mo / 2 := Int.tdiv_eq_ediv_of_nonneg mo0
  have eS : ∀ Z1 : Zt, WF b Z Z1 → t = 0 → ∀ q : Nat, q < m → Z1 (b + 16) q = S q := fun Z1 hf h0 q hq => by rw [hf.1 _ (by omega) (by omega) (by omega) (by omega)]; exact hS.2 h0 q (by omega)
  have fld : ∀ Z1 : Zt, WF b Z Z1 → Z1 b 11 = p ∧ Z1 b 12 = (g : Int) ∧ Z1 b 24 = mo := fun Z1 hf => ⟨by rw [hf.2 11 (by decide)]; exact b11, by rw [hf.2 12 (by decide)]; exact b12, by rw [hf.2 24 (by decide)]; exact b24⟩
  -- the matrix while the powers go
  obtain ⟨Mi, hMi⟩ : ∃ Mi : Nat → Nat → Nat → Nat → Int, Mi = fun i k q j => if W.2 ≤ q ∧ q < W.2 + m then askW (wtP p X t) (wtY p X S t) g mo (if q < W.2 + k then i + 1 else i) (q - W.2) j else W.1 q j := ⟨_, rfl⟩
  have Mi0 : ∀ i q j : Nat, Mi i m q j = Mi (i + 1) 0 q j := fun i q j => by
    rw [hMi]
    show (if W.2 ≤ q ∧ q < W.2 + m then askW _ _ g mo (if q < W.2 + m then i + 1 else i) _ j else _) = (if W.2 ≤ q ∧ q < W.2 + m then askW _ _ g mo (if q < W.2 + 0 then i + 1 + 1 else i + 1) _ j else _)
    by_cases c : W.2 ≤ q ∧ q < W.2 + m
    · rw [if_pos c, if_pos c, if_pos c.2, if_neg (show ¬ q < W.2 + 0 by omega)]
    · rw [if_neg c, if_neg c]
  -- the next power, in place
  have nxt : ∀ (i : Nat), (∀ Z2 : Zt, WF b Z Z2 → Z2 b 26 = (W.2 : Int) → MM Z2 b (Mi (i + 1) 0) → (∀ q : Nat, q < 96 → Z2 (b + 18) q = npI p X (i + 1) q) → V mX12_wants k n 36 [some (r_ b), some (i_ X), some (i_ (m : Int)), some (i_ t), some (i_ ((i : Int) + 1)), none, none, none] [] x Z2 Q) → ∀ (r : Nat) (Z1 : Zt), r ≤ 95 → WF b Z Z1 → Z1 b 26 = (W.2 : Int) → MM Z1 b (Mi (i + 1) 0) → (∀ q : Nat, q < 96 → Z1 (b + 18) q = if r < q then npI p X (i + 1) q else npI p X i q) → V mX12_wants k n 247 [some (r_ b), some (i_ X), some (i_ (m : Int)), some (i_ t), some (i_ (i : Int)), some (i_ (r : Int)), none, none] [] x Z1 Q := by
    intro i hk r
    induction r with
    | zero =>
      intro Z1 hr hf c26 hm1 hn
      obtain ⟨f1, f2, f3⟩ := fld Z1 hf
      have e0 := hn 0 (by decide)
      rw [if_neg (by omega)] at e0
      have i0 := hN i 0
      have q1 := mul13 (a := npI p X i 0) (b := X) (by omega) (by omega)
      refine b_X12_wants_247 o ?_
      rw [e0, f1]
      refine ⟨⟨by omega, by omega⟩, fun _ => ⟨⟨by omega, by omega⟩, by omega, by omega, fun Z2 e2 => ?_⟩, fun c => by omega⟩
      refine hk Z2 (hf.tr (WF.put (Or.inr (Or.inl rfl)) e2)) (by rw [e2, up_row _ _ _ _ _ (by omega)]; exact c26) (hm1.kept (by rw [e2, up_row _ _ _ _ _ (by omega)])) (fun q hq => ?_)
      rw [e2, up_at]
      by_cases c : q = 0
      · rw [if_pos c, c]
        show _ = npw p X 1 (npI p X i) 0
        unfold npw
        rw [if_neg (by omega), Int.add_zero]
      · rw [if_neg c, hn q hq, if_pos (by omega)]
    | succ r ih =>
      intro Z1 hr hf c26 hm1 hn
      obtain ⟨f1, f2, f3⟩ := fld Z1 hf
      have e0 := hn (r + 1) (by omega)
      rw [if_neg (by omega)] at e0
      have e1 := hn r (by omega)
      rw [if_neg (by omega)] at e1
      have i0 := hN i (r + 1)
      have i1 := hN i r
      have q1 := mul13 (a := npI p X i (r + 1)) (b := X) (by omega) (by omega)
      refine b_X12_wants_247 o ?_
      rw [Int.toNat_natCast (r + 1), show (((r + 1 : Nat) : Int) - 1).toNat = r from by omega, e0, e1, f1]
      refine ⟨⟨by omega, by omega⟩, fun c => by omega, fun _ => ⟨by omega, by omega, by omega, by omega, ⟨by omega, by omega⟩, by omega, by omega, fun Z2 e2 => ?_⟩⟩
      rw [show ((r + 1 : Nat) : Int) + (-1) = (r : Int) from by omega]
      refine ih Z2 (by omega) (hf.tr (WF.put (Or.inr (Or.inl rfl)) e2)) (by rw [e2, up_row _ _ _ _ _ (by omega)]; exact c26) (hm1.kept (by rw [e2, up_row _ _ _ _ _ (by omega)])) (fun q hq => ?_)
      rw [e2, up_at]
      by_cases c : q = r + 1
      · rw [if_pos c, if_pos (by omega), c]
        show _ = npw p X 1 (npI p X i) (r + 1)
        unfold npw
        rw [if_pos (by omega), show r + 1 - 1 = r from by omega]
      · rw [if_neg c, hn q hq]
        by_cases c2 : r + 1 < q
        · rw [if_pos c2, if_pos (by omega)]
        · rw [if_neg c2, if_neg (by omega)]
  -- the rows are written
  have wrt : ∀ (i : Nat), (2 * i : Int) ≤ mo → (∀ Z2 : Zt, WF b Z Z2 → Z2 b 26 = (W.2 : Int) → MM Z2 b (Mi (i + 1) 0) → (∀ q : Nat, q < 96 → Z2 (b + 18) q = npI p X i q) → V mX12_wants k n 247 [some (r_ b), some (i_ X), some (i_ (m : Int)), some (i_ t), some (i_ (i : Int)), some (i_ 95), none, none] [] x Z2 Q) → ∀ (r q0 : Nat) (Z1 : Zt), q0 + r = m → WF b Z Z1 → Z1 b 26 = (W.2 : Int) → MM Z1 b (Mi i q0) → (∀ q : Nat, q < 96 → Z1 (b + 18) q = npI p X i q) → (∀ q : Nat, q < m → t ≠ 1 → Z1 (b + 19) q = wtY p X S t i q) → V mX12_wants k n 138 [some (r_ b), some (i_ X), some (i_ (m : Int)), some (i_ t), some (i_ (i : Int)), some (i_ (q0 : Int)), none, none] [] x Z1 Q := by
    intro i hi hk r
    induction r with
    | zero =>
      intro q0 Z1 hq hf c26 hm1 hn _
      have e : q0 = m := by omega
      subst e
      exact b_X12_wants_138 o ⟨⟨by omega, by omega⟩, ⟨by omega, by omega⟩, fun _ => hk Z1 hf c26 (hm1.eq (fun q j _ _ => Mi0 i q j)) hn, fun c => by omega⟩
    | succ r ih =>
      intro q0 Z1 hq hf c26 hm1 hn hy
      have snd : ∀ Z2 : Zt, WF b Z Z2 → Z2 b 26 = (W.2 : Int) → MM Z2 b (fun q j => if q = W.2 + q0 ∧ j = 2 * i then wtP p X t i q0 else Mi i q0 q j) → (∀ q : Nat, q < 96 → Z2 (b + 18) q = npI p X i q) → (∀ q : Nat, q < m → t ≠ 1 → Z2 (b + 19) q = wtY p X S t i q) → V mX12_wants k n 176 [some (r_ b), some (i_ X), some (i_ (m : Int)), some (i_ t), some (i_ (i : Int)), some (i_ (q0 : Int)), none, none] [] x Z2 Q := by
        intro Z2 f2 c262 m2 hn2 hy2
        obtain ⟨g1, g2, g3⟩ := fld Z2 f2
        have last : ∀ Z3 : Zt, WF b Z Z3 → Z3 b 26 = (W.2 : Int) → MM Z3 b (Mi i (q0 + 1)) → (∀ q : Nat, q < 96 → Z3 (b + 18) q = npI p X i q) → (∀ q : Nat, q < m → t ≠ 1 → Z3 (b + 19) q = wtY p X S t i q) → V mX12_wants k n 237 [some (r_ b), some (i_ X), some (i_ (m : Int)), some (i_ t), some (i_ (i : Int)), some (i_ (q0 : Int)), none, none] [] x Z3 Q := fun Z3 a1 a2 a3 a4 a5 => b_X12_wants_237 (by have := ih (q0 + 1) Z3 (by omega) a1 a2 a3 a4 a5; exact this)
        -- what the row becomes
        have row : ∀ q j : Nat, q < 100 → j < 96 → ∀ Y : Int, (((2 * i + 2 * g + 1 : Nat) : Int) ≤ mo → Y = wtY p X S t i q0) → Mi i (q0 + 1) q j = if q = W.2 + q0 ∧ j = 2 * i + 2 * g + 1 ∧ ((2 * i + 2 * g + 1 : Nat) : Int) ≤ mo then Y else if q = W.2 + q0 ∧ j = 2 * i then wtP p X t i q0 else Mi i q0 q j := by
          intro q j _ _ Y hY
          rw [hMi]
          show (if W.2 ≤ q ∧ q < W.2 + m then askW _ _ g mo (if q < W.2 + (q0 + 1) then i + 1 else i) _ j else _) = (if _ then Y else if _ then _ else (if W.2 ≤ q ∧ q < W.2 + m then askW _ _ g mo (if q < W.2 + q0 then i + 1 else i) _ j else _))
          by_cases cq : q = W.2 + q0
          · rw [if_pos (show W.2 ≤ q ∧ q < W.2 + m by omega), if_pos (show W.2 ≤ q ∧ q < W.2 + m by omega), if_pos (show q < W.2 + (q0 + 1) by omega), if_neg (show ¬ q < W.2 + q0 by omega), show q - W.2 = q0 from by omega]
            by_cases cB : j = 2 * i + 2 * g + 1 ∧ ((2 * i + 2 * g + 1 : Nat) : Int) ≤ mo
            · rw [if_pos ⟨cq, cB⟩, cB.1, askW_B _ _ g q0 cB.2, hY cB.2]
            · rw [if_neg (fun e => cB e.2)]
              by_cases cA : j = 2 * i
              · rw [if_pos ⟨cq, cA⟩, cA, askW_A]
              · rw [if_neg (fun e => cA e.2), askW_N _ _ g q0 cA]
                by_cases c3 : j = 2 * i + 2 * g + 1
                · exact Or.inr (fun e => cB ⟨c3, by rw [c3] at e; exact e⟩)
                · exact Or.inl c3
          · have nB : ¬ (q = W.2 + q0 ∧ j = 2 * i + 2 * g + 1 ∧ ((2 * i + 2 * g + 1 : Nat) : Int) ≤ mo) := fun e => cq e.1
            have nA : ¬ (q = W.2 + q0 ∧ j = 2 * i) := fun e => cq e.1
            rw [if_neg nB, if_neg nA]
            by_cases c : W.2 ≤ q ∧ q < W.2 + m
            · rw [if_pos c, if_pos c]
              by_cases c2 : q < W.2 + q0
              · rw [if_pos c2, if_pos (by omega)]
              · rw [if_neg c2, if_neg (by omega)]
            · rw [if_neg c, if_neg c]
        refine b_X12_wants_176 o ⟨⟨by omega, by omega⟩, fun c1 => last Z2 f2 c262 (m2.eq (fun q j hq2 hj => ?_)) hn2 hy2, fun c1 => ?_⟩
        · have hY0 : wtY p X S t i q0 = 0 := by unfold wtY; rw [if_pos c1]
          rw [row q j hq2 hj 0 (fun _ => hY0.symm)]
          by_cases cB : q = W.2 + q0 ∧ j = 2 * i + 2 * g + 1 ∧ ((2 * i + 2 * g + 1 : Nat) : Int) ≤ mo
          · rw [if_pos cB, if_neg (by omega), hMi]
            show (if W.2 ≤ q ∧ q < W.2 + m then askW _ _ g mo (if q < W.2 + q0 then i + 1 else i) _ j else _) = 0
            rw [if_pos (by omega), if_neg (by omega), cB.2.1]
            unfold askW
            rw [if_neg (by omega), if_neg (by omega)]
          · rw [if_neg cB]
        · rw [g2, g3]
          refine ⟨⟨by omega, by omega⟩, ⟨by omega, by omega⟩, fun c2 => last Z2 f2 c262 (m2.eq (fun q j hq2 hj => ?_)) hn2 hy2, fun c2 => ⟨by omega, by omega, by rw [c262]; omega, by rw [c262]; omega, fun Z3 e3 => ?_⟩⟩
          · rw [row q j hq2 hj 0 (fun e => by omega), if_neg (show ¬ (q = W.2 + q0 ∧ j = 2 * i + 2 * g + 1 ∧ ((2 * i + 2 * g + 1 : Nat) : Int) ≤ mo) by omega)]
          · rw [c262, show (96 * ((W.2 : Int) + (q0 : Int)) + 2 * (i : Int) + 2 * (g : Int) + 1).toNat = 96 * (W.2 + q0) + (2 * i + 2 * g + 1) from by omega, Int.toNat_natCast, hy2 q0 (by omega) c1] at e3
            refine last Z3 (f2.tr (WF.put (Or.inl rfl) e3)) (by rw [e3, up_row _ _ _ _ _ (by omega)]; exact c262) ((m2.put (by omega) e3).eq (fun q j hq2 hj => ?_)) (fun q hq2 => by rw [e3, up_row _ _ _ _ _ (by omega)]; exact hn2 q hq2) (fun q hq2 ht1 => by rw [e3, up_row _ _ _ _ _ (by omega)]; exact hy2 q hq2 ht1)
            rw [row q j hq2 hj _ (fun _ => rfl)]
            unfold putM
            by_cases cB : q = W.2 + q0 ∧ j = 2 * i + 2 * g + 1
            · rw [if_pos cB, if_pos ⟨cB.1, cB.2, by omega⟩]
            · rw [if_neg cB, if_neg (show ¬ (q = W.2 + q0 ∧ j = 2 * i + 2 * g + 1 ∧ ((2 * i + 2 * g + 1 : Nat) : Int) ≤ mo) from fun e => cB ⟨e.1, e.2.1⟩)]
      refine b_X12_wants_138 o ⟨⟨by omega, by omega⟩, ⟨by omega, by omega⟩, fun c => by omega, fun _ => ⟨⟨by omega, by omega⟩, fun c2 => snd Z1 hf c26 (hm1.eq (fun q j hq2 hj => ?_)) hn hy, fun c2 => ⟨by omega, by omega, by rw [c26]; omega, by rw [c26]; omega, fun Z2 e2 => ?_⟩⟩⟩
      · by_cases cA : q = W.2 + q0 ∧ j = 2 * i
        · rw [if_pos cA, hMi]
          show (if W.2 ≤ q ∧ q < W.2 + m then askW _ _ g mo (if q < W.2 + q0 then i + 1 else i) _ j else _) = wtP p X t i q0
          rw [if_pos (by omega), if_neg (by omega), cA.2]
          unfold askW wtP
          rw [if_pos (by omega), if_neg (by omega), if_pos c2]
        · rw [if_neg cA]
      · rw [c26, show (96 * ((W.2 : Int) + (q0 : Int)) + 2 * (i : Int)).toNat = 96 * (W.2 + q0) + 2 * i from by omega, Int.toNat_natCast, hn q0 (by omega)] at e2
        refine snd Z2 (hf.tr (WF.put (Or.inl rfl) e2)) (by rw [e2, up_row _ _ _ _ _ (by omega)]; exact c26) ((hm1.put (by omega) e2).eq (fun q j hq2 hj => ?_)) (fun q hq2 => by rw [e2, up_row _ _ _ _ _ (by omega)]; exact hn q hq2) (fun q hq2 ht1 => by rw [e2, up_row _ _ _ _ _ (by omega)]; exact hy q hq2 ht1)
        unfold putM
        by_cases cA : q = W.2 + q0 ∧ j = 2 * i
        · rw [if_pos cA, if_pos cA]
          unfold wtP
          rw [if_neg c2]
        · rw [if_neg cA, if_neg cA]
  -- what B's numbers are times
  have thn : ∀ (i : Nat), (2 * i : Int) ≤ mo → (∀ Z2 : Zt, WF b Z Z2 → Z2 b 26 = (W.2 : Int) → MM Z2 b (Mi i 0) → (∀ q : Nat, q < 96 → Z2 (b + 18) q = npI p X i q) → (∀ q : Nat, q < m → t ≠ 1 → Z2 (b + 19) q = wtY p X S t i q) → V mX12_wants k n 138 [some (r_ b), some (i_ X), some (i_ (m : Int)), some (i_ t), some (i_ (i : Int)), some (i_ 0), none, none] [] x Z2 Q) → ∀ (r q0 : Nat) (Z1 : Zt), q0 + r = m → WF b Z Z1 → Z1 b 26 = (W.2 : Int) → MM Z1 b (Mi i 0) → (∀ q : Nat, q < 96 → Z1 (b + 18) q = npI p X i q) → (∀ q : Nat, q < q0 → t ≠ 1 → Z1 (b + 19) q = wtY p X S t i q) → V mX12_wants k n 50 [some (r_ b), some (i_ X), some (i_ (m : Int)), some (i_ t), some (i_ (i : Int)), some (i_ (q0 : Int)), none, none] [] x Z1 Q := by
    intro i hi hk r
    induction r with
    | zero =>
      intro q0 Z1 hq hf c26 hm1 hn hy
      exact b_X12_wants_50 ⟨⟨by omega, by omega⟩, ⟨by omega, by omega⟩, fun _ => hk Z1 hf c26 hm1 hn (fun q hq2 => hy q (by omega)), fun c => by omega⟩
    | succ r ih =>
      intro q0 Z1 hq hf c26 hm1 hn hy
      obtain ⟨g1, g2, g3⟩ := fld Z1 hf
      have put : ∀ v : Int, (t ≠ 1 → v = wtY p X S t i q0) → V mX12_wants k n 128 [some (r_ b), some (i_ X), some (i_ (m : Int)), some (i_ t), some (i_ (i : Int)), some (i_ (q0 : Int)), none, none] [i_ v, i_ (q0 : Int), r_ (b + 19)] x Z1 Q := fun v hv => by
        refine b_X12_wants_128 s19 ⟨by omega, by omega, fun Z2 e2 => ?_⟩
        rw [Int.toNat_natCast] at e2
        refine ih (q0 + 1) Z2 (by omega) (hf.tr (WF.put (Or.inr (Or.inr rfl)) e2)) (by rw [e2, up_row _ _ _ _ _ (by omega)]; exact c26) (hm1.kept (by rw [e2, up_row _ _ _ _ _ (by omega)])) (fun q hq2 => by rw [e2, up_row _ _ _ _ _ (by omega)]; exact hn q hq2) (fun q hq2 ht1 => ?_)
        rw [e2, up_at]
        by_cases c : q = q0
        · rw [if_pos c, c]; exact hv ht1
        · rw [if_neg c]; exact hy q (by omega) ht1
      have fin : ∀ v : Int, (t = 0 → v = wtY p X S t i q0) → V mX12_wants k n 106 [some (r_ b), some (i_ X), some (i_ (m : Int)), some (i_ t), some (i_ (i : Int)), some (i_ (q0 : Int)), some (i_ v), none] [] x Z1 Q := fun v hv => by
        refine b_X12_wants_106 o ⟨⟨by omega, by omega⟩, fun c => ⟨by omega, by omega, put _ (fun ht1 => ?_)⟩, fun c => put v (fun _ => hv c)⟩
        rw [Int.toNat_natCast, hn q0 (by omega)]
        unfold wtY
        rw [if_neg ht1, if_neg c]
      have inn : ∀ (s j : Nat) (v : Int), j + s = q0 + 1 → (t = 0 → v = csum (npI p X i) S q0 j % p) → (0 ≤ v ∧ v < p) → V mX12_wants k n 62 [some (r_ b), some (i_ X), some (i_ (m : Int)), some (i_ t), some (i_ (i : Int)), some (i_ (q0 : Int)), some (i_ v), some (i_ (j : Int))] [] x Z1 Q := by
        intro s
        induction s with
        | zero =>
          intro j v hj hv _
          refine b_X12_wants_62 o ⟨⟨by omega, by omega⟩, ⟨by omega, by omega⟩, fun _ => fin v (fun h0 => ?_), fun c => by omega⟩
          rw [hv h0, show j = q0 + 1 from by omega]
          unfold wtY
          rw [if_neg (by omega), if_pos h0]; rfl
        | succ s ihs =>
          intro j v hj hv hvr
          refine b_X12_wants_62 o ⟨⟨by omega, by omega⟩, ⟨by omega, by omega⟩, fun c => by omega, fun _ => ⟨⟨by omega, by omega⟩, fun c => fin v (fun h0 => absurd h0 c), fun c => ?_⟩⟩
          have i1 := hN i j
          have i2 := hS.1 (q0 - j)
          have q1 := mul13 (a := npI p X i j) (b := S (q0 - j)) (by omega) (by omega)
          rw [Int.toNat_natCast j, show ((q0 : Int) - (j : Int)).toNat = q0 - j from by omega, hn j (by omega), eS Z1 hf c (q0 - j) (by omega), g1]
          refine ⟨by omega, by omega, by omega, by omega, ⟨by omega, by omega⟩, by omega, by omega, fun v' hv' => ?_⟩
          refine ihs (j + 1) v' (by omega) (fun h0 => ?_) (by rw [hv']; exact emr _ (by omega))
          rw [hv', hv h0]
          show _ = (csum (npI p X i) S q0 j + (if j ≤ q0 then npI p X i j * S (q0 - j) else 0)) % p
          rw [if_pos (by omega), Int.emod_add_emod]
      refine b_X12_wants_50 ⟨⟨by omega, by omega⟩, ⟨by omega, by omega⟩, fun c => by omega, fun _ => ?_⟩
      exact inn (q0 + 1) 0 0 (by omega) (fun _ => by show (0 : Int) = 0 % p; rw [Int.zero_emod]) (by omega)
  -- the powers
  have pws : ∀ (r i : Nat) (Z1 : Zt), (i : Int) + r = mo / 2 + 1 → WF b Z Z1 → Z1 b 26 = (W.2 : Int) → MM Z1 b (Mi i 0) → (∀ q : Nat, q < 96 → Z1 (b + 18) q = npI p X i q) → V mX12_wants k n 36 [some (r_ b), some (i_ X), some (i_ (m : Int)), some (i_ t), some (i_ (i : Int)), none, none, none] [] x Z1 Q := by
    intro r
    induction r with
    | zero =>
      intro i Z1 hi hf c26 hm1 hn
      obtain ⟨g1, g2, g3⟩ := fld Z1 hf
      refine b_X12_wants_36 o ?_
      rw [g3, tdv]
      refine ⟨⟨by omega, by omega⟩, ⟨by omega, by omega⟩, ⟨by omega, by omega⟩, fun _ Z2 e2 => ?_, fun c => by omega⟩
      rw [c26] at e2
      refine h Z2 ⟨(hm1.eq (fun q j _ _ => ?_)).kept (by rw [e2, up_row _ _ _ _ _ (by omega)]), ?_, hf.tr ⟨fun c h1 _ _ _ => by rw [e2, up_row _ _ _ _ _ h1], fun i hi => by rw [e2, up_at, if_neg hi]⟩⟩
      · rw [hMi]
        show (if W.2 ≤ q ∧ q < W.2 + m then askW _ _ g mo (if q < W.2 + 0 then i + 1 else i) _ j else _) = (if W.2 ≤ q ∧ q < W.2 + m then askW _ _ g mo (pwN mo) _ j else _)
        have ei : pwN mo = i := by unfold pwN; omega
        by_cases c : W.2 ≤ q ∧ q < W.2 + m
        · rw [if_pos c, if_pos c, if_neg (by omega), ei]
        · rw [if_neg c, if_neg c]
      · rw [e2, up_self]
        show (W.2 : Int) + (m : Int) = ((W.2 + m : Nat) : Int)
        omega
    | succ r ih =>
      intro i Z1 hi hf c26 hm1 hn
      obtain ⟨g1, g2, g3⟩ := fld Z1 hf
      refine b_X12_wants_36 o ?_
      rw [g3, tdv]
      refine ⟨⟨by omega, by omega⟩, ⟨by omega, by omega⟩, ⟨by omega, by omega⟩, fun c => by omega, fun _ => ?_⟩
      refine thn i (by omega) (fun Z2 a1 a2 a3 a4 a5 => wrt i (by omega) (fun Z3 d1 d2 d3 d4 => nxt i (fun Z4 u1 u2 u3 u4 => ?_) 95 Z3 (Nat.le_refl _) d1 d2 d3 (fun q hq => ?_)) m 0 Z2 (by omega) a1 a2 a3 a4 a5) m 0 Z1 (by omega) hf c26 hm1 hn (fun q hq => absurd hq (Nat.not_lt_zero q))
      · have := ih (i + 1) Z4 (by omega) u1 u2 u3 u4
        exact this
      · rw [if_neg (by omega)]; exact d4 q hq
  -- the first power
  have init : ∀ (r i : Nat) (Z1 : Zt), i + r = 96 → WF b Z Z1 → Z1 b 26 = (W.2 : Int) → MM Z1 b W.1 → (∀ q : Nat, q < i → Z1 (b + 18) q = pln q) → V mX12_wants k n 3 [some (r_ b), some (i_ X), some (i_ (m : Int)), some (i_ t), some (i_ (i : Int)), none, none, none] [] x Z1 Q := by
    intro r
    induction r with
    | zero =>
      intro i Z1 hi hf c26 hm1 hn
      refine b_X12_wants_3 o ⟨⟨by omega, by omega⟩, fun _ => pws (mo / 2 + 1).toNat 0 Z1 (by omega) hf c26 (hm1.eq (fun q j _ _ => ?_)) (fun q hq => hn q (by omega)), fun c => by omega⟩
      rw [hMi]
      show _ = (if W.2 ≤ q ∧ q < W.2 + m then askW _ _ g mo (if q < W.2 + 0 then 0 + 1 else 0) _ j else _)
      by_cases c : W.2 ≤ q ∧ q < W.2 + m
      · rw [if_pos c, if_neg (by omega), askW_0]; exact hz q j c.1
      · rw [if_neg c]
    | succ r ih =>
      intro i Z1 hi hf c26 hm1 hn
      have put : ∀ v : Int, v = pln i → V mX12_wants k n 26 [some (r_ b), some (i_ X), some (i_ (m : Int)), some (i_ t), some (i_ (i : Int)), none, none, none] [i_ v, i_ (i : Int), r_ (b + 18)] x Z1 Q := fun v hv => by
        refine b_X12_wants_26 s18 ⟨by omega, by omega, fun Z2 e2 => ?_⟩
        rw [Int.toNat_natCast] at e2
        refine ih (i + 1) Z2 (by omega) (hf.tr (WF.put (Or.inr (Or.inl rfl)) e2)) (by rw [e2, up_row _ _ _ _ _ (by omega)]; exact c26) (hm1.kept (by rw [e2, up_row _ _ _ _ _ (by omega)])) (fun q hq => ?_)
        rw [e2, up_at]
        by_cases c : q = i
        · rw [if_pos c, c]; exact hv
        · rw [if_neg c]; exact hn q (by omega)
      refine b_X12_wants_3 o ⟨⟨by omega, by omega⟩, fun c => by omega, fun _ => ⟨fun c => put 0 ?_, fun c => put 1 ?_⟩⟩
      · unfold pln; rw [if_neg (by omega)]
      · unfold pln; rw [if_pos (by omega)]
  exact b_X12_wants_0 (init 96 0 Z rfl WF.rf b26 hM (fun q hq => absurd hq (Nat.not_lt_zero q)))
theorem dX12_conditionsAt_0 : decode cX12_conditionsAt 0 = .ok (.aload_n 0, 1) := by decide +kernel
theorem dX12_conditionsAt_1 : decode cX12_conditionsAt 1 = .ok (.iload_n 1, 1) := by decide +kernel
theorem dX12_conditionsAt_2 : decode cX12_conditionsAt 2 = .ok (.invokevirtual 312, 3) := by decide +kernel
theorem dX12_conditionsAt_5 : decode cX12_conditionsAt 5 = .ok (.istore_n 2, 1) := by decide +kernel
theorem dX12_conditionsAt_6 : decode cX12_conditionsAt 6 = .ok (.aload_n 0, 1) := by decide +kernel
theorem dX12_conditionsAt_7 : decode cX12_conditionsAt 7 = .ok (.iconst 0, 1) := by decide +kernel
theorem dX12_conditionsAt_8 : decode cX12_conditionsAt 8 = .ok (.iload_n 1, 1) := by decide +kernel
theorem dX12_conditionsAt_9 : decode cX12_conditionsAt 9 = .ok (.invokevirtual 230, 3) := by decide +kernel
theorem dX12_conditionsAt_12 : decode cX12_conditionsAt 12 = .ok (.ifCond .ne 38, 3) := by decide +kernel
theorem dX12_conditionsAt_15 : decode cX12_conditionsAt 15 = .ok (.iconst 2, 1) := by decide +kernel
theorem dX12_conditionsAt_16 : decode cX12_conditionsAt 16 = .ok (.iload_n 2, 1) := by decide +kernel
theorem dX12_conditionsAt_17 : decode cX12_conditionsAt 17 = .ok (.imul, 1) := by decide +kernel
theorem dX12_conditionsAt_18 : decode cX12_conditionsAt 18 = .ok (.aload_n 0, 1) := by decide +kernel
theorem dX12_conditionsAt_19 : decode cX12_conditionsAt 19 = .ok (.getfield 39, 3) := by decide +kernel
theorem dX12_conditionsAt_22 : decode cX12_conditionsAt 22 = .ok (.bipush 13, 2) := by decide +kernel
theorem dX12_conditionsAt_24 : decode cX12_conditionsAt 24 = .ok (.iload_n 1, 1) := by decide +kernel
theorem dX12_conditionsAt_25 : decode cX12_conditionsAt 25 = .ok (.imul, 1) := by decide +kernel
theorem dX12_conditionsAt_26 : decode cX12_conditionsAt 26 = .ok (.iaload, 1) := by decide +kernel
theorem dX12_conditionsAt_27 : decode cX12_conditionsAt 27 = .ok (.isub, 1) := by decide +kernel
theorem dX12_conditionsAt_28 : decode cX12_conditionsAt 28 = .ok (.istore_n 3, 1) := by decide +kernel
theorem dX12_conditionsAt_29 : decode cX12_conditionsAt 29 = .ok (.aload_n 0, 1) := by decide +kernel
theorem dX12_conditionsAt_30 : decode cX12_conditionsAt 30 = .ok (.iload_n 1, 1) := by decide +kernel
theorem dX12_conditionsAt_31 : decode cX12_conditionsAt 31 = .ok (.iload_n 3, 1) := by decide +kernel
theorem dX12_conditionsAt_32 : decode cX12_conditionsAt 32 = .ok (.iconst 1, 1) := by decide +kernel
theorem dX12_conditionsAt_33 : decode cX12_conditionsAt 33 = .ok (.iadd, 1) := by decide +kernel
theorem dX12_conditionsAt_34 : decode cX12_conditionsAt 34 = .ok (.iconst 2, 1) := by decide +kernel
theorem dX12_conditionsAt_35 : decode cX12_conditionsAt 35 = .ok (.idiv, 1) := by decide +kernel
theorem dX12_conditionsAt_36 : decode cX12_conditionsAt 36 = .ok (.iconst 1, 1) := by decide +kernel
theorem dX12_conditionsAt_37 : decode cX12_conditionsAt 37 = .ok (.invokevirtual 318, 3) := by decide +kernel
theorem dX12_conditionsAt_40 : decode cX12_conditionsAt 40 = .ok (.aload_n 0, 1) := by decide +kernel
theorem dX12_conditionsAt_41 : decode cX12_conditionsAt 41 = .ok (.iload_n 1, 1) := by decide +kernel
theorem dX12_conditionsAt_42 : decode cX12_conditionsAt 42 = .ok (.iload_n 3, 1) := by decide +kernel
theorem dX12_conditionsAt_43 : decode cX12_conditionsAt 43 = .ok (.iconst 2, 1) := by decide +kernel
theorem dX12_conditionsAt_44 : decode cX12_conditionsAt 44 = .ok (.idiv, 1) := by decide +kernel
theorem dX12_conditionsAt_45 : decode cX12_conditionsAt 45 = .ok (.iconst 2, 1) := by decide +kernel
theorem dX12_conditionsAt_46 : decode cX12_conditionsAt 46 = .ok (.invokevirtual 318, 3) := by decide +kernel
theorem dX12_conditionsAt_49 : decode cX12_conditionsAt 49 = .ok (.return_, 1) := by decide +kernel
theorem dX12_conditionsAt_50 : decode cX12_conditionsAt 50 = .ok (.iconst 1, 1) := by decide +kernel
theorem dX12_conditionsAt_51 : decode cX12_conditionsAt 51 = .ok (.istore_n 3, 1) := by decide +kernel
theorem dX12_conditionsAt_52 : decode cX12_conditionsAt 52 = .ok (.iload_n 3, 1) := by decide +kernel
theorem dX12_conditionsAt_53 : decode cX12_conditionsAt 53 = .ok (.aload_n 0, 1) := by decide +kernel
theorem dX12_conditionsAt_54 : decode cX12_conditionsAt 54 = .ok (.getfield 179, 3) := by decide +kernel
theorem dX12_conditionsAt_57 : decode cX12_conditionsAt 57 = .ok (.if_icmp .ge 59, 3) := by decide +kernel
theorem dX12_conditionsAt_60 : decode cX12_conditionsAt 60 = .ok (.aload_n 0, 1) := by decide +kernel
theorem dX12_conditionsAt_61 : decode cX12_conditionsAt 61 = .ok (.iload_n 3, 1) := by decide +kernel
theorem dX12_conditionsAt_62 : decode cX12_conditionsAt 62 = .ok (.iload_n 3, 1) := by decide +kernel
theorem dX12_conditionsAt_63 : decode cX12_conditionsAt 63 = .ok (.imul, 1) := by decide +kernel
theorem dX12_conditionsAt_64 : decode cX12_conditionsAt 64 = .ok (.invokevirtual 182, 3) := by decide +kernel
theorem dX12_conditionsAt_67 : decode cX12_conditionsAt 67 = .ok (.aload_n 0, 1) := by decide +kernel
theorem dX12_conditionsAt_68 : decode cX12_conditionsAt 68 = .ok (.iconst 0, 1) := by decide +kernel
theorem dX12_conditionsAt_69 : decode cX12_conditionsAt 69 = .ok (.iload_n 1, 1) := by decide +kernel
theorem dX12_conditionsAt_70 : decode cX12_conditionsAt 70 = .ok (.invokevirtual 230, 3) := by decide +kernel
theorem dX12_conditionsAt_73 : decode cX12_conditionsAt 73 = .ok (.if_icmp .eq 6, 3) := by decide +kernel
theorem dX12_conditionsAt_76 : decode cX12_conditionsAt 76 = .ok (.goto 34, 3) := by decide +kernel
theorem dX12_conditionsAt_79 : decode cX12_conditionsAt 79 = .ok (.iload_n 2, 1) := by decide +kernel
theorem dX12_conditionsAt_80 : decode cX12_conditionsAt 80 = .ok (.aload_n 0, 1) := by decide +kernel
theorem dX12_conditionsAt_81 : decode cX12_conditionsAt 81 = .ok (.getfield 39, 3) := by decide +kernel
theorem dX12_conditionsAt_84 : decode cX12_conditionsAt 84 = .ok (.bipush 13, 2) := by decide +kernel
theorem dX12_conditionsAt_86 : decode cX12_conditionsAt 86 = .ok (.iload_n 1, 1) := by decide +kernel
theorem dX12_conditionsAt_87 : decode cX12_conditionsAt 87 = .ok (.imul, 1) := by decide +kernel
theorem dX12_conditionsAt_88 : decode cX12_conditionsAt 88 = .ok (.iload_n 3, 1) := by decide +kernel
theorem dX12_conditionsAt_89 : decode cX12_conditionsAt 89 = .ok (.iadd, 1) := by decide +kernel
theorem dX12_conditionsAt_90 : decode cX12_conditionsAt 90 = .ok (.iaload, 1) := by decide +kernel
theorem dX12_conditionsAt_91 : decode cX12_conditionsAt 91 = .ok (.isub, 1) := by decide +kernel
theorem dX12_conditionsAt_92 : decode cX12_conditionsAt 92 = .ok (.istore 4, 2) := by decide +kernel
theorem dX12_conditionsAt_94 : decode cX12_conditionsAt 94 = .ok (.aload_n 0, 1) := by decide +kernel
theorem dX12_conditionsAt_95 : decode cX12_conditionsAt 95 = .ok (.iload_n 1, 1) := by decide +kernel
theorem dX12_conditionsAt_96 : decode cX12_conditionsAt 96 = .ok (.iload_n 3, 1) := by decide +kernel
theorem dX12_conditionsAt_97 : decode cX12_conditionsAt 97 = .ok (.iload 4, 2) := by decide +kernel
theorem dX12_conditionsAt_99 : decode cX12_conditionsAt 99 = .ok (.invokevirtual 321, 3) := by decide +kernel
theorem dX12_conditionsAt_102 : decode cX12_conditionsAt 102 = .ok (.aload_n 0, 1) := by decide +kernel
theorem dX12_conditionsAt_103 : decode cX12_conditionsAt 103 = .ok (.iload_n 1, 1) := by decide +kernel
theorem dX12_conditionsAt_104 : decode cX12_conditionsAt 104 = .ok (.iload 4, 2) := by decide +kernel
theorem dX12_conditionsAt_106 : decode cX12_conditionsAt 106 = .ok (.iconst 0, 1) := by decide +kernel
theorem dX12_conditionsAt_107 : decode cX12_conditionsAt 107 = .ok (.invokevirtual 318, 3) := by decide +kernel
theorem dX12_conditionsAt_110 : decode cX12_conditionsAt 110 = .ok (.iinc 3 1, 3) := by decide +kernel
theorem dX12_conditionsAt_113 : decode cX12_conditionsAt 113 = .ok (.goto (-61), 3) := by decide +kernel
theorem dX12_conditionsAt_116 : decode cX12_conditionsAt 116 = .ok (.return_, 1) := by decide +kernel
set_option maxRecDepth 20000 in
theorem b_X12_conditionsAt_0 {k n : Nat} {x : Wx} {Z : Zt} {Q : Option Value → Wx → Zt → Prop} {a0 : Nat} {v1 : Int} (o_a0 : Is12 x a0)
    (h : ∃ g1 : Int, (∃ g2 : Int, (∃ g3 : Nat → Int, (∃ g4 : Nat → Int, (∃ g5 : Nat → Int, (MF Z a0 g1 g3 ∧ MSq Z a0 g2 g4 g5 ∧ ORg g4 ∧ (0 ≤ v1 ∧ v1 < g1) ∧ (∃ g6 : Nat → Nat → Int, (∃ g7 : Int, ((IsP g7 ∧ Z a0 11 = g7) ∧ MS Z a0 g6 ∧ (0 ≤ (0 : Int) ∧ (0 : Int) < 27) ∧ (0 ≤ v1 ∧ v1 ≤ 13) ∧ InP g7 (g6 (0 : Int).toNat) ∧ (Rg (ev g7 (g6 (0 : Int).toNat) v1) ∧ (((ev g7 (g6 (0 : Int).toNat) v1 ≠ 0) → (V mX12_conditionsAt k n 52 [some (r_ a0), some (i_ v1), some (i_ (mDp g1 g3 g4 v1)), some (i_ 1), none] [] x Z Q)) ∧ ((ev g7 (g6 (0 : Int).toNat) v1 = 0) → (0 ≤ 13 * v1 ∧ 13 * v1 < 169 ∧ (Rg (((2 * (mDp g1 g3 g4 v1)) - (Z (a0 + 10) (13 * v1).toNat)) + 1) ∧ (∃ g8 : Int, (∃ g9 : Int, (∃ g10 : Nat, (∃ g11 : Nat → Int, (∃ g12 : Lq, ((IsP g8 ∧ Z a0 11 = g8) ∧ (Z a0 12 = (g10 : Int) ∧ g10 ≤ 2) ∧ (Z a0 24 = g9 ∧ 0 ≤ g9 ∧ g9 ≤ 95) ∧ (MM Z a0 g12.1 ∧ Z a0 26 = (g12.2 : Int) ∧ ∀ q j : Nat, g12.2 ≤ q → g12.1 q j = 0) ∧ (0 ≤ v1 ∧ v1 < g8) ∧ (0 ≤ (Int.tdiv (((2 * (mDp g1 g3 g4 v1)) - (Z (a0 + 10) (13 * v1).toNat)) + 1) 2) ∧ (Int.tdiv (((2 * (mDp g1 g3 g4 v1)) - (Z (a0 + 10) (13 * v1).toNat)) + 1) 2) ≤ 95 ∧ (g12.2 : Int) + (Int.tdiv (((2 * (mDp g1 g3 g4 v1)) - (Z (a0 + 10) (13 * v1).toNat)) + 1) 2) ≤ 100) ∧ ((1 : Int) = 0 ∨ (1 : Int) = 1 ∨ (1 : Int) = 2) ∧ (InP g8 g11 ∧ ((1 : Int) = 0 → ∀ q : Nat, (q : Int) < (Int.tdiv (((2 * (mDp g1 g3 g4 v1)) - (Z (a0 + 10) (13 * v1).toNat)) + 1) 2) → Z (a0 + 16) q = g11 q)) ∧ (∀ (Z'1 : Zt), (MM Z'1 a0 (wtM g8 g10 g9 v1 g11 (1 : Int) (Int.tdiv (((2 * (mDp g1 g3 g4 v1)) - (Z (a0 + 10) (13 * v1).toNat)) + 1) 2).toNat g12).1 ∧ Z'1 a0 26 = ((wtM g8 g10 g9 v1 g11 (1 : Int) (Int.tdiv (((2 * (mDp g1 g3 g4 v1)) - (Z (a0 + 10) (13 * v1).toNat)) + 1) 2).toNat g12).2 : Int) ∧ WF a0 Z Z'1) → (Rg ((2 * (mDp g1 g3 g4 v1)) - (Z (a0 + 10) (13 * v1).toNat)) ∧ (∃ g13 : Int, (∃ g14 : Int, (∃ g15 : Nat, (∃ g16 : Nat → Int, (∃ g17 : Lq, ((IsP g13 ∧ Z'1 a0 11 = g13) ∧ (Z'1 a0 12 = (g15 : Int) ∧ g15 ≤ 2) ∧ (Z'1 a0 24 = g14 ∧ 0 ≤ g14 ∧ g14 ≤ 95) ∧ (MM Z'1 a0 g17.1 ∧ Z'1 a0 26 = (g17.2 : Int) ∧ ∀ q j : Nat, g17.2 ≤ q → g17.1 q j = 0) ∧ (0 ≤ v1 ∧ v1 < g13) ∧ (0 ≤ (Int.tdiv ((2 * (mDp g1 g3 g4 v1)) - (Z (a0 + 10) (13 * v1).toNat)) 2) ∧ (Int.tdiv ((2 * (mDp g1 g3 g4 v1)) - (Z (a0 + 10) (13 * v1).toNat)) 2) ≤ 95 ∧ (g17.2 : Int) + (Int.tdiv ((2 * (mDp g1 g3 g4 v1)) - (Z (a0 + 10) (13 * v1).toNat)) 2) ≤ 100) ∧ ((2 : Int) = 0 ∨ (2 : Int) = 1 ∨ (2 : Int) = 2) ∧ (InP g13 g16 ∧ ((2 : Int) = 0 → ∀ q : Nat, (q : Int) < (Int.tdiv ((2 * (mDp g1 g3 g4 v1)) - (Z (a0 + 10) (13 * v1).toNat)) 2) → Z'1 (a0 + 16) q = g16 q)) ∧ (∀ (Z'2 : Zt), (MM Z'2 a0 (wtM g13 g15 g14 v1 g16 (2 : Int) (Int.tdiv ((2 * (mDp g1 g3 g4 v1)) - (Z (a0 + 10) (13 * v1).toNat)) 2).toNat g17).1 ∧ Z'2 a0 26 = ((wtM g13 g15 g14 v1 g16 (2 : Int) (Int.tdiv ((2 * (mDp g1 g3 g4 v1)) - (Z (a0 + 10) (13 * v1).toNat)) 2).toNat g17).2 : Int) ∧ WF a0 Z'1 Z'2) → (Q none x Z'2)))))))))))))))))))))))))))))) :
    V mX12_conditionsAt k n 0 [some (r_ a0), some (i_ v1), none, none, none] [] x Z Q :=
  V_aload_n dX12_conditionsAt_0 rfl (V_iload_n dX12_conditionsAt_1 rfl (Exists.elim h (fun g1 w1 => Exists.elim w1 (fun g2 w2 => Exists.elim w2 (fun g3 w3 => Exists.elim w3 (fun g4 w4 => Exists.elim w4 (fun g5 w5 => V_callV (k' := 0) (n' := 0) (t := 12) (q := (RX12, TX12, 46)) [i_ v1] [] okX12_belows o_a0.1 rfl rfl lm_12_312 liX12_belows lqX12_belows (Nat.le_of_ble_eq_true rfl) (Nat.le_of_ble_eq_true rfl) (Nat.le_of_ble_eq_true rfl) (cat_of rfl) (Nat.le_of_ble_eq_true rfl) (Nat.zero_le _) (Nat.zero_le _) rfl dX12_conditionsAt_2 (sp_X12_belows o_a0 w5.1 w5.2.1 w5.2.2.1 w5.2.2.2.1 (V_istore_n (lv' := [some (r_ a0), some (i_ v1), some (i_ (mDp g1 g3 g4 v1)), none, none]) dX12_conditionsAt_5 (Nat.le_of_ble_eq_true rfl) rfl (V_aload_n dX12_conditionsAt_6 rfl (V_iconst dX12_conditionsAt_7 (V_iload_n dX12_conditionsAt_8 rfl (Exists.elim w5.2.2.2.2 (fun g6 w6 => Exists.elim w6 (fun g7 w7 => V_callV (k' := 0) (n' := 0) (t := 12) (q := (RX12, TX12, 46)) [i_ 0, i_ v1] [] okX12_value o_a0.1 rfl rfl lm_12_230 liX12_value lqX12_value (Nat.le_of_ble_eq_true rfl) (Nat.le_of_ble_eq_true rfl) (Nat.le_of_ble_eq_true rfl) (cat_of rfl) (Nat.le_of_ble_eq_true rfl) (Nat.zero_le _) (Nat.zero_le _) rfl dX12_conditionsAt_9 (sp_X12_value o_a0 w7.1 w7.2.1 w7.2.2.1 w7.2.2.2.1 w7.2.2.2.2.1 (V_if_ne (tgt := 50) dX12_conditionsAt_12 rfl w7.2.2.2.2.2.1 (fun c1 => V_iconst dX12_conditionsAt_50 (V_istore_n (lv' := [some (r_ a0), some (i_ v1), some (i_ (mDp g1 g3 g4 v1)), some (i_ 1), none]) dX12_conditionsAt_51 (Nat.le_of_ble_eq_true rfl) rfl (V_msk [true, true, true, true, false] rfl (w7.2.2.2.2.2.2.1 c1)))) (fun c1 => V_iconst dX12_conditionsAt_15 (V_iload_n dX12_conditionsAt_16 rfl (V_imul dX12_conditionsAt_17 (V_aload_n dX12_conditionsAt_18 rfl (G_12_19 o_a0.1 o_a0.qR19 lf_12_39 dX12_conditionsAt_19 (V_bipush dX12_conditionsAt_22 rfl (V_iload_n dX12_conditionsAt_24 rfl (V_imul dX12_conditionsAt_25 (V_iald (t := 100) o_a0.qK19 (by decide) rfl (w7.2.2.2.2.2.2.2 c1).1 (w7.2.2.2.2.2.2.2 c1).2.1 (Nat.le_of_ble_eq_true rfl) dX12_conditionsAt_26 (V_isub dX12_conditionsAt_27 (V_istore_n (lv' := [some (r_ a0), some (i_ v1), some (i_ (mDp g1 g3 g4 v1)), some (i_ ((2 * (mDp g1 g3 g4 v1)) - (Z (a0 + 10) (13 * v1).toNat))), none]) dX12_conditionsAt_28 (Nat.le_of_ble_eq_true rfl) rfl (V_aload_n dX12_conditionsAt_29 rfl (V_iload_n dX12_conditionsAt_30 rfl (V_iload_n dX12_conditionsAt_31 rfl (V_iconst dX12_conditionsAt_32 (V_iadd dX12_conditionsAt_33 (V_iconst dX12_conditionsAt_34 (V_idiv dX12_conditionsAt_35 (w7.2.2.2.2.2.2.2 c1).2.2.1 (rg_c rfl) (by decide) (V_iconst dX12_conditionsAt_36 (Exists.elim (w7.2.2.2.2.2.2.2 c1).2.2.2 (fun g8 w8 => Exists.elim w8 (fun g9 w9 => Exists.elim w9 (fun g10 w10 => Exists.elim w10 (fun g11 w11 => Exists.elim w11 (fun g12 w12 => V_callV (k' := 0) (n' := 0) (t := 12) (q := (RX12, TX12, 46)) [i_ v1, i_ (Int.tdiv (((2 * (mDp g1 g3 g4 v1)) - (Z (a0 + 10) (13 * v1).toNat)) + 1) 2), i_ 1] [] okX12_wants o_a0.1 rfl rfl lm_12_318 liX12_wants lqX12_wants (Nat.le_of_ble_eq_true rfl) (Nat.le_of_ble_eq_true rfl) (Nat.le_of_ble_eq_true rfl) (cat_of rfl) (Nat.le_of_ble_eq_true rfl) (Nat.zero_le _) (Nat.zero_le _) rfl dX12_conditionsAt_37 (sp_X12_wants o_a0 w12.1 w12.2.1 w12.2.2.1 w12.2.2.2.1 w12.2.2.2.2.1 w12.2.2.2.2.2.1 w12.2.2.2.2.2.2.1 w12.2.2.2.2.2.2.2.1 (fun Z'1 p1 => V_aload_n dX12_conditionsAt_40 rfl (V_iload_n dX12_conditionsAt_41 rfl (V_iload_n dX12_conditionsAt_42 rfl (V_iconst dX12_conditionsAt_43 (V_idiv dX12_conditionsAt_44 (w12.2.2.2.2.2.2.2.2 Z'1 p1).1 (rg_c rfl) (by decide) (V_iconst dX12_conditionsAt_45 (Exists.elim (w12.2.2.2.2.2.2.2.2 Z'1 p1).2 (fun g13 w13 => Exists.elim w13 (fun g14 w14 => Exists.elim w14 (fun g15 w15 => Exists.elim w15 (fun g16 w16 => Exists.elim w16 (fun g17 w17 => V_callV (k' := 0) (n' := 0) (t := 12) (q := (RX12, TX12, 46)) [i_ v1, i_ (Int.tdiv ((2 * (mDp g1 g3 g4 v1)) - (Z (a0 + 10) (13 * v1).toNat)) 2), i_ 2] [] okX12_wants o_a0.1 rfl rfl lm_12_318 liX12_wants lqX12_wants (Nat.le_of_ble_eq_true rfl) (Nat.le_of_ble_eq_true rfl) (Nat.le_of_ble_eq_true rfl) (cat_of rfl) (Nat.le_of_ble_eq_true rfl) (Nat.zero_le _) (Nat.zero_le _) rfl dX12_conditionsAt_46 (sp_X12_wants o_a0 w17.1 w17.2.1 w17.2.2.1 w17.2.2.2.1 w17.2.2.2.2.1 w17.2.2.2.2.2.1 w17.2.2.2.2.2.2.1 w17.2.2.2.2.2.2.2.1 (fun Z'2 p2 => V_ret dX12_conditionsAt_49 rfl (w17.2.2.2.2.2.2.2.2 Z'2 p2))))))))))))))))))))))))))))))))))))))))))))))))))))))))))
set_option maxRecDepth 20000 in
theorem b_X12_conditionsAt_52 {k n : Nat} {x : Wx} {Z : Zt} {Q : Option Value → Wx → Zt → Prop} {a0 : Nat} {v1 : Int} {v2 : Int} {v3 : Int} (o_a0 : Is12 x a0)
    (h : Rg v3 ∧ Rg (Z a0 11) ∧ (((Z a0 11 ≤ v3) → (Q none x Z)) ∧ ((v3 < Z a0 11) → (Rg (v3 * v3) ∧ 0 < Z a0 11 ∧ Z a0 11 ≤ 13 ∧ (∃ g1 : Nat → Nat → Int, (∃ g2 : Int, ((IsP g2 ∧ Z a0 11 = g2) ∧ MS Z a0 g1 ∧ (0 ≤ (0 : Int) ∧ (0 : Int) < 27) ∧ (0 ≤ v1 ∧ v1 ≤ 13) ∧ InP g2 (g1 (0 : Int).toNat) ∧ (Rg ((v3 * v3) % Z a0 11) ∧ Rg (ev g2 (g1 (0 : Int).toNat) v1) ∧ ((((v3 * v3) % Z a0 11 = ev g2 (g1 (0 : Int).toNat) v1) → (0 ≤ (13 * v1) + v3 ∧ (13 * v1) + v3 < 169 ∧ (∃ g3 : Int, (∃ g4 : Nat → Int, (MF Z a0 g3 g4 ∧ (0 ≤ v1 ∧ v1 < g3) ∧ (0 < v3 ∧ v3 < g3) ∧ (0 ≤ (v2 - (Z (a0 + 10) ((13 * v1) + v3).toNat)) ∧ (v2 - (Z (a0 + 10) ((13 * v1) + v3).toNat)) ≤ 95) ∧ (∀ (Z'1 : Zt), ((∀ q : Nat, (q : Int) < (v2 - (Z (a0 + 10) ((13 * v1) + v3).toNat)) → Z'1 (a0 + 16) q = mSr g3 g4 v1 v3 q) ∧ Oth Z Z'1 (fun c => c = a0 + 16 ∨ c = a0 + 17)) → (∃ g5 : Int, (∃ g6 : Int, (∃ g7 : Nat, (∃ g8 : Nat → Int, (∃ g9 : Lq, ((IsP g5 ∧ Z'1 a0 11 = g5) ∧ (Z'1 a0 12 = (g7 : Int) ∧ g7 ≤ 2) ∧ (Z'1 a0 24 = g6 ∧ 0 ≤ g6 ∧ g6 ≤ 95) ∧ (MM Z'1 a0 g9.1 ∧ Z'1 a0 26 = (g9.2 : Int) ∧ ∀ q j : Nat, g9.2 ≤ q → g9.1 q j = 0) ∧ (0 ≤ v1 ∧ v1 < g5) ∧ (0 ≤ (v2 - (Z (a0 + 10) ((13 * v1) + v3).toNat)) ∧ (v2 - (Z (a0 + 10) ((13 * v1) + v3).toNat)) ≤ 95 ∧ (g9.2 : Int) + (v2 - (Z (a0 + 10) ((13 * v1) + v3).toNat)) ≤ 100) ∧ ((0 : Int) = 0 ∨ (0 : Int) = 1 ∨ (0 : Int) = 2) ∧ (InP g5 g8 ∧ ((0 : Int) = 0 → ∀ q : Nat, (q : Int) < (v2 - (Z (a0 + 10) ((13 * v1) + v3).toNat)) → Z'1 (a0 + 16) q = g8 q)) ∧ (∀ (Z'2 : Zt), (MM Z'2 a0 (wtM g5 g7 g6 v1 g8 (0 : Int) (v2 - (Z (a0 + 10) ((13 * v1) + v3).toNat)).toNat g9).1 ∧ Z'2 a0 26 = ((wtM g5 g7 g6 v1 g8 (0 : Int) (v2 - (Z (a0 + 10) ((13 * v1) + v3).toNat)).toNat g9).2 : Int) ∧ WF a0 Z'1 Z'2) → (V mX12_conditionsAt k n 110 [some (r_ a0), some (i_ v1), some (i_ v2), some (i_ v3), none] [] x Z'2 Q)))))))))))))) ∧ (((v3 * v3) % Z a0 11 ≠ ev g2 (g1 (0 : Int).toNat) v1) → (V mX12_conditionsAt k n 110 [some (r_ a0), some (i_ v1), some (i_ v2), some (i_ v3), none] [] x Z Q))))))))))) :
    V mX12_conditionsAt k n 52 [some (r_ a0), some (i_ v1), some (i_ v2), some (i_ v3), none] [] x Z Q :=
  V_iload_n dX12_conditionsAt_52 rfl (V_aload_n dX12_conditionsAt_53 rfl (G_12_11 o_a0.1 lf_12_179 dX12_conditionsAt_54 (V_icmp_ge (tgt := 116) dX12_conditionsAt_57 rfl h.1 h.2.1 (fun c1 => V_ret dX12_conditionsAt_116 rfl (h.2.2.1 c1)) (fun c1 => V_aload_n dX12_conditionsAt_60 rfl (V_iload_n dX12_conditionsAt_61 rfl (V_iload_n dX12_conditionsAt_62 rfl (V_imul dX12_conditionsAt_63 (V_callV (k' := 0) (n' := 0) (t := 12) (q := (RX12, TX12, 46)) [i_ (v3 * v3)] [] okX12_mod o_a0.1 rfl rfl lm_12_182 liX12_mod lqX12_mod (Nat.le_of_ble_eq_true rfl) (Nat.le_of_ble_eq_true rfl) (Nat.le_of_ble_eq_true rfl) (cat_of rfl) (Nat.le_of_ble_eq_true rfl) (Nat.zero_le _) (Nat.zero_le _) rfl dX12_conditionsAt_64 (sp_X12_mod o_a0 (h.2.2.2 c1).1 (h.2.2.2 c1).2.1 (h.2.2.2 c1).2.2.1 (V_aload_n dX12_conditionsAt_67 rfl (V_iconst dX12_conditionsAt_68 (V_iload_n dX12_conditionsAt_69 rfl (Exists.elim (h.2.2.2 c1).2.2.2 (fun g1 w1 => Exists.elim w1 (fun g2 w2 => V_callV (k' := 0) (n' := 0) (t := 12) (q := (RX12, TX12, 46)) [i_ 0, i_ v1] [i_ ((v3 * v3) % Z a0 11)] okX12_value o_a0.1 rfl rfl lm_12_230 liX12_value lqX12_value (Nat.le_of_ble_eq_true rfl) (Nat.le_of_ble_eq_true rfl) (Nat.le_of_ble_eq_true rfl) (cat_of rfl) (Nat.le_of_ble_eq_true rfl) (Nat.zero_le _) (Nat.zero_le _) rfl dX12_conditionsAt_70 (sp_X12_value o_a0 w2.1 w2.2.1 w2.2.2.1 w2.2.2.2.1 w2.2.2.2.2.1 (V_icmp_eq (tgt := 79) dX12_conditionsAt_73 rfl w2.2.2.2.2.2.1 w2.2.2.2.2.2.2.1 (fun c2 => V_iload_n dX12_conditionsAt_79 rfl (V_aload_n dX12_conditionsAt_80 rfl (G_12_19 o_a0.1 o_a0.qR19 lf_12_39 dX12_conditionsAt_81 (V_bipush dX12_conditionsAt_84 rfl (V_iload_n dX12_conditionsAt_86 rfl (V_imul dX12_conditionsAt_87 (V_iload_n dX12_conditionsAt_88 rfl (V_iadd dX12_conditionsAt_89 (V_iald (t := 100) o_a0.qK19 (by decide) rfl (w2.2.2.2.2.2.2.2.1 c2).1 (w2.2.2.2.2.2.2.2.1 c2).2.1 (Nat.le_of_ble_eq_true rfl) dX12_conditionsAt_90 (V_isub dX12_conditionsAt_91 (V_istore (lv' := [some (r_ a0), some (i_ v1), some (i_ v2), some (i_ v3), some (i_ (v2 - (Z (a0 + 10) ((13 * v1) + v3).toNat)))]) dX12_conditionsAt_92 (Nat.le_of_ble_eq_true rfl) rfl (V_aload_n dX12_conditionsAt_94 rfl (V_iload_n dX12_conditionsAt_95 rfl (V_iload_n dX12_conditionsAt_96 rfl (V_iload dX12_conditionsAt_97 rfl (Exists.elim (w2.2.2.2.2.2.2.2.1 c2).2.2 (fun g3 w3 => Exists.elim w3 (fun g4 w4 => V_callV (k' := 0) (n' := 0) (t := 12) (q := (RX12, TX12, 46)) [i_ v1, i_ v3, i_ (v2 - (Z (a0 + 10) ((13 * v1) + v3).toNat))] [] okX12_seriesAt o_a0.1 rfl rfl lm_12_321 liX12_seriesAt lqX12_seriesAt (Nat.le_of_ble_eq_true rfl) (Nat.le_of_ble_eq_true rfl) (Nat.le_of_ble_eq_true rfl) (cat_of rfl) (Nat.le_of_ble_eq_true rfl) (Nat.zero_le _) (Nat.zero_le _) rfl dX12_conditionsAt_99 (sp_X12_seriesAt o_a0 w4.1 w4.2.1 w4.2.2.1 w4.2.2.2.1 (fun Z'1 p1 => V_aload_n dX12_conditionsAt_102 rfl (V_iload_n dX12_conditionsAt_103 rfl (V_iload dX12_conditionsAt_104 rfl (V_iconst dX12_conditionsAt_106 (Exists.elim (w4.2.2.2.2 Z'1 p1) (fun g5 w5 => Exists.elim w5 (fun g6 w6 => Exists.elim w6 (fun g7 w7 => Exists.elim w7 (fun g8 w8 => Exists.elim w8 (fun g9 w9 => V_callV (k' := 0) (n' := 0) (t := 12) (q := (RX12, TX12, 46)) [i_ v1, i_ (v2 - (Z (a0 + 10) ((13 * v1) + v3).toNat)), i_ 0] [] okX12_wants o_a0.1 rfl rfl lm_12_318 liX12_wants lqX12_wants (Nat.le_of_ble_eq_true rfl) (Nat.le_of_ble_eq_true rfl) (Nat.le_of_ble_eq_true rfl) (cat_of rfl) (Nat.le_of_ble_eq_true rfl) (Nat.zero_le _) (Nat.zero_le _) rfl dX12_conditionsAt_107 (sp_X12_wants o_a0 w9.1 w9.2.1 w9.2.2.1 w9.2.2.2.1 w9.2.2.2.2.1 w9.2.2.2.2.2.1 w9.2.2.2.2.2.2.1 w9.2.2.2.2.2.2.2.1 (fun Z'2 p2 => V_msk [true, true, true, true, false] rfl (w9.2.2.2.2.2.2.2.2 Z'2 p2)))))))))))))))))))))))))))))))) (fun c2 => V_goto (tgt := 110) dX12_conditionsAt_76 rfl (V_msk [true, true, true, true, false] rfl (w2.2.2.2.2.2.2.2.2 c2))))))))))))))))))))
set_option maxRecDepth 20000 in
theorem b_X12_conditionsAt_110 {k n : Nat} {x : Wx} {Z : Zt} {Q : Option Value → Wx → Zt → Prop} {a0 : Nat} {v1 : Int} {v2 : Int} {v3 : Int} 
    (h : V mX12_conditionsAt k n 52 [some (r_ a0), some (i_ v1), some (i_ v2), some (i_ (v3 + 1)), none] [] x Z Q) :
    V mX12_conditionsAt k n 110 [some (r_ a0), some (i_ v1), some (i_ v2), some (i_ v3), none] [] x Z Q :=
  V_iinc (lv' := [some (r_ a0), some (i_ v1), some (i_ v2), some (i_ (v3 + 1)), none]) dX12_conditionsAt_110 rfl (Nat.le_of_ble_eq_true rfl) rfl (V_goto (tgt := 52) dX12_conditionsAt_113 rfl (V_msk [true, true, true, true, false] rfl h))
theorem dX12_swaps_0 : decode cX12_swaps 0 = .ok (.iconst 0, 1) := by decide +kernel
theorem dX12_swaps_1 : decode cX12_swaps 1 = .ok (.istore_n 3, 1) := by decide +kernel
theorem dX12_swaps_2 : decode cX12_swaps 2 = .ok (.iload_n 3, 1) := by decide +kernel
theorem dX12_swaps_3 : decode cX12_swaps 3 = .ok (.bipush 96, 2) := by decide +kernel
theorem dX12_swaps_5 : decode cX12_swaps 5 = .ok (.if_icmp .ge 57, 3) := by decide +kernel
theorem dX12_swaps_8 : decode cX12_swaps 8 = .ok (.aload_n 0, 1) := by decide +kernel
theorem dX12_swaps_9 : decode cX12_swaps 9 = .ok (.getfield 48, 3) := by decide +kernel
theorem dX12_swaps_12 : decode cX12_swaps 12 = .ok (.bipush 96, 2) := by decide +kernel
theorem dX12_swaps_14 : decode cX12_swaps 14 = .ok (.iload_n 1, 1) := by decide +kernel
theorem dX12_swaps_15 : decode cX12_swaps 15 = .ok (.imul, 1) := by decide +kernel
theorem dX12_swaps_16 : decode cX12_swaps 16 = .ok (.iload_n 3, 1) := by decide +kernel
theorem dX12_swaps_17 : decode cX12_swaps 17 = .ok (.iadd, 1) := by decide +kernel
theorem dX12_swaps_18 : decode cX12_swaps 18 = .ok (.iaload, 1) := by decide +kernel
theorem dX12_swaps_19 : decode cX12_swaps 19 = .ok (.istore 4, 2) := by decide +kernel
theorem dX12_swaps_21 : decode cX12_swaps 21 = .ok (.aload_n 0, 1) := by decide +kernel
theorem dX12_swaps_22 : decode cX12_swaps 22 = .ok (.getfield 48, 3) := by decide +kernel
theorem dX12_swaps_25 : decode cX12_swaps 25 = .ok (.bipush 96, 2) := by decide +kernel
theorem dX12_swaps_27 : decode cX12_swaps 27 = .ok (.iload_n 1, 1) := by decide +kernel
theorem dX12_swaps_28 : decode cX12_swaps 28 = .ok (.imul, 1) := by decide +kernel
theorem dX12_swaps_29 : decode cX12_swaps 29 = .ok (.iload_n 3, 1) := by decide +kernel
theorem dX12_swaps_30 : decode cX12_swaps 30 = .ok (.iadd, 1) := by decide +kernel
theorem dX12_swaps_31 : decode cX12_swaps 31 = .ok (.aload_n 0, 1) := by decide +kernel
theorem dX12_swaps_32 : decode cX12_swaps 32 = .ok (.getfield 48, 3) := by decide +kernel
theorem dX12_swaps_35 : decode cX12_swaps 35 = .ok (.bipush 96, 2) := by decide +kernel
theorem dX12_swaps_37 : decode cX12_swaps 37 = .ok (.iload_n 2, 1) := by decide +kernel
theorem dX12_swaps_38 : decode cX12_swaps 38 = .ok (.imul, 1) := by decide +kernel
theorem dX12_swaps_39 : decode cX12_swaps 39 = .ok (.iload_n 3, 1) := by decide +kernel
theorem dX12_swaps_40 : decode cX12_swaps 40 = .ok (.iadd, 1) := by decide +kernel
theorem dX12_swaps_41 : decode cX12_swaps 41 = .ok (.iaload, 1) := by decide +kernel
theorem dX12_swaps_42 : decode cX12_swaps 42 = .ok (.iastore, 1) := by decide +kernel
theorem dX12_swaps_43 : decode cX12_swaps 43 = .ok (.aload_n 0, 1) := by decide +kernel
theorem dX12_swaps_44 : decode cX12_swaps 44 = .ok (.getfield 48, 3) := by decide +kernel
theorem dX12_swaps_47 : decode cX12_swaps 47 = .ok (.bipush 96, 2) := by decide +kernel
theorem dX12_swaps_49 : decode cX12_swaps 49 = .ok (.iload_n 2, 1) := by decide +kernel
theorem dX12_swaps_50 : decode cX12_swaps 50 = .ok (.imul, 1) := by decide +kernel
theorem dX12_swaps_51 : decode cX12_swaps 51 = .ok (.iload_n 3, 1) := by decide +kernel
theorem dX12_swaps_52 : decode cX12_swaps 52 = .ok (.iadd, 1) := by decide +kernel
theorem dX12_swaps_53 : decode cX12_swaps 53 = .ok (.iload 4, 2) := by decide +kernel
theorem dX12_swaps_55 : decode cX12_swaps 55 = .ok (.iastore, 1) := by decide +kernel
theorem dX12_swaps_56 : decode cX12_swaps 56 = .ok (.iinc 3 1, 3) := by decide +kernel
theorem dX12_swaps_59 : decode cX12_swaps 59 = .ok (.goto (-57), 3) := by decide +kernel
theorem dX12_swaps_62 : decode cX12_swaps 62 = .ok (.return_, 1) := by decide +kernel
set_option maxRecDepth 20000 in
theorem b_X12_swaps_0 {k n : Nat} {x : Wx} {Z : Zt} {Q : Option Value → Wx → Zt → Prop} {a0 : Nat} {v1 : Int} {v2 : Int} 
    (h : V mX12_swaps k n 2 [some (r_ a0), some (i_ v1), some (i_ v2), some (i_ 0), none] [] x Z Q) :
    V mX12_swaps k n 0 [some (r_ a0), some (i_ v1), some (i_ v2), none, none] [] x Z Q :=
  V_iconst dX12_swaps_0 (V_istore_n (lv' := [some (r_ a0), some (i_ v1), some (i_ v2), some (i_ 0), none]) dX12_swaps_1 (Nat.le_of_ble_eq_true rfl) rfl (V_msk [true, true, true, true, false] rfl h))
set_option maxRecDepth 20000 in
theorem b_X12_swaps_2 {k n : Nat} {x : Wx} {Z : Zt} {Q : Option Value → Wx → Zt → Prop} {a0 : Nat} {v1 : Int} {v2 : Int} {v3 : Int} (o_a0 : Is12 x a0)
    (h : Rg v3 ∧ (((96 ≤ v3) → (Q none x Z)) ∧ ((v3 < 96) → (0 ≤ (96 * v1) + v3 ∧ (96 * v1) + v3 < 9600 ∧ (0 ≤ (96 * v2) + v3 ∧ (96 * v2) + v3 < 9600 ∧ (∀ Z1 : Zt, Z1 = up Z (a0 + 13) ((96 * v1) + v3).toNat (Z (a0 + 13) ((96 * v2) + v3).toNat) → (∀ Z2 : Zt, Z2 = up Z1 (a0 + 13) ((96 * v2) + v3).toNat (Z (a0 + 13) ((96 * v1) + v3).toNat) → (V mX12_swaps k n 2 [some (r_ a0), some (i_ v1), some (i_ v2), some (i_ (v3 + 1)), none] [] x Z2 Q)))))))) :
    V mX12_swaps k n 2 [some (r_ a0), some (i_ v1), some (i_ v2), some (i_ v3), none] [] x Z Q :=
  V_iload_n dX12_swaps_2 rfl (V_bipush dX12_swaps_3 rfl (V_icmp_ge (tgt := 62) dX12_swaps_5 rfl h.1 (rg_c rfl) (fun c1 => V_ret dX12_swaps_62 rfl (h.2.1 c1)) (fun c1 => V_aload_n dX12_swaps_8 rfl (G_12_25 o_a0.1 o_a0.qR25 lf_12_48 dX12_swaps_9 (V_bipush dX12_swaps_12 rfl (V_iload_n dX12_swaps_14 rfl (V_imul dX12_swaps_15 (V_iload_n dX12_swaps_16 rfl (V_iadd dX12_swaps_17 (V_iald (t := 100) o_a0.qK25 (by decide) rfl (h.2.2 c1).1 (h.2.2 c1).2.1 (Nat.le_of_ble_eq_true rfl) dX12_swaps_18 (V_istore (lv' := [some (r_ a0), some (i_ v1), some (i_ v2), some (i_ v3), some (i_ (Z (a0 + 13) ((96 * v1) + v3).toNat))]) dX12_swaps_19 (Nat.le_of_ble_eq_true rfl) rfl (V_aload_n dX12_swaps_21 rfl (G_12_25 o_a0.1 o_a0.qR25 lf_12_48 dX12_swaps_22 (V_bipush dX12_swaps_25 rfl (V_iload_n dX12_swaps_27 rfl (V_imul dX12_swaps_28 (V_iload_n dX12_swaps_29 rfl (V_iadd dX12_swaps_30 (V_aload_n dX12_swaps_31 rfl (G_12_25 o_a0.1 o_a0.qR25 lf_12_48 dX12_swaps_32 (V_bipush dX12_swaps_35 rfl (V_iload_n dX12_swaps_37 rfl (V_imul dX12_swaps_38 (V_iload_n dX12_swaps_39 rfl (V_iadd dX12_swaps_40 (V_iald (t := 100) o_a0.qK25 (by decide) rfl (h.2.2 c1).2.2.1 (h.2.2 c1).2.2.2.1 (Nat.le_of_ble_eq_true rfl) dX12_swaps_41 (V_iast (t := 100) o_a0.qK25 (by decide) (by decide) rfl (h.2.2 c1).1 (h.2.2 c1).2.1 (Nat.le_of_ble_eq_true rfl) dX12_swaps_42 (V_nmZ (fun Z1 eZ1 => V_aload_n dX12_swaps_43 rfl (G_12_25 o_a0.1 o_a0.qR25 lf_12_48 dX12_swaps_44 (V_bipush dX12_swaps_47 rfl (V_iload_n dX12_swaps_49 rfl (V_imul dX12_swaps_50 (V_iload_n dX12_swaps_51 rfl (V_iadd dX12_swaps_52 (V_iload dX12_swaps_53 rfl (V_iast (t := 100) o_a0.qK25 (by decide) (by decide) rfl (h.2.2 c1).2.2.1 (h.2.2 c1).2.2.2.1 (Nat.le_of_ble_eq_true rfl) dX12_swaps_55 (V_nmZ (fun Z2 eZ2 => V_iinc (lv' := [some (r_ a0), some (i_ v1), some (i_ v2), some (i_ (v3 + 1)), some (i_ (Z (a0 + 13) ((96 * v1) + v3).toNat))]) dX12_swaps_56 rfl (Nat.le_of_ble_eq_true rfl) rfl (V_goto (tgt := 2) dX12_swaps_59 rfl (V_msk [true, true, true, true, false] rfl (((h.2.2 c1).2.2.2.2 Z1 eZ1) Z2 eZ2))))))))))))))))))))))))))))))))))))))))))
theorem dX12_takesRow_0 : decode cX12_takesRow 0 = .ok (.iconst 0, 1) := by decide +kernel
theorem dX12_takesRow_1 : decode cX12_takesRow 1 = .ok (.istore 4, 2) := by decide +kernel
theorem dX12_takesRow_3 : decode cX12_takesRow 3 = .ok (.iload 4, 2) := by decide +kernel
theorem dX12_takesRow_5 : decode cX12_takesRow 5 = .ok (.bipush 96, 2) := by decide +kernel
theorem dX12_takesRow_7 : decode cX12_takesRow 7 = .ok (.if_icmp .ge 52, 3) := by decide +kernel
theorem dX12_takesRow_10 : decode cX12_takesRow 10 = .ok (.aload_n 0, 1) := by decide +kernel
theorem dX12_takesRow_11 : decode cX12_takesRow 11 = .ok (.getfield 48, 3) := by decide +kernel
theorem dX12_takesRow_14 : decode cX12_takesRow 14 = .ok (.bipush 96, 2) := by decide +kernel
theorem dX12_takesRow_16 : decode cX12_takesRow 16 = .ok (.iload_n 1, 1) := by decide +kernel
theorem dX12_takesRow_17 : decode cX12_takesRow 17 = .ok (.imul, 1) := by decide +kernel
theorem dX12_takesRow_18 : decode cX12_takesRow 18 = .ok (.iload 4, 2) := by decide +kernel
theorem dX12_takesRow_20 : decode cX12_takesRow 20 = .ok (.iadd, 1) := by decide +kernel
theorem dX12_takesRow_21 : decode cX12_takesRow 21 = .ok (.aload_n 0, 1) := by decide +kernel
theorem dX12_takesRow_22 : decode cX12_takesRow 22 = .ok (.aload_n 0, 1) := by decide +kernel
theorem dX12_takesRow_23 : decode cX12_takesRow 23 = .ok (.getfield 48, 3) := by decide +kernel
theorem dX12_takesRow_26 : decode cX12_takesRow 26 = .ok (.bipush 96, 2) := by decide +kernel
theorem dX12_takesRow_28 : decode cX12_takesRow 28 = .ok (.iload_n 1, 1) := by decide +kernel
theorem dX12_takesRow_29 : decode cX12_takesRow 29 = .ok (.imul, 1) := by decide +kernel
theorem dX12_takesRow_30 : decode cX12_takesRow 30 = .ok (.iload 4, 2) := by decide +kernel
theorem dX12_takesRow_32 : decode cX12_takesRow 32 = .ok (.iadd, 1) := by decide +kernel
theorem dX12_takesRow_33 : decode cX12_takesRow 33 = .ok (.iaload, 1) := by decide +kernel
theorem dX12_takesRow_34 : decode cX12_takesRow 34 = .ok (.iload_n 3, 1) := by decide +kernel
theorem dX12_takesRow_35 : decode cX12_takesRow 35 = .ok (.aload_n 0, 1) := by decide +kernel
theorem dX12_takesRow_36 : decode cX12_takesRow 36 = .ok (.getfield 48, 3) := by decide +kernel
theorem dX12_takesRow_39 : decode cX12_takesRow 39 = .ok (.bipush 96, 2) := by decide +kernel
theorem dX12_takesRow_41 : decode cX12_takesRow 41 = .ok (.iload_n 2, 1) := by decide +kernel
theorem dX12_takesRow_42 : decode cX12_takesRow 42 = .ok (.imul, 1) := by decide +kernel
theorem dX12_takesRow_43 : decode cX12_takesRow 43 = .ok (.iload 4, 2) := by decide +kernel
theorem dX12_takesRow_45 : decode cX12_takesRow 45 = .ok (.iadd, 1) := by decide +kernel
theorem dX12_takesRow_46 : decode cX12_takesRow 46 = .ok (.iaload, 1) := by decide +kernel
theorem dX12_takesRow_47 : decode cX12_takesRow 47 = .ok (.imul, 1) := by decide +kernel
theorem dX12_takesRow_48 : decode cX12_takesRow 48 = .ok (.isub, 1) := by decide +kernel
theorem dX12_takesRow_49 : decode cX12_takesRow 49 = .ok (.invokevirtual 182, 3) := by decide +kernel
theorem dX12_takesRow_52 : decode cX12_takesRow 52 = .ok (.iastore, 1) := by decide +kernel
theorem dX12_takesRow_53 : decode cX12_takesRow 53 = .ok (.iinc 4 1, 3) := by decide +kernel
theorem dX12_takesRow_56 : decode cX12_takesRow 56 = .ok (.goto (-53), 3) := by decide +kernel
theorem dX12_takesRow_59 : decode cX12_takesRow 59 = .ok (.return_, 1) := by decide +kernel
set_option maxRecDepth 20000 in
theorem b_X12_takesRow_0 {k n : Nat} {x : Wx} {Z : Zt} {Q : Option Value → Wx → Zt → Prop} {a0 : Nat} {v1 : Int} {v2 : Int} {v3 : Int} 
    (h : V mX12_takesRow k n 3 [some (r_ a0), some (i_ v1), some (i_ v2), some (i_ v3), some (i_ 0)] [] x Z Q) :
    V mX12_takesRow k n 0 [some (r_ a0), some (i_ v1), some (i_ v2), some (i_ v3), none] [] x Z Q :=
  V_iconst dX12_takesRow_0 (V_istore (lv' := [some (r_ a0), some (i_ v1), some (i_ v2), some (i_ v3), some (i_ 0)]) dX12_takesRow_1 (Nat.le_of_ble_eq_true rfl) rfl (V_msk [true, true, true, true, true] rfl h))
set_option maxRecDepth 20000 in
theorem b_X12_takesRow_3 {k n : Nat} {x : Wx} {Z : Zt} {Q : Option Value → Wx → Zt → Prop} {a0 : Nat} {v1 : Int} {v2 : Int} {v3 : Int} {v4 : Int} (o_a0 : Is12 x a0)
    (h : Rg v4 ∧ (((96 ≤ v4) → (Q none x Z)) ∧ ((v4 < 96) → (0 ≤ (96 * v1) + v4 ∧ (96 * v1) + v4 < 9600 ∧ (0 ≤ (96 * v2) + v4 ∧ (96 * v2) + v4 < 9600 ∧ (Rg ((Z (a0 + 13) ((96 * v1) + v4).toNat) - (v3 * (Z (a0 + 13) ((96 * v2) + v4).toNat))) ∧ 0 < Z a0 11 ∧ Z a0 11 ≤ 13 ∧ (∀ Z1 : Zt, Z1 = up Z (a0 + 13) ((96 * v1) + v4).toNat (((Z (a0 + 13) ((96 * v1) + v4).toNat) - (v3 * (Z (a0 + 13) ((96 * v2) + v4).toNat))) % Z a0 11) → (V mX12_takesRow k n 3 [some (r_ a0), some (i_ v1), some (i_ v2), some (i_ v3), some (i_ (v4 + 1))] [] x Z1 Q)))))))) :
    V mX12_takesRow k n 3 [some (r_ a0), some (i_ v1), some (i_ v2), some (i_ v3), some (i_ v4)] [] x Z Q :=
  V_iload dX12_takesRow_3 rfl (V_bipush dX12_takesRow_5 rfl (V_icmp_ge (tgt := 59) dX12_takesRow_7 rfl h.1 (rg_c rfl) (fun c1 => V_ret dX12_takesRow_59 rfl (h.2.1 c1)) (fun c1 => V_aload_n dX12_takesRow_10 rfl (G_12_25 o_a0.1 o_a0.qR25 lf_12_48 dX12_takesRow_11 (V_bipush dX12_takesRow_14 rfl (V_iload_n dX12_takesRow_16 rfl (V_imul dX12_takesRow_17 (V_iload dX12_takesRow_18 rfl (V_iadd dX12_takesRow_20 (V_aload_n dX12_takesRow_21 rfl (V_aload_n dX12_takesRow_22 rfl (G_12_25 o_a0.1 o_a0.qR25 lf_12_48 dX12_takesRow_23 (V_bipush dX12_takesRow_26 rfl (V_iload_n dX12_takesRow_28 rfl (V_imul dX12_takesRow_29 (V_iload dX12_takesRow_30 rfl (V_iadd dX12_takesRow_32 (V_iald (t := 100) o_a0.qK25 (by decide) rfl (h.2.2 c1).1 (h.2.2 c1).2.1 (Nat.le_of_ble_eq_true rfl) dX12_takesRow_33 (V_iload_n dX12_takesRow_34 rfl (V_aload_n dX12_takesRow_35 rfl (G_12_25 o_a0.1 o_a0.qR25 lf_12_48 dX12_takesRow_36 (V_bipush dX12_takesRow_39 rfl (V_iload_n dX12_takesRow_41 rfl (V_imul dX12_takesRow_42 (V_iload dX12_takesRow_43 rfl (V_iadd dX12_takesRow_45 (V_iald (t := 100) o_a0.qK25 (by decide) rfl (h.2.2 c1).2.2.1 (h.2.2 c1).2.2.2.1 (Nat.le_of_ble_eq_true rfl) dX12_takesRow_46 (V_imul dX12_takesRow_47 (V_isub dX12_takesRow_48 (V_callV (k' := 0) (n' := 0) (t := 12) (q := (RX12, TX12, 46)) [i_ ((Z (a0 + 13) ((96 * v1) + v4).toNat) - (v3 * (Z (a0 + 13) ((96 * v2) + v4).toNat)))] [i_ ((96 * v1) + v4), r_ (a0 + 13)] okX12_mod o_a0.1 rfl rfl lm_12_182 liX12_mod lqX12_mod (Nat.le_of_ble_eq_true rfl) (Nat.le_of_ble_eq_true rfl) (Nat.le_of_ble_eq_true rfl) (cat_of rfl) (Nat.le_of_ble_eq_true rfl) (Nat.zero_le _) (Nat.zero_le _) rfl dX12_takesRow_49 (sp_X12_mod o_a0 (h.2.2 c1).2.2.2.2.1 (h.2.2 c1).2.2.2.2.2.1 (h.2.2 c1).2.2.2.2.2.2.1 (V_iast (t := 100) o_a0.qK25 (by decide) (by decide) rfl (h.2.2 c1).1 (h.2.2 c1).2.1 (Nat.le_of_ble_eq_true rfl) dX12_takesRow_52 (V_nmZ (fun Z1 eZ1 => V_iinc (lv' := [some (r_ a0), some (i_ v1), some (i_ v2), some (i_ v3), some (i_ (v4 + 1))]) dX12_takesRow_53 rfl (Nat.le_of_ble_eq_true rfl) rfl (V_goto (tgt := 3) dX12_takesRow_56 rfl (V_msk [true, true, true, true, true] rfl ((h.2.2 c1).2.2.2.2.2.2.2 Z1 eZ1)))))))))))))))))))))))))))))))))))))
