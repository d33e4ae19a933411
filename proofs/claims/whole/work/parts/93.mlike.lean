/-! ===== the reference: like ===== -/
theorem scC_z {p : Int} {F M : Nat → Int} {A B : Int} (m : Nat) (c : Int) (h : (scC p 0 F M A B m c 0).2.isNone = true) : (scC p 0 F M A B m c 0).1 = 0 := by
  have h1 := scC_n (p := p) (F := F) (M := M) (A := A) (B := B) (Int.le_refl 0) m c 0 (Int.le_refl 0) (Option.isNone_iff_eq_none.mp h)
  have h2 := scC_rg (p := p) (k := 0) (F := F) (M := M) (A := A) (B := B) m c 0
  omega
theorem scB_z {p : Int} (hp : IsP p) {F G : Nat → Int} {A : Int} (m : Nat) (c : Int) (h : (scB p 0 F G A m c 0).2.isNone = true) : (scB p 0 F G A m c 0).1 = 0 := by
  have h1 := scB_n (p := p) (F := F) (G := G) (A := A) (Int.le_refl 0) m c 0 (Int.le_refl 0) (Option.isNone_iff_eq_none.mp h)
  have h2 := scB_rg (k := 0) hp (F := F) (G := G) (A := A) m c 0
  omega
theorem isS_of {α : Type} {o : Option α} (h : o.isNone = false) : ∃ q, o = some q := by
  cases o with
  | none => cases h
  | some q => exact ⟨q, rfl⟩
theorem sp_X12_like {k n : Nat} {x : Wx} {Z : Zt} {Q : Option Value → Wx → Zt → Prop} {b : Nat} {v w : Int} {S : Ab} (hI : MI x Z b S) (hV : AbV S) (hv : Rg v) (hw : Rg w) (h : RAm b x Z Q (aLike S.nw v w)) : V mX12_like k n 0 [some (r_ b), some (i_ v), some (i_ w), none, none, none, none] [] x Z Q := by
  unfold aLike at h
  obtain ⟨o, hT, _⟩ := id hI
  have hct := hV.1.2.2.2.2.1
  have e0 : Z (b + 1) (0 : Int).toNat = S.nw.ct 0 := hT.1.1
  have no : ∀ Z' : Zt, Mq b Z Z' → ¬ (((0 ≤ v ∧ v < S.nw.ct 0) ∧ (0 ≤ w ∧ w < S.nw.ct 0)) ∧ (S.nw.rw w.toNat 0 = S.nw.p v.toNat ∧ S.nw.rw w.toNat 1 = pd (S.nw.F v.toNat)) ∧ 0 < (sch (S.nw.p v.toNat) 0 (S.nw.F v.toNat) (S.nw.F w.toNat)).1) → Q (some (i_ 0)) x Z' := fun Z' h1 h2 => by rw [if_neg h2] at h; exact h Z' h1
  have bad : ¬ (((0 ≤ v ∧ v < S.nw.ct 0) ∧ (0 ≤ w ∧ w < S.nw.ct 0)) ∧ (S.nw.rw w.toNat 0 = S.nw.p v.toNat ∧ S.nw.rw w.toNat 1 = pd (S.nw.F v.toNat)) ∧ 0 < (sch (S.nw.p v.toNat) 0 (S.nw.F v.toNat) (S.nw.F w.toNat)).1) → V mX12_like k n 68 [none, none, none, none, none, none, none] [] x Z Q := fun h2 => b_X12_like_68 (no Z Mq.rf h2)
  refine b_X12_like_0 o ?_
  rw [e0]
  refine ⟨by decide, hv, ⟨by omega, by omega⟩, fun r1 h1 => ⟨⟨by omega, by omega⟩, fun c1 => bad (by omega), fun c1 => ⟨hw, fun r2 h2 => ⟨⟨by omega, by omega⟩, fun c2 => bad (by omega), fun c2 => ?_⟩⟩⟩⟩
  obtain ⟨d, hd⟩ : ∃ d : Nat, v = (d : Int) := ⟨v.toNat, by omega⟩
  obtain ⟨f, hf⟩ : ∃ f : Nat, w = (f : Int) := ⟨w.toNat, by omega⟩
  subst hd
  subst hf
  rw [Int.toNat_natCast, Int.toNat_natCast] at h no bad
  obtain ⟨t1, t2, t3⟩ := hT.2.2.2.1 d (by omega)
  obtain ⟨u1, u2, u3⟩ := hT.2.2.2.1 f (by omega)
  obtain ⟨CF1, pd1, R1⟩ := Td.crv hV.1 (q := d) (by omega)
  obtain ⟨CF2, pd2, R2⟩ := Td.crv hV.1 (q := f) (by omega)
  have epl : ∀ q : Nat, plcO (0 : Int) (q : Int) = 610 + 8 * (q : Int) := fun _ => rfl
  have a1 : ∀ q : Nat, (plcO (0 : Int) (q : Int)).toNat = 610 + 8 * q := fun q => by rw [epl]; omega
  have a2 : ∀ q : Nat, (plcO (0 : Int) (q : Int) + 1).toNat = 611 + 8 * q := fun q => by rw [epl]; omega
  have hp1 := R1.1.rg
  have hp2 := R2.1.rg
  have hd1 := R1.2.1
  have hd2 := R2.2.1
  rw [a1 d, a1 f, a2 d, a2 f, t1, u1, t2, u2]
  refine ⟨rg_z, by rw [epl]; omega, by rw [epl]; omega, by rw [epl]; omega, by rw [epl]; omega, ⟨by omega, by omega⟩, ⟨by omega, by omega⟩, fun c3 => bad (fun e => c3 e.2.1.1.symm), fun c3 => ⟨by rw [epl]; omega, by rw [epl]; omega, by rw [epl]; omega, by rw [epl]; omega, ⟨by omega, by omega⟩, ⟨by omega, by omega⟩, fun c4 => ?_, fun c4 => bad (fun e => c4 (by have := e.2.1.2; omega))⟩⟩
  refine ⟨_, S.nw, hT, hV.1, MS.any, hw, fun Z1 P1 r3 ht1 => ?_⟩
  have hr3 : r3 ≠ 0 := fun e => (ht1.no e).1 (by omega)
  obtain ⟨_, _, hq1⟩ := ht1.yes hV.1 hr3
  obtain ⟨_, _, _, m1, p10, _⟩ : r3 = 1 ∧ _ := by
    rcases ht1 with e | e
    · exact e
    · exact absurd e.1 hr3
  rw [Int.toNat_natCast] at p10
  refine ⟨P1, m1, by decide, by decide, fun Z2 hz2 => ?_⟩
  have q2 : Mq b Z Z2 := hq1.tr (Mq.o4 hz2.2)
  have hz21 : MS Z2 b (updP P1 24 (P1 0)) := hz2.1
  have hT2 : MT (Z2 (b + 1)) S.nw := by rw [q2.1]; exact hT
  refine ⟨_, S.nw, hT2, hV.1, hz21, hv, fun Z3 P3 r4 ht3 => ?_⟩
  have hr4 : r4 ≠ 0 := fun e => (ht3.no e).1 (by omega)
  obtain ⟨_, ⟨hMC, _, _⟩, hq3⟩ := ht3.yes hV.1 hr4
  obtain ⟨_, _, _, m3, p30, p3q, _⟩ : r4 = 1 ∧ _ := by
    rcases ht3 with e | e
    · exact e
    · exact absurd e.1 hr4
  rw [Int.toNat_natCast] at p30 hMC
  have p324 : P3 24 = S.nw.F f := by rw [p3q 24 (by decide), updP_s, p10]
  have qq : Mq b Z Z3 := q2.tr hq3
  obtain ⟨p, hp'⟩ : ∃ p : Int, S.nw.p d = p := ⟨_, rfl⟩
  obtain ⟨F, hF'⟩ : ∃ F : Nat → Int, S.nw.F d = F := ⟨_, rfl⟩
  obtain ⟨G, hG'⟩ : ∃ G : Nat → Int, S.nw.F f = G := ⟨_, rfl⟩
  have c3' : S.nw.rw f 0 = p := by rw [← hp']; exact c3.symm
  rw [hp', hF'] at hMC CF1
  have CF2' : CF p (gen G) G := by
    rw [hG'] at CF2
    rw [← c3']; exact CF2
  rw [hF'] at p30
  rw [hG'] at p324
  rw [hp', hF', hG'] at h no
  have hp := CF1.1
  have hpr := hp.rg
  have b11 : Z3 b 11 = p := hMC.1.1
  rw [hF'] at pd1
  have hcnd : (((0 ≤ (d : Int) ∧ (d : Int) < S.nw.ct 0) ∧ (0 ≤ (f : Int) ∧ (f : Int) < S.nw.ct 0)) ∧ (S.nw.rw f 0 = p ∧ S.nw.rw f 1 = pd F)) := ⟨by omega, c3', by rw [pd1]; omega⟩
  generalize hR : sch p 0 F G = R at h no
  have fin : ∀ (u : Int) (Z4 : Zt), Mq b Z Z4 → u = (if R.2.isNone = true then 0 else 1) → Q (some (i_ u)) x Z4 := by
    intro u Z4 hq hu
    cases hn : R.2.isNone with
    | true =>
      rw [if_pos hn] at hu
      rw [hu]
      refine no Z4 hq (fun e => ?_)
      have h1 := scA_n (p := p) (F := F) (G := G) (Int.le_refl 0) (p.toNat - 1) 1 0 (Int.le_refl 0)
      have e2 : scA p 0 F G (p.toNat - 1) 1 0 = R := hR
      rw [e2] at h1
      have := h1 (Option.isNone_iff_eq_none.mp hn)
      have := e.2.2
      omega
    | false =>
      rw [if_neg (by rw [hn]; decide)] at hu
      rw [hu]
      obtain ⟨q, hq2⟩ := isS_of hn
      have h1 := scA_s (p := p) (k := 0) (F := F) (G := G) (q := q) (p.toNat - 1) 1 0
      have e2 : scA p 0 F G (p.toNat - 1) 1 0 = R := hR
      rw [e2] at h1
      have h2 := h1 hq2
      rw [if_pos ⟨hcnd.1, hcnd.2, by omega⟩] at h
      exact h Z4 hq
  have lpC : ∀ (m : Nat) (A B e u : Int) (Z4 : Zt) (P4 : Nat → Nat → Int), 1 ≤ e → e + m = p → (u = 0 ∨ u = 1) → MS Z4 b P4 → Mq b Z Z4 → Z4 b 11 = p → P4 0 = F → P4 22 = mvd p A B G → (∀ u' : Int, u' = (if u = 1 then 1 else if (scC p 0 F (mvd p A B G) A B m e 0).2.isNone = true then 0 else 1) → V mX12_like k n 106 [some (r_ b), none, none, some (i_ u'), some (i_ A), some (i_ (B + 1)), none] [] x Z4 Q) → V mX12_like k n 130 [some (r_ b), none, none, some (i_ u), some (i_ A), some (i_ B), some (i_ e)] [] x Z4 Q := by
    intro m
    induction m with
    | zero =>
      intro A B e u Z4 P4 he hm hu m4 hq eP e0 e22 hn
      refine b_X12_like_130 o ?_
      rw [eP]
      refine ⟨⟨by omega, by omega⟩, ⟨by omega, by omega⟩, fun _ => hn u ?_, fun c2 => by omega⟩
      rcases hu with rfl | rfl
      · rfl
      · rfl
    | succ m ih =>
      intro A B e u Z4 P4 he hm hu m4 hq eP e0 e22 hn
      have q := mul13 (a := e) (b := e) ⟨by omega, by omega⟩ ⟨by omega, by omega⟩
      unfold scC at hn
      refine b_X12_like_130 o ?_
      rw [eP]
      refine ⟨⟨by omega, by omega⟩, ⟨by omega, by omega⟩, fun c2 => by omega, fun _ => ⟨⟨by omega, by omega⟩, fun c2 => b_X12_like_162 (b_X12_like_167 (ih A B (e + 1) 1 Z4 P4 (by omega) (by omega) (Or.inr rfl) m4 hq eP e0 e22 (fun u' hu' => hn u' ?_))), fun c2 => ⟨⟨by omega, by omega⟩, by omega, by omega, P4, p, ⟨hp, rfl⟩, m4, by decide, emr _ (by omega), ?_, ?_⟩⟩⟩
      · rw [if_pos rfl] at hu'
        rw [if_pos (by omega)]; exact hu'
      · show InP p (P4 22) ∧ InP p (P4 0)
        rw [e22, e0]; exact ⟨mvd_in (by omega) _ _ _, CF1.2.1⟩
      · have t22 : (22 : Int).toNat = 22 := rfl
        have t0 : (0 : Int).toNat = 0 := rfl
        rw [t22, t0, e22, e0]
        rw [if_neg (show ¬ u = 1 by omega)] at hn
        refine ⟨bI_rg _, fun c3 => b_X12_like_167 (ih A B (e + 1) 0 Z4 P4 (by omega) (by omega) (Or.inl rfl) m4 hq eP e0 e22 (fun u' hu' => hn u' ?_)), fun c3 => b_X12_like_162 (b_X12_like_167 (ih A B (e + 1) 1 Z4 P4 (by omega) (by omega) (Or.inr rfl) m4 hq eP e0 e22 (fun u' hu' => hn u' ?_)))⟩
        · rw [if_neg (by decide)] at hu'
          rw [if_neg (show ¬ isMv p (e * e % p) F (mvd p A B G) 6 0 = true by rw [bI_0 c3]; decide)]; exact hu'
        · rw [if_pos rfl] at hu'
          rw [if_pos (bI_1 c3), if_neg (show ¬ ((0 : Int) + 1 ≤ 0 ∨ (0 : Int) < 0) by omega), hu']; rfl
  have lpB : ∀ (m : Nat) (A B u : Int) (Z4 : Zt) (P4 : Nat → Nat → Int), (1 ≤ A ∧ A < p) → 0 ≤ B → B + m = p → (u = 0 ∨ u = 1) → MS Z4 b P4 → Mq b Z Z4 → Z4 b 11 = p → P4 0 = F → P4 24 = G → (∀ (u' : Int) (Z5 : Zt) (P5 : Nat → Nat → Int), u' = (if u = 1 then 1 else if (scB p 0 F G A m B 0).2.isNone = true then 0 else 1) → MS Z5 b P5 → Mq b Z Z5 → Z5 b 11 = p → P5 0 = F → P5 24 = G → V mX12_like k n 94 [some (r_ b), none, none, some (i_ u'), some (i_ (A + 1)), none, none] [] x Z5 Q) → V mX12_like k n 106 [some (r_ b), none, none, some (i_ u), some (i_ A), some (i_ B), none] [] x Z4 Q := by
    intro m
    induction m with
    | zero =>
      intro A B u Z4 P4 hA hB hm hu m4 hq eP e0 e24 hn
      refine b_X12_like_106 o ?_
      rw [eP]
      refine ⟨⟨by omega, by omega⟩, ⟨by omega, by omega⟩, fun _ => hn u Z4 P4 ?_ m4 hq eP e0 e24, fun c2 => by omega⟩
      rcases hu with rfl | rfl
      · rfl
      · rfl
    | succ m ih =>
      intro A B u Z4 P4 hA hB hm hu m4 hq eP e0 e24 hn
      unfold scB at hn
      refine b_X12_like_106 o ?_
      rw [eP]
      refine ⟨⟨by omega, by omega⟩, ⟨by omega, by omega⟩, fun c2 => by omega, fun _ => ⟨P4, p, ⟨hp, rfl⟩, m4, by decide, by omega, ?_, fun Z5 P5 hz5 => ?_⟩⟩
      · show InP p (P4 24) ∧ Fin (P4 24)
        rw [e24]; exact ⟨CF2'.2.1, CF2'.2.2.1⟩
      obtain ⟨m5, o5, e5, k5⟩ := hz5
      have e5 : P5 22 = mvd p A B (P4 24) := e5
      rw [e24] at e5
      have q5 : Mq b Z Z5 := hq.tr (Mq.o4 o5)
      have eP5 : Z5 b 11 = p := by rw [o5 b (by show ¬ (b = b + 4); omega)]; exact eP
      have e05 : P5 0 = F := by rw [k5 0 (by decide) (by decide)]; exact e0
      have e245 : P5 24 = G := by rw [k5 24 (by decide) (by decide)]; exact e24
      refine lpC (p.toNat - 1) A B 1 u Z5 P5 (by omega) (by omega) hu m5 q5 eP5 e05 e5 (fun u' hu' => ?_)
      have hu01 : u' = 0 ∨ u' = 1 := by
        rw [hu']; split
        · exact Or.inr rfl
        · split
          · exact Or.inl rfl
          · exact Or.inr rfl
      refine ih A (B + 1) u' Z5 P5 hA (by omega) (by omega) hu01 m5 q5 eP5 e05 e245 (fun u'' Z6 P6 hu'' => hn u'' Z6 P6 ?_)
      rw [hu'']
      rcases hu with rfl | rfl
      · have z1 : ¬ (0 : Int) = 1 := by decide
        rw [if_neg z1] at hu'
        cases hN : (scC p 0 F (mvd p A B G) A B (p.toNat - 1) 1 0).2.isNone with
        | true =>
          have hu0 : u' = 0 := by rw [hu', hN]; rfl
          rw [hu0, if_neg z1, if_neg z1, if_pos rfl, scC_z _ _ hN]
        | false =>
          have hu1 : u' = 1 := by rw [hu', hN]; rfl
          rw [hu1, if_pos rfl, if_neg z1, if_neg (show ¬ false = true by decide), hN]; rfl
      · have hu1 : u' = 1 := by rw [hu', if_pos rfl]
        rw [hu1, if_pos rfl, if_pos rfl]
  have lpA : ∀ (m : Nat) (A u : Int) (Z4 : Zt) (P4 : Nat → Nat → Int), 1 ≤ A → A + m = p → (u = 0 ∨ u = 1) → MS Z4 b P4 → Mq b Z Z4 → Z4 b 11 = p → P4 0 = F → P4 24 = G → (if u = 1 then 1 else if (scA p 0 F G m A 0).2.isNone = true then 0 else 1) = (if R.2.isNone = true then 0 else (1 : Int)) → V mX12_like k n 94 [some (r_ b), none, none, some (i_ u), some (i_ A), none, none] [] x Z4 Q := by
    intro m
    induction m with
    | zero =>
      intro A u Z4 P4 hA hm hu m4 hq eP e0 e24 hs
      refine b_X12_like_94 o ?_
      rw [eP]
      refine ⟨⟨by omega, by omega⟩, ⟨by omega, by omega⟩, fun _ => ⟨hu, fin u Z4 hq ?_⟩, fun c2 => by omega⟩
      rw [← hs]
      rcases hu with rfl | rfl
      · rfl
      · rfl
    | succ m ih =>
      intro A u Z4 P4 hA hm hu m4 hq eP e0 e24 hs
      unfold scA at hs
      refine b_X12_like_94 o ?_
      rw [eP]
      refine ⟨⟨by omega, by omega⟩, ⟨by omega, by omega⟩, fun c2 => by omega, fun _ => ?_⟩
      refine lpB p.toNat A 0 u Z4 P4 (by omega) (by omega) (by omega) hu m4 hq eP e0 e24 (fun u' Z5 P5 hu' g1 g2 g3 g4 g5 => ?_)
      have hu01 : u' = 0 ∨ u' = 1 := by
        rw [hu']; split
        · exact Or.inr rfl
        · split
          · exact Or.inl rfl
          · exact Or.inr rfl
      refine ih (A + 1) u' Z5 P5 (by omega) (by omega) hu01 g1 g2 g3 g4 g5 ?_
      rw [← hs]
      rcases hu with rfl | rfl
      · have z1 : ¬ (0 : Int) = 1 := by decide
        rw [if_neg z1] at hu'
        cases hN : (scB p 0 F G A p.toNat 0 0).2.isNone with
        | true =>
          have hu0 : u' = 0 := by rw [hu', hN]; rfl
          rw [hu0, if_neg z1, if_neg z1, if_pos rfl, scB_z hp _ _ hN]
        | false =>
          have hu1 : u' = 1 := by rw [hu', hN]; rfl
          rw [hu1, if_pos rfl, if_neg z1, if_neg (show ¬ false = true by decide), hN]; rfl
      · have hu1 : u' = 1 := by rw [hu', if_pos rfl]
        rw [hu1, if_pos rfl, if_pos rfl]
  exact lpA (p.toNat - 1) 1 0 Z3 P3 (by omega) (by omega) (Or.inl rfl) m3 qq b11 p30 p324 (by rw [if_neg (by decide)]; have e2 : scA p 0 F G (p.toNat - 1) 1 0 = R := hR; rw [e2])
