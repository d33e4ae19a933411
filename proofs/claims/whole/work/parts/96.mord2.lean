/-! ===== the reference: order, norm ===== -/
def mFar (F A B : Nat → Int) : Int := if pd A < 0 ∨ 2 * pd A < (if pd B < 0 then 0 else 2 * pd B + 2 * gen F + 1) then -(if pd B < 0 then 0 else 2 * pd B + 2 * gen F + 1) else (-2) * pd A
def mBo (p X : Int) (A B : Nat → Int) : Int := if mOo p X A < mOo p X B then mOo p X A else mOo p X B
def mOr1 (p : Int) (F A B : Nat → Int) (X y : Int) (fx : Bool) : Int := if fx = true then (if 2 * mOo p X A < 2 * mOo p X B + 1 then 2 * mOo p X A else 2 * mOo p X B + 1) else if (ev p (ofQ p X (mBo p X A B).toNat A).2 X + ev p (ofQ p X (mBo p X A B).toNat B).2 X * y) % p = 0 then mOo p X (mNr p F A B) - 2 * mBo p X A B + mBo p X A B else mBo p X A B
def mOrd (p : Int) (F A B : Nat → Int) (v : Int) : Int := if v + 1 = (pall p F).length then mFar F A B else mOr1 p F A B ((pall p F).getD v.toNat (0, 0)).1 ((pall p F).getD v.toNat (0, 0)).2 (fxd (pall p F) v)
/-- A and B are fit to be measured -/
def ABk (p : Int) (F A B : Nat → Int) : Prop := (InP p A ∧ Fin A) ∧ (InP p B ∧ Fin B) ∧ Fin (mNr p F A B)
theorem ofQ_ok {p X : Int} (hp : 1 < p) : ∀ (m : Nat) (f : Nat → Int), InP p f → Fin f → InP p (ofQ p X m f).2 ∧ Fin (ofQ p X m f).2
  | 0, f, h1, h2 => ⟨h1, h2⟩
  | m + 1, f, h1, h2 => by
    unfold ofQ
    split
    · exact ofQ_ok hp m _ (dvQ_in (by omega)) (dvQ_fin (by rw [lin_pd]; decide))
    · exact ⟨h1, h2⟩
theorem sp_X12_orderAt {k n : Nat} {x : Wx} {Z : Zt} {Q : Option Value → Wx → Zt → Prop} {b : Nat} {v : Int} (o : Is12 x b) {p : Int} {F A B : Nat → Int} (hF : MF Z b p F) (hA : MFn Z b p F A B) (hk : ABk p F A B) (hv : 0 ≤ v ∧ v < (pall p F).length) (h : ∀ Z' : Zt, (MF Z' b p F ∧ Oth Z Z' (O4 b)) → Q (some (i_ (mOrd p F A B v))) x Z') : V mX12_orderAt k n 0 [some (r_ b), some (i_ v), none, none, none, none, none, none, none, none, none] [] x Z Q := by
  obtain ⟨P, mP, p0, p24, p25⟩ := hA
  obtain ⟨⟨iA, fA⟩, ⟨iB, fB⟩, fN⟩ := hk
  have hp := hF.2.1.1
  have hpr := hp.rg
  have iF := hF.2.1.2.1
  have fF := hF.2.1.2.2.1
  have b11 := hF.1.1.1
  have b12 := hF.1.1.2
  have b15 := hF.1.2.1
  have hpt := hF.1.2.2
  have hl := pall_len hp F
  have hg := gen_rg F
  have t24 : (24 : Int).toNat = 24 := rfl
  have t25 : (25 : Int).toNat = 25 := rfl
  have t26 : (26 : Int).toNat = 26 := rfl
  have q1 := pd_ge A
  have q2 := pd_lt A
  have q3 := pd_ge B
  have q4 := pd_lt B
  have mfo : ∀ (Z1 : Zt) (P1 : Nat → Nat → Int), Oth Z Z1 (O4 b) → MS Z1 b P1 → P1 0 = F → MF Z1 b p F := fun Z1 P1 h1 h2 h3 => ⟨hF.1.o4 h1, hF.2.1, P1, h2, h3⟩
  obtain ⟨w, hw⟩ : ∃ w : Nat, v = (w : Int) := ⟨v.toNat, by omega⟩
  subst hw
  unfold mOrd mOr1 mFar at h
  rw [Int.toNat_natCast] at h
  refine b_X12_orderAt_0 o ⟨P, mP, by decide, ?_, P, mP, by decide, ?_, ⟨by omega, by omega⟩, by rw [b15]; exact ⟨by omega, by omega⟩, fun c => ?_, fun c => ?_⟩
  · rw [t24, p24]; intro i hi; have := iA i; exact ⟨by omega, by omega⟩
  · rw [t25, p25]; intro i hi; have := iB i; exact ⟨by omega, by omega⟩
  · rw [b15] at c
    rw [if_neg (by omega)] at h
    obtain ⟨X, hX⟩ : ∃ X : Int, ((pall p F).getD w (0, 0)).1 = X := ⟨_, rfl⟩
    obtain ⟨y, hy⟩ : ∃ y : Int, ((pall p F).getD w (0, 0)).2 = y := ⟨_, rfl⟩
    obtain ⟨g1, g2⟩ := hpt w (by omega)
    have hget := pall_get (p := p) (F := F) (k := w) (by omega) (by omega)
    rw [hX] at g1 hget h
    rw [hy] at g2 hget h
    rw [Int.toNat_natCast, g1, t24, t25]
    have rA := mOo_rg p X A
    have rB := mOo_rg p X B
    refine ⟨by omega, by omega, P, p, ⟨hp, b11⟩, mP, by decide, hget.1, by rw [p24]; exact ⟨iA, fA⟩, fun Z1 P1 hz1 => ?_⟩
    obtain ⟨m1, o1, k1⟩ := hz1
    have b1 : Z1 b 11 = p := by rw [o1 b (by show ¬ (b = b + 4); omega)]; exact b11
    refine ⟨P1, p, ⟨hp, b1⟩, m1, by decide, hget.1, by rw [k1 25 (by decide) (by decide) (by decide) (by decide), p25]; exact ⟨iB, fB⟩, fun Z2 P2 hz2 => ?_⟩
    obtain ⟨m2, o2', k2⟩ := hz2
    have o2 := o1.tr o2'
    have kk2 : ∀ q : Nat, q ≠ 22 → q ≠ 16 → q ≠ 17 → q ≠ 23 → P2 q = P q := fun q a1 a2 a3 a4 => by rw [k2 q a1 a2 a3 a4, k1 q a1 a2 a3 a4]
    have MF2 := mfo Z2 P2 o2 m2 (by rw [kk2 0 (by decide) (by decide) (by decide) (by decide)]; exact p0)
    rw [p24, k1 25 (by decide) (by decide) (by decide) (by decide), p25]
    refine ⟨p, F, hp, MF2.1.2, by omega, bI_rg _, fun cf => ?_, fun cf => ?_⟩
    · rw [bI_0 cf] at h
      rw [if_neg (show ¬ false = true by decide)] at h
      have go : ∀ t : Int, t = mBo p X A B → V mX12_orderAt k n 146 [some (r_ b), some (i_ (w : Int)), none, none, some (i_ X), none, none, none, none, none, none] [i_ t] x Z2 Q := by
        intro t ht
        rw [← ht] at h
        have ht90 : 0 ≤ t ∧ t ≤ 90 := by rw [ht]; unfold mBo; split <;> omega
        have b2 : Z2 b 11 = p := MF2.1.1.1
        have e0 : P2 0 = F := by rw [kk2 0 (by decide) (by decide) (by decide) (by decide)]; exact p0
        have e24 : P2 24 = A := by rw [kk2 24 (by decide) (by decide) (by decide) (by decide)]; exact p24
        have e25 : P2 25 = B := by rw [kk2 25 (by decide) (by decide) (by decide) (by decide)]; exact p25
        refine b_X12_orderAt_146 o ⟨P2, p, ⟨hp, b2⟩, m2, by rw [e0, e24, e25]; exact ⟨⟨iF, fF⟩, ⟨iA, fA⟩, ⟨iB, fB⟩⟩, fun Z3 P3 hz3 => ?_⟩
        obtain ⟨m3, o3', e26, k3⟩ := hz3
        rw [e0, e24, e25] at e26
        have o3 := o2.tr o3'
        have eb : ∀ Z' : Zt, Oth Z Z' (O4 b) → Z' b 11 = p := fun Z' ho => by rw [ho b (by show ¬ (b = b + 4); omega)]; exact b11
        rw [t24, t25, t26]
        refine ⟨P3, p, ⟨hp, eb Z3 o3⟩, m3, by decide, hget.1, by rw [e26]; exact ⟨padd_in (by omega), fN⟩, fun Z4 P4 hz4 => ?_⟩
        obtain ⟨m4, o4', k4⟩ := hz4
        have o4 := o3.tr o4'
        have e244 : P4 24 = A := by rw [k4 24 (by decide) (by decide) (by decide) (by decide), k3 24 (by decide) (by decide) (by decide)]; exact e24
        have e254 : P4 25 = B := by rw [k4 25 (by decide) (by decide) (by decide) (by decide), k3 25 (by decide) (by decide) (by decide)]; exact e25
        have e04 : P4 0 = F := by rw [k4 0 (by decide) (by decide) (by decide) (by decide), k3 0 (by decide) (by decide) (by decide)]; exact e0
        refine ⟨P4, p, ⟨hp, eb Z4 o4⟩, m4, by decide, hget.1, ht90, by rw [e244]; exact ⟨iA, fA⟩, fun Z5 P5 hz5 => ?_⟩
        obtain ⟨m5, o5', e245, k5⟩ := hz5
        rw [e244] at e245
        have o5 := o4.tr o5'
        have e255 : P5 25 = B := by rw [k5 25 (by decide) (by decide) (by decide) (by decide)]; exact e254
        refine ⟨P5, p, ⟨hp, eb Z5 o5⟩, m5, by decide, hget.1, ht90, by rw [e255]; exact ⟨iB, fB⟩, fun Z6 P6 hz6 i1 _ => ?_⟩
        obtain ⟨m6, o6', e256, k6⟩ := hz6
        rw [e255] at e256
        have o6 := o5.tr o6'
        have e246 : P6 24 = (ofQ p X t.toNat A).2 := by rw [k6 24 (by decide) (by decide) (by decide) (by decide)]; exact e245
        have e06 : P6 0 = F := by rw [k6 0 (by decide) (by decide) (by decide) (by decide), k5 0 (by decide) (by decide) (by decide) (by decide)]; exact e04
        have MF6 := mfo Z6 P6 o6 m6 e06
        have okA := ofQ_ok (X := X) (show 1 < p by omega) t.toNat A iA fA
        have okB := ofQ_ok (X := X) (show 1 < p by omega) t.toNat B iB fB
        have y6 : Z6 (b + 6) w = y := by rw [o6 _ (by show ¬ (b + 6 = b + 4); omega)]; exact g2
        have v1 := ev_rg (p := p) (by omega) (ofQ p X t.toNat A).2 X
        have v2 := ev_rg (p := p) (by omega) (ofQ p X t.toNat B).2 X
        have v3 := mul13 (a := ev p (ofQ p X t.toNat B).2 X) (b := y) ⟨v2.1, by omega⟩ ⟨hget.2.1.1, by omega⟩
        have v4 := emr (ev p (ofQ p X t.toNat A).2 X + ev p (ofQ p X t.toNat B).2 X * y) (show 0 < p by omega)
        refine ⟨P6, p, ⟨hp, eb Z6 o6⟩, m6, by decide, by omega, by rw [e246]; exact okA.1, P6, p, ⟨hp, eb Z6 o6⟩, m6, by decide, by omega, by rw [e256]; exact okB.1, by omega, by omega, ?_⟩
        rw [e246, e256, Int.toNat_natCast, y6, eb Z6 o6, e26]
        refine ⟨⟨by omega, by omega⟩, by omega, by omega, ⟨by omega, by omega⟩, fun ci => b_X12_orderAt_221 ⟨rg_z, fun _ => ?_, fun cc => absurd rfl cc⟩, fun ci => b_X12_orderAt_221 ⟨⟨by decide, by decide⟩, fun cc => absurd cc (by decide), fun _ => ?_⟩⟩
        · rw [if_neg ci] at h; exact h Z6 ⟨MF6, o6⟩
        · rw [if_pos ci] at h; exact h Z6 ⟨MF6, o6⟩
      refine ⟨⟨by omega, by omega⟩, ⟨by omega, by omega⟩, fun cm => go _ ?_, fun cm => go _ ?_⟩
      · unfold mBo; rw [if_neg (by omega)]
      · unfold mBo; rw [if_pos cm]
    · rw [bI_1 cf] at h
      rw [if_pos rfl] at h
      refine ⟨⟨by omega, by omega⟩, ⟨by omega, by omega⟩, fun cm => ?_, fun cm => ?_⟩
      · rw [if_neg (by omega)] at h; exact h Z2 ⟨MF2, o2⟩
      · rw [if_pos cm] at h; exact h Z2 ⟨MF2, o2⟩
  · rw [b15] at c
    rw [if_pos (by omega)] at h
    rw [t24, t25, p24, p25, b12]
    have go : ∀ t : Int, t = (if pd B < 0 then 0 else 2 * pd B + 2 * gen F + 1) → V mX12_orderAt k n 44 [none, none, some (i_ (pd A)), none, none, none, none, none, none, none, none] [i_ t] x Z Q := fun t ht => by
      rw [← ht] at h
      have htr : 0 ≤ t ∧ t ≤ 100 := by rw [ht]; split <;> omega
      refine b_X12_orderAt_44 ⟨⟨by omega, by omega⟩, fun cA => b_X12_orderAt_58 ?_, fun cA => ⟨⟨by omega, by omega⟩, ⟨by omega, by omega⟩, fun cm => ?_, fun cm => b_X12_orderAt_58 ?_⟩⟩
      · rw [if_pos (Or.inl cA)] at h; exact h Z ⟨hF, Oth.rf⟩
      · rw [if_neg (by omega)] at h; exact h Z ⟨hF, Oth.rf⟩
      · rw [if_pos (Or.inr cm)] at h; exact h Z ⟨hF, Oth.rf⟩
    refine ⟨⟨by omega, by omega⟩, fun cB => go _ ?_, fun cB => go _ ?_⟩
    · rw [if_neg (by omega)]
    · rw [if_pos cB]
theorem dX12_areBoth_0 : decode cX12_areBoth 0 = .ok (.aload_n 0, 1) := by decide +kernel
theorem dX12_areBoth_1 : decode cX12_areBoth 1 = .ok (.iload_n 1, 1) := by decide +kernel
theorem dX12_areBoth_2 : decode cX12_areBoth 2 = .ok (.invokevirtual 249, 3) := by decide +kernel
theorem dX12_areBoth_5 : decode cX12_areBoth 5 = .ok (.ifCond .eq 24, 3) := by decide +kernel
theorem dX12_areBoth_8 : decode cX12_areBoth 8 = .ok (.aload_n 0, 1) := by decide +kernel
theorem dX12_areBoth_9 : decode cX12_areBoth 9 = .ok (.iconst 2, 1) := by decide +kernel
theorem dX12_areBoth_10 : decode cX12_areBoth 10 = .ok (.iload_n 2, 1) := by decide +kernel
theorem dX12_areBoth_11 : decode cX12_areBoth 11 = .ok (.invokevirtual 156, 3) := by decide +kernel
theorem dX12_areBoth_14 : decode cX12_areBoth 14 = .ok (.ifCond .eq 15, 3) := by decide +kernel
theorem dX12_areBoth_17 : decode cX12_areBoth 17 = .ok (.aload_n 0, 1) := by decide +kernel
theorem dX12_areBoth_18 : decode cX12_areBoth 18 = .ok (.iload_n 2, 1) := by decide +kernel
theorem dX12_areBoth_19 : decode cX12_areBoth 19 = .ok (.invokevirtual 285, 3) := by decide +kernel
theorem dX12_areBoth_22 : decode cX12_areBoth 22 = .ok (.ifCond .eq 7, 3) := by decide +kernel
theorem dX12_areBoth_25 : decode cX12_areBoth 25 = .ok (.iconst 1, 1) := by decide +kernel
theorem dX12_areBoth_26 : decode cX12_areBoth 26 = .ok (.goto 4, 3) := by decide +kernel
theorem dX12_areBoth_29 : decode cX12_areBoth 29 = .ok (.iconst 0, 1) := by decide +kernel
theorem dX12_areBoth_30 : decode cX12_areBoth 30 = .ok (.ireturn, 1) := by decide +kernel
set_option maxRecDepth 20000 in
theorem b_X12_areBoth_0 {k n : Nat} {x : Wx} {Z : Zt} {Q : Option Value → Wx → Zt → Prop} {a0 : Nat} {v1 : Int} {v2 : Int} (o_a0 : Is12 x a0)
    (h : ∃ g1 : Nat → Nat → Int, (∃ g2 : Td, (MT (Z (a0 + 1)) g2 ∧ TdV g2 ∧ MS Z a0 g1 ∧ Rg v1 ∧ (∀ (Z'1 : Zt) (P'1 : Nat → Nat → Int) (r1 : Int), (TkC a0 g2 v1 Z Z'1 g1 P'1 r1) → (Rg r1 ∧ (((r1 = 0) → (V mX12_areBoth k n 29 [none, none, none] [] x Z'1 Q)) ∧ ((r1 ≠ 0) → ((0 ≤ (2 : Int) ∧ (2 : Int) < 3) ∧ Rg v2 ∧ Rg (Z'1 (a0 + 1) (2 : Int).toNat - 1) ∧ (∀ (r2 : Int), (((r2 = 1 ∧ 0 ≤ v2 ∧ v2 < Z'1 (a0 + 1) (2 : Int).toNat) ∨ (r2 = 0 ∧ (v2 < 0 ∨ Z'1 (a0 + 1) (2 : Int).toNat ≤ v2)))) → (Rg r2 ∧ (((r2 = 0) → (V mX12_areBoth k n 29 [none, none, none] [] x Z'1 Q)) ∧ ((r2 ≠ 0) → (∃ g3 : Td, (∃ g4 : Int, (∃ g5 : Nat → Int, (MT (Z'1 (a0 + 1)) g3 ∧ TdV g3 ∧ MF Z'1 a0 g4 g5 ∧ (0 ≤ v2 ∧ v2 < g3.ct 2) ∧ (∀ (Z'2 : Zt) (r3 : Int), (((r3 = 1 ∧ (0 ≤ pd (fnA g4 (g3.rw (5 + v2.toNat))) ∨ 0 ≤ pd (fnB g4 (g3.rw (5 + v2.toNat))))) ∨ (r3 = 0 ∧ ¬ (0 ≤ pd (fnA g4 (g3.rw (5 + v2.toNat))) ∨ 0 ≤ pd (fnB g4 (g3.rw (5 + v2.toNat)))))) ∧ MF Z'2 a0 g4 g5 ∧ MFn Z'2 a0 g4 g5 (fnA g4 (g3.rw (5 + v2.toNat))) (fnB g4 (g3.rw (5 + v2.toNat))) ∧ Oth Z'1 Z'2 (O4 a0)) → (Rg r3 ∧ (((r3 = 0) → (V mX12_areBoth k n 29 [none, none, none] [] x Z'2 Q)) ∧ ((r3 ≠ 0) → (Q (some (i_ 1)) x Z'2))))))))))))))))))))) :
    V mX12_areBoth k n 0 [some (r_ a0), some (i_ v1), some (i_ v2)] [] x Z Q :=
  V_aload_n dX12_areBoth_0 rfl (V_iload_n dX12_areBoth_1 rfl (Exists.elim h (fun g1 w1 => Exists.elim w1 (fun g2 w2 => V_callV (k' := 0) (n' := 0) (t := 12) (q := (RX12, TX12, 46)) [i_ v1] [] okX12_takesCurve o_a0.1 rfl rfl lm_12_249 liX12_takesCurve lqX12_takesCurve (Nat.le_of_ble_eq_true rfl) (Nat.le_of_ble_eq_true rfl) (Nat.le_of_ble_eq_true rfl) (cat_of rfl) (Nat.le_of_ble_eq_true rfl) (Nat.zero_le _) (Nat.zero_le _) rfl dX12_areBoth_2 (w_X12_takesCurve o_a0 w2.1 w2.2.1 w2.2.2.1 w2.2.2.2.1 (fun Z'1 P'1 r1 p1 => V_if_eq (tgt := 29) dX12_areBoth_5 rfl (w2.2.2.2.2 Z'1 P'1 r1 p1).1 (fun c1 => V_msk [false, false, false] rfl ((w2.2.2.2.2 Z'1 P'1 r1 p1).2.1 c1)) (fun c1 => V_aload_n dX12_areBoth_8 rfl (V_iconst dX12_areBoth_9 (V_iload_n dX12_areBoth_10 rfl (V_callV (k' := 0) (n' := 0) (t := 12) (q := (RX12, TX12, 46)) [i_ 2, i_ v2] [] okX12_isOf o_a0.1 rfl rfl lm_12_156 liX12_isOf lqX12_isOf (Nat.le_of_ble_eq_true rfl) (Nat.le_of_ble_eq_true rfl) (Nat.le_of_ble_eq_true rfl) (cat_of rfl) (Nat.le_of_ble_eq_true rfl) (Nat.zero_le _) (Nat.zero_le _) rfl dX12_areBoth_11 (sp_X12_isOf o_a0 ((w2.2.2.2.2 Z'1 P'1 r1 p1).2.2 c1).1 ((w2.2.2.2.2 Z'1 P'1 r1 p1).2.2 c1).2.1 ((w2.2.2.2.2 Z'1 P'1 r1 p1).2.2 c1).2.2.1 (fun r2 p2 => V_if_eq (tgt := 29) dX12_areBoth_14 rfl (((w2.2.2.2.2 Z'1 P'1 r1 p1).2.2 c1).2.2.2 r2 p2).1 (fun c2 => V_msk [false, false, false] rfl ((((w2.2.2.2.2 Z'1 P'1 r1 p1).2.2 c1).2.2.2 r2 p2).2.1 c2)) (fun c2 => V_aload_n dX12_areBoth_17 rfl (V_iload_n dX12_areBoth_18 rfl (Exists.elim ((((w2.2.2.2.2 Z'1 P'1 r1 p1).2.2 c1).2.2.2 r2 p2).2.2 c2) (fun g3 w3 => Exists.elim w3 (fun g4 w4 => Exists.elim w4 (fun g5 w5 => V_callV (k' := 0) (n' := 0) (t := 12) (q := (RX12, TX12, 46)) [i_ v2] [] okX12_takesFunction o_a0.1 rfl rfl lm_12_285 liX12_takesFunction lqX12_takesFunction (Nat.le_of_ble_eq_true rfl) (Nat.le_of_ble_eq_true rfl) (Nat.le_of_ble_eq_true rfl) (cat_of rfl) (Nat.le_of_ble_eq_true rfl) (Nat.zero_le _) (Nat.zero_le _) rfl dX12_areBoth_19 (sp_X12_takesFunction o_a0 w5.1 w5.2.1 w5.2.2.1 w5.2.2.2.1 (fun Z'2 r3 p3 => V_if_eq (tgt := 29) dX12_areBoth_22 rfl (w5.2.2.2.2 Z'2 r3 p3).1 (fun c3 => V_msk [false, false, false] rfl ((w5.2.2.2.2 Z'2 r3 p3).2.1 c3)) (fun c3 => V_iconst dX12_areBoth_25 (V_goto (tgt := 30) dX12_areBoth_26 rfl (V_iret (ty := .boolean) dX12_areBoth_30 rfl rfl ((w5.2.2.2.2 Z'2 r3 p3).2.2 c3))))))))))))))))))))))))
set_option maxRecDepth 20000 in
theorem b_X12_areBoth_29 {k n : Nat} {x : Wx} {Z : Zt} {Q : Option Value → Wx → Zt → Prop}  
    (h : Q (some (i_ 0)) x Z) :
    V mX12_areBoth k n 29 [none, none, none] [] x Z Q :=
  V_iconst dX12_areBoth_29 (V_iret (ty := .boolean) dX12_areBoth_30 rfl rfl h)
/-- the function is not nothing there -/
def mesM (T : Td) (c f : Int) : Prop := ((0 ≤ c ∧ c < T.ct 0) ∧ (0 ≤ f ∧ f < T.ct 2)) ∧ (0 ≤ pd (T.A c.toNat f.toNat) ∨ 0 ≤ pd (T.B c.toNat f.toNat))
def ABt (b : Nat) (T : Td) (c f : Int) (Z Z' : Zt) (r : Int) : Prop := ((r = 1 ∧ mesM T c f ∧ MF Z' b (T.p c.toNat) (T.F c.toNat) ∧ MFn Z' b (T.p c.toNat) (T.F c.toNat) (T.A c.toNat f.toNat) (T.B c.toNat f.toNat)) ∨ (r = 0 ∧ ¬ mesM T c f)) ∧ Mq b Z Z'
theorem sp_X12_areBoth {k n : Nat} {x : Wx} {Z : Zt} {Q : Option Value → Wx → Zt → Prop} {b : Nat} {c f : Int} (o : Is12 x b) {T : Td} (hT : MT (Z (b + 1)) T) (hV : TdV T) (hc : Rg c) (hf : Rg f) (h : ∀ (Z' : Zt) (r : Int), ABt b T c f Z Z' r → Q (some (i_ r)) x Z') : V mX12_areBoth k n 0 [some (r_ b), some (i_ c), some (i_ f)] [] x Z Q := by
  have hct := hV.2.2.2.2.2.2.1
  refine b_X12_areBoth_0 o ⟨_, T, hT, hV, MS.any, hc, fun Z1 P1 r1 ht => ⟨ht.rg.1, fun c1 => b_X12_areBoth_29 (h Z1 0 ⟨Or.inr ⟨rfl, fun e => (ht.no c1).1 e.1.1⟩, (ht.no c1).2⟩), fun c1 => ?_⟩⟩
  obtain ⟨hcc, hF, hq⟩ := ht.yes hV c1
  have e2 : Z1 (b + 1) (2 : Int).toNat = T.ct 2 := by rw [hq.1]; exact hT.1.2.2
  rw [e2]
  refine ⟨by decide, hf, ⟨by omega, by omega⟩, fun r2 h2 => ⟨⟨by omega, by omega⟩, fun c2 => b_X12_areBoth_29 (h Z1 0 ⟨Or.inr ⟨rfl, fun e => by have := e.1.2; omega⟩, hq⟩), fun c2 => ?_⟩⟩
  have hff : 0 ≤ f ∧ f < T.ct 2 := by omega
  refine ⟨T, _, _, by rw [hq.1]; exact hT, hV, hF, hff, fun Z2 r3 hz => ?_⟩
  obtain ⟨z1, z2, z3, z4⟩ := hz
  have q2 := hq.tr (Mq.o4 z4)
  rcases z1 with ⟨e3, e4⟩ | ⟨e3, e4⟩
  · subst e3
    exact ⟨⟨by decide, by decide⟩, fun c3 => absurd c3 (by decide), fun _ => h Z2 1 ⟨Or.inl ⟨rfl, ⟨⟨hcc, hff⟩, e4⟩, z2, z3⟩, q2⟩⟩
  · subst e3
    exact ⟨rg_z, fun _ => b_X12_areBoth_29 (h Z2 0 ⟨Or.inr ⟨rfl, fun e => e4 e.2⟩, q2⟩), fun c3 => absurd rfl c3⟩
theorem ab_ok {T : Td} (hV : TdV T) {c f : Nat} (hc : (c : Int) < T.ct 0) : ABk (T.p c) (T.F c) (T.A c f) (T.B c f) := by
  obtain ⟨hCF, hpd, _⟩ := Td.crv hV hc
  have hp := hCF.1.rg
  have hpl : pd (T.F c) ≤ 5 := by have := (hV.2.2.2.2.2.2.2.1 c hc).2.1; omega
  have iA : InP (T.p c) (T.A c f) := fun i => by unfold Td.A fnA ptak; split; exact emr _ (by omega); omega
  have iB : InP (T.p c) (T.B c f) := fun i => by unfold Td.B fnB ptak; split; exact emr _ (by omega); omega
  have dA : pd (T.A c f) ≤ 4 := pd_le (by decide) (fun i hi => by unfold Td.A fnA ptak; rw [if_neg (by omega)])
  have dB : pd (T.B c f) ≤ 2 := pd_le (by decide) (fun i hi => by unfold Td.B fnB ptak; rw [if_neg (by omega)])
  have fA : Fin (T.A c f) := fun i hi => by unfold Td.A fnA ptak; rw [if_neg (by omega)]
  have fB : Fin (T.B c f) := fun i hi => by unfold Td.B fnB ptak; rw [if_neg (by omega)]
  have fBB : Fin (pmul (T.p c) (T.B c f) (T.B c f)) := pmul_fin fB fB (by omega)
  have dBB := pd_pmul (p := T.p c) fB fB
  have fF : Fin (T.F c) := hCF.2.2.1
  exact ⟨⟨iA, fA⟩, ⟨iB, fB⟩, padd_fin (pmul_fin fA fA (by omega)) (pmul_fin fF fBB (by omega))⟩
theorem dX12_order_0 : decode cX12_order 0 = .ok (.aload_n 0, 1) := by decide +kernel
theorem dX12_order_1 : decode cX12_order 1 = .ok (.iload_n 1, 1) := by decide +kernel
theorem dX12_order_2 : decode cX12_order 2 = .ok (.iload_n 2, 1) := by decide +kernel
theorem dX12_order_3 : decode cX12_order 3 = .ok (.invokevirtual 288, 3) := by decide +kernel
theorem dX12_order_6 : decode cX12_order 6 = .ok (.ifCond .eq 19, 3) := by decide +kernel
theorem dX12_order_9 : decode cX12_order 9 = .ok (.aload_n 0, 1) := by decide +kernel
theorem dX12_order_10 : decode cX12_order 10 = .ok (.iload_n 3, 1) := by decide +kernel
theorem dX12_order_11 : decode cX12_order 11 = .ok (.invokevirtual 273, 3) := by decide +kernel
theorem dX12_order_14 : decode cX12_order 14 = .ok (.ifCond .eq 11, 3) := by decide +kernel
theorem dX12_order_17 : decode cX12_order 17 = .ok (.aload_n 0, 1) := by decide +kernel
theorem dX12_order_18 : decode cX12_order 18 = .ok (.iload_n 3, 1) := by decide +kernel
theorem dX12_order_19 : decode cX12_order 19 = .ok (.invokevirtual 291, 3) := by decide +kernel
theorem dX12_order_22 : decode cX12_order 22 = .ok (.goto 5, 3) := by decide +kernel
theorem dX12_order_25 : decode cX12_order 25 = .ok (.bipush (-100), 2) := by decide +kernel
theorem dX12_order_27 : decode cX12_order 27 = .ok (.ireturn, 1) := by decide +kernel
set_option maxRecDepth 20000 in
theorem b_X12_order_0 {k n : Nat} {x : Wx} {Z : Zt} {Q : Option Value → Wx → Zt → Prop} {a0 : Nat} {v1 : Int} {v2 : Int} {v3 : Int} (o_a0 : Is12 x a0)
    (h : ∃ g1 : Td, (MT (Z (a0 + 1)) g1 ∧ TdV g1 ∧ Rg v1 ∧ Rg v2 ∧ (∀ (Z'1 : Zt) (r1 : Int), (ABt a0 g1 v1 v2 Z Z'1 r1) → (Rg r1 ∧ (((r1 = 0) → (V mX12_order k n 25 [none, none, none, none] [] x Z'1 Q)) ∧ ((r1 ≠ 0) → (∃ g2 : List (Int × Int), (Z'1 a0 15 = g2.length ∧ g2.length ≤ 27 ∧ Rg v3 ∧ (∀ (r2 : Int), (((r2 = 1 ∧ 0 ≤ v3 ∧ v3 < g2.length) ∨ (r2 = 0 ∧ ¬ (0 ≤ v3 ∧ v3 < g2.length)))) → (Rg r2 ∧ (((r2 = 0) → (V mX12_order k n 25 [none, none, none, none] [] x Z'1 Q)) ∧ ((r2 ≠ 0) → (∃ g3 : Int, (∃ g4 : Nat → Int, (∃ g5 : Nat → Int, (∃ g6 : Nat → Int, (MF Z'1 a0 g3 g4 ∧ MFn Z'1 a0 g3 g4 g5 g6 ∧ ABk g3 g4 g5 g6 ∧ (0 ≤ v3 ∧ v3 < (pall g3 g4).length) ∧ (∀ (Z'2 : Zt), (MF Z'2 a0 g3 g4 ∧ Oth Z'1 Z'2 (O4 a0)) → (Q (some (i_ (mOrd g3 g4 g5 g6 v3))) x Z'2))))))))))))))))))) :
    V mX12_order k n 0 [some (r_ a0), some (i_ v1), some (i_ v2), some (i_ v3)] [] x Z Q :=
  V_aload_n dX12_order_0 rfl (V_iload_n dX12_order_1 rfl (V_iload_n dX12_order_2 rfl (Exists.elim h (fun g1 w1 => V_callV (k' := 0) (n' := 0) (t := 12) (q := (RX12, TX12, 46)) [i_ v1, i_ v2] [] okX12_areBoth o_a0.1 rfl rfl lm_12_288 liX12_areBoth lqX12_areBoth (Nat.le_of_ble_eq_true rfl) (Nat.le_of_ble_eq_true rfl) (Nat.le_of_ble_eq_true rfl) (cat_of rfl) (Nat.le_of_ble_eq_true rfl) (Nat.zero_le _) (Nat.zero_le _) rfl dX12_order_3 (sp_X12_areBoth o_a0 w1.1 w1.2.1 w1.2.2.1 w1.2.2.2.1 (fun Z'1 r1 p1 => V_if_eq (tgt := 25) dX12_order_6 rfl (w1.2.2.2.2 Z'1 r1 p1).1 (fun c1 => V_msk [false, false, false, false] rfl ((w1.2.2.2.2 Z'1 r1 p1).2.1 c1)) (fun c1 => V_aload_n dX12_order_9 rfl (V_iload_n dX12_order_10 rfl (Exists.elim ((w1.2.2.2.2 Z'1 r1 p1).2.2 c1) (fun g2 w2 => V_callV (k' := 0) (n' := 0) (t := 12) (q := (RX12, TX12, 46)) [i_ v3] [] okX12_isPoint o_a0.1 rfl rfl lm_12_273 liX12_isPoint lqX12_isPoint (Nat.le_of_ble_eq_true rfl) (Nat.le_of_ble_eq_true rfl) (Nat.le_of_ble_eq_true rfl) (cat_of rfl) (Nat.le_of_ble_eq_true rfl) (Nat.zero_le _) (Nat.zero_le _) rfl dX12_order_11 (sp_X12_isPoint o_a0 w2.1 w2.2.1 w2.2.2.1 (fun r2 p2 => V_if_eq (tgt := 25) dX12_order_14 rfl (w2.2.2.2 r2 p2).1 (fun c2 => V_msk [false, false, false, false] rfl ((w2.2.2.2 r2 p2).2.1 c2)) (fun c2 => V_aload_n dX12_order_17 rfl (V_iload_n dX12_order_18 rfl (Exists.elim ((w2.2.2.2 r2 p2).2.2 c2) (fun g3 w3 => Exists.elim w3 (fun g4 w4 => Exists.elim w4 (fun g5 w5 => Exists.elim w5 (fun g6 w6 => V_callV (k' := 0) (n' := 0) (t := 12) (q := (RX12, TX12, 46)) [i_ v3] [] okX12_orderAt o_a0.1 rfl rfl lm_12_291 liX12_orderAt lqX12_orderAt (Nat.le_of_ble_eq_true rfl) (Nat.le_of_ble_eq_true rfl) (Nat.le_of_ble_eq_true rfl) (cat_of rfl) (Nat.le_of_ble_eq_true rfl) (Nat.zero_le _) (Nat.zero_le _) rfl dX12_order_19 (sp_X12_orderAt o_a0 w6.1 w6.2.1 w6.2.2.1 w6.2.2.2.1 (fun Z'2 p3 => V_goto (tgt := 27) dX12_order_22 rfl (V_iret (ty := .int) dX12_order_27 rfl rfl (w6.2.2.2.2 Z'2 p3)))))))))))))))))))))))
set_option maxRecDepth 20000 in
theorem b_X12_order_25 {k n : Nat} {x : Wx} {Z : Zt} {Q : Option Value → Wx → Zt → Prop}  
    (h : Q (some (i_ (-100))) x Z) :
    V mX12_order k n 25 [none, none, none, none] [] x Z Q :=
  V_bipush dX12_order_25 rfl (V_iret (ty := .int) dX12_order_27 rfl rfl h)
theorem dX12_norm_0 : decode cX12_norm 0 = .ok (.aload_n 0, 1) := by decide +kernel
theorem dX12_norm_1 : decode cX12_norm 1 = .ok (.iload_n 1, 1) := by decide +kernel
theorem dX12_norm_2 : decode cX12_norm 2 = .ok (.iload_n 2, 1) := by decide +kernel
theorem dX12_norm_3 : decode cX12_norm 3 = .ok (.invokevirtual 288, 3) := by decide +kernel
theorem dX12_norm_6 : decode cX12_norm 6 = .ok (.ifCond .ne 5, 3) := by decide +kernel
theorem dX12_norm_9 : decode cX12_norm 9 = .ok (.iconst (-1), 1) := by decide +kernel
theorem dX12_norm_10 : decode cX12_norm 10 = .ok (.ireturn, 1) := by decide +kernel
theorem dX12_norm_11 : decode cX12_norm 11 = .ok (.aload_n 0, 1) := by decide +kernel
theorem dX12_norm_12 : decode cX12_norm 12 = .ok (.invokevirtual 282, 3) := by decide +kernel
theorem dX12_norm_15 : decode cX12_norm 15 = .ok (.aload_n 0, 1) := by decide +kernel
theorem dX12_norm_16 : decode cX12_norm 16 = .ok (.bipush 26, 2) := by decide +kernel
theorem dX12_norm_18 : decode cX12_norm 18 = .ok (.invokevirtual 192, 3) := by decide +kernel
theorem dX12_norm_21 : decode cX12_norm 21 = .ok (.istore 4, 2) := by decide +kernel
theorem dX12_norm_23 : decode cX12_norm 23 = .ok (.iload_n 3, 1) := by decide +kernel
theorem dX12_norm_24 : decode cX12_norm 24 = .ok (.ifCond .ne 6, 3) := by decide +kernel
theorem dX12_norm_27 : decode cX12_norm 27 = .ok (.iload 4, 2) := by decide +kernel
theorem dX12_norm_29 : decode cX12_norm 29 = .ok (.ireturn, 1) := by decide +kernel
theorem dX12_norm_30 : decode cX12_norm 30 = .ok (.iload_n 3, 1) := by decide +kernel
theorem dX12_norm_31 : decode cX12_norm 31 = .ok (.bipush 10, 2) := by decide +kernel
theorem dX12_norm_33 : decode cX12_norm 33 = .ok (.bipush 19, 2) := by decide +kernel
theorem dX12_norm_35 : decode cX12_norm 35 = .ok (.invokestatic 129, 3) := by decide +kernel
theorem dX12_norm_38 : decode cX12_norm 38 = .ok (.ifCond .eq 14, 3) := by decide +kernel
theorem dX12_norm_41 : decode cX12_norm 41 = .ok (.aload_n 0, 1) := by decide +kernel
theorem dX12_norm_42 : decode cX12_norm 42 = .ok (.bipush 26, 2) := by decide +kernel
theorem dX12_norm_44 : decode cX12_norm 44 = .ok (.iload_n 3, 1) := by decide +kernel
theorem dX12_norm_45 : decode cX12_norm 45 = .ok (.bipush 10, 2) := by decide +kernel
theorem dX12_norm_47 : decode cX12_norm 47 = .ok (.isub, 1) := by decide +kernel
theorem dX12_norm_48 : decode cX12_norm 48 = .ok (.invokevirtual 185, 3) := by decide +kernel
theorem dX12_norm_51 : decode cX12_norm 51 = .ok (.ireturn, 1) := by decide +kernel
theorem dX12_norm_52 : decode cX12_norm 52 = .ok (.iload_n 3, 1) := by decide +kernel
theorem dX12_norm_53 : decode cX12_norm 53 = .ok (.iconst 1, 1) := by decide +kernel
theorem dX12_norm_54 : decode cX12_norm 54 = .ok (.iconst 2, 1) := by decide +kernel
theorem dX12_norm_55 : decode cX12_norm 55 = .ok (.invokestatic 129, 3) := by decide +kernel
theorem dX12_norm_58 : decode cX12_norm 58 = .ok (.ifCond .ne 5, 3) := by decide +kernel
theorem dX12_norm_61 : decode cX12_norm 61 = .ok (.iconst (-1), 1) := by decide +kernel
theorem dX12_norm_62 : decode cX12_norm 62 = .ok (.ireturn, 1) := by decide +kernel
theorem dX12_norm_63 : decode cX12_norm 63 = .ok (.iconst 0, 1) := by decide +kernel
theorem dX12_norm_64 : decode cX12_norm 64 = .ok (.istore 5, 2) := by decide +kernel
theorem dX12_norm_66 : decode cX12_norm 66 = .ok (.iconst 0, 1) := by decide +kernel
theorem dX12_norm_67 : decode cX12_norm 67 = .ok (.istore 6, 2) := by decide +kernel
theorem dX12_norm_69 : decode cX12_norm 69 = .ok (.iload 6, 2) := by decide +kernel
theorem dX12_norm_71 : decode cX12_norm 71 = .ok (.aload_n 0, 1) := by decide +kernel
theorem dX12_norm_72 : decode cX12_norm 72 = .ok (.getfield 227, 3) := by decide +kernel
theorem dX12_norm_75 : decode cX12_norm 75 = .ok (.iconst 1, 1) := by decide +kernel
theorem dX12_norm_76 : decode cX12_norm 76 = .ok (.isub, 1) := by decide +kernel
theorem dX12_norm_77 : decode cX12_norm 77 = .ok (.if_icmp .ge 27, 3) := by decide +kernel
theorem dX12_norm_80 : decode cX12_norm 80 = .ok (.aload_n 0, 1) := by decide +kernel
theorem dX12_norm_81 : decode cX12_norm 81 = .ok (.iload_n 2, 1) := by decide +kernel
theorem dX12_norm_82 : decode cX12_norm 82 = .ok (.invokevirtual 285, 3) := by decide +kernel
theorem dX12_norm_85 : decode cX12_norm 85 = .ok (.istore 7, 2) := by decide +kernel
theorem dX12_norm_87 : decode cX12_norm 87 = .ok (.iload 5, 2) := by decide +kernel
theorem dX12_norm_89 : decode cX12_norm 89 = .ok (.aload_n 0, 1) := by decide +kernel
theorem dX12_norm_90 : decode cX12_norm 90 = .ok (.iload 6, 2) := by decide +kernel
theorem dX12_norm_92 : decode cX12_norm 92 = .ok (.invokevirtual 291, 3) := by decide +kernel
theorem dX12_norm_95 : decode cX12_norm 95 = .ok (.iadd, 1) := by decide +kernel
theorem dX12_norm_96 : decode cX12_norm 96 = .ok (.istore 5, 2) := by decide +kernel
theorem dX12_norm_98 : decode cX12_norm 98 = .ok (.iinc 6 1, 3) := by decide +kernel
theorem dX12_norm_101 : decode cX12_norm 101 = .ok (.goto (-32), 3) := by decide +kernel
theorem dX12_norm_104 : decode cX12_norm 104 = .ok (.iload_n 3, 1) := by decide +kernel
theorem dX12_norm_105 : decode cX12_norm 105 = .ok (.iconst 1, 1) := by decide +kernel
theorem dX12_norm_106 : decode cX12_norm 106 = .ok (.if_icmp .ne 8, 3) := by decide +kernel
theorem dX12_norm_109 : decode cX12_norm 109 = .ok (.iload 5, 2) := by decide +kernel
theorem dX12_norm_111 : decode cX12_norm 111 = .ok (.goto 8, 3) := by decide +kernel
theorem dX12_norm_114 : decode cX12_norm 114 = .ok (.iload 4, 2) := by decide +kernel
theorem dX12_norm_116 : decode cX12_norm 116 = .ok (.iload 5, 2) := by decide +kernel
theorem dX12_norm_118 : decode cX12_norm 118 = .ok (.isub, 1) := by decide +kernel
theorem dX12_norm_119 : decode cX12_norm 119 = .ok (.ireturn, 1) := by decide +kernel
set_option maxRecDepth 20000 in
theorem b_X12_norm_0 {k n : Nat} {x : Wx} {Z : Zt} {Q : Option Value → Wx → Zt → Prop} {a0 : Nat} {v1 : Int} {v2 : Int} {v3 : Int} (o_a0 : Is12 x a0)
    (h : ∃ g1 : Td, (MT (Z (a0 + 1)) g1 ∧ TdV g1 ∧ Rg v1 ∧ Rg v2 ∧ (∀ (Z'1 : Zt) (r1 : Int), (ABt a0 g1 v1 v2 Z Z'1 r1) → (Rg r1 ∧ (((r1 ≠ 0) → (∃ g2 : Nat → Nat → Int, (∃ g3 : Int, ((IsP g3 ∧ Z'1 a0 11 = g3) ∧ MS Z'1 a0 g2 ∧ ((InP g3 (g2 0) ∧ Fin (g2 0)) ∧ (InP g3 (g2 24) ∧ Fin (g2 24)) ∧ (InP g3 (g2 25) ∧ Fin (g2 25))) ∧ (∀ (Z'2 : Zt) (P'1 : Nat → Nat → Int), (MS Z'2 a0 P'1 ∧ Oth Z'1 Z'2 (O4 a0) ∧ P'1 26 = mNr g3 (g2 0) (g2 24) (g2 25) ∧ (∀ q : Nat, q ≠ 21 → q ≠ 22 → q ≠ 26 → P'1 q = g2 q)) → (∃ g4 : Nat → Nat → Int, (MS Z'2 a0 g4 ∧ (0 ≤ (26 : Int) ∧ (26 : Int) < 27) ∧ (∀ i : Nat, i < 24 → Rg (g4 (26 : Int).toNat i)) ∧ (Rg v3 ∧ (((v3 ≠ 0) → ((Rg v3 ∧ Rg (10 : Int) ∧ Rg (19 : Int)) ∧ (∀ (r2 : Int), (((r2 = 1 ∧ (10 : Int) ≤ v3 ∧ v3 ≤ (19 : Int)) ∨ (r2 = 0 ∧ (v3 < (10 : Int) ∨ (19 : Int) < v3)))) → (Rg r2 ∧ (((r2 = 0) → ((Rg v3 ∧ Rg (1 : Int) ∧ Rg (2 : Int)) ∧ (∀ (r3 : Int), (((r3 = 1 ∧ (1 : Int) ≤ v3 ∧ v3 ≤ (2 : Int)) ∨ (r3 = 0 ∧ (v3 < (1 : Int) ∨ (2 : Int) < v3)))) → (Rg r3 ∧ (((r3 ≠ 0) → (V mX12_norm k n 69 [some (r_ a0), none, some (i_ v2), some (i_ v3), some (i_ (pd (g4 (26 : Int).toNat))), some (i_ 0), some (i_ 0), none] [] x Z'2 Q)) ∧ ((r3 = 0) → (Q (some (i_ (-1))) x Z'2))))))) ∧ ((r2 ≠ 0) → ((0 ≤ 24 * (26 : Int) + (v3 - 10) ∧ 24 * (26 : Int) + (v3 - 10) < 648) ∧ (Q (some (i_ (Z'2 (a0 + 4) (24 * (26 : Int) + (v3 - 10)).toNat))) x Z'2)))))))) ∧ ((v3 = 0) → (Q (some (i_ (pd (g4 (26 : Int).toNat)))) x Z'2))))))))))) ∧ ((r1 = 0) → (Q (some (i_ (-1))) x Z'1))))))) :
    V mX12_norm k n 0 [some (r_ a0), some (i_ v1), some (i_ v2), some (i_ v3), none, none, none, none] [] x Z Q :=
  V_aload_n dX12_norm_0 rfl (V_iload_n dX12_norm_1 rfl (V_iload_n dX12_norm_2 rfl (Exists.elim h (fun g1 w1 => V_callV (k' := 0) (n' := 0) (t := 12) (q := (RX12, TX12, 46)) [i_ v1, i_ v2] [] okX12_areBoth o_a0.1 rfl rfl lm_12_288 liX12_areBoth lqX12_areBoth (Nat.le_of_ble_eq_true rfl) (Nat.le_of_ble_eq_true rfl) (Nat.le_of_ble_eq_true rfl) (cat_of rfl) (Nat.le_of_ble_eq_true rfl) (Nat.zero_le _) (Nat.zero_le _) rfl dX12_norm_3 (sp_X12_areBoth o_a0 w1.1 w1.2.1 w1.2.2.1 w1.2.2.2.1 (fun Z'1 r1 p1 => V_if_ne (tgt := 11) dX12_norm_6 rfl (w1.2.2.2.2 Z'1 r1 p1).1 (fun c1 => V_aload_n dX12_norm_11 rfl (Exists.elim ((w1.2.2.2.2 Z'1 r1 p1).2.1 c1) (fun g2 w2 => Exists.elim w2 (fun g3 w3 => V_callV (k' := 0) (n' := 0) (t := 12) (q := (RX12, TX12, 46)) [] [] okX12_norms o_a0.1 rfl rfl lm_12_282 liX12_norms lqX12_norms (Nat.le_of_ble_eq_true rfl) (Nat.le_of_ble_eq_true rfl) (Nat.le_of_ble_eq_true rfl) (cat_of rfl) (Nat.le_of_ble_eq_true rfl) (Nat.zero_le _) (Nat.zero_le _) rfl dX12_norm_12 (sp_X12_norms o_a0 w3.1 w3.2.1 w3.2.2.1 (fun Z'2 P'1 p2 => V_aload_n dX12_norm_15 rfl (V_bipush dX12_norm_16 rfl (Exists.elim (w3.2.2.2 Z'2 P'1 p2) (fun g4 w4 => V_callV (k' := 0) (n' := 0) (t := 12) (q := (RX12, TX12, 46)) [i_ 26] [] okX12_deg o_a0.1 rfl rfl lm_12_192 liX12_deg lqX12_deg (Nat.le_of_ble_eq_true rfl) (Nat.le_of_ble_eq_true rfl) (Nat.le_of_ble_eq_true rfl) (cat_of rfl) (Nat.le_of_ble_eq_true rfl) (Nat.zero_le _) (Nat.zero_le _) rfl dX12_norm_18 (sp_X12_deg o_a0 w4.1 w4.2.1 w4.2.2.1 (V_istore (lv' := [some (r_ a0), some (i_ v1), some (i_ v2), some (i_ v3), some (i_ (pd (g4 (26 : Int).toNat))), none, none, none]) dX12_norm_21 (Nat.le_of_ble_eq_true rfl) rfl (V_iload_n dX12_norm_23 rfl (V_if_ne (tgt := 30) dX12_norm_24 rfl w4.2.2.2.1 (fun c2 => V_iload_n dX12_norm_30 rfl (V_bipush dX12_norm_31 rfl (V_bipush dX12_norm_33 rfl (V_callS (k' := 0) (n' := 0) [i_ v3, i_ 10, i_ 19] [] okX12_isIn lm_12_129 lsX12_isIn (Nat.le_of_ble_eq_true rfl) (Nat.le_of_ble_eq_true rfl) (Nat.le_of_ble_eq_true rfl) (cat_of rfl) (Nat.le_of_ble_eq_true rfl) (Nat.zero_le _) (Nat.zero_le _) rfl dX12_norm_35 (sp_X12_isIn  (w4.2.2.2.2.1 c2).1 (fun r2 p3 => V_if_eq (tgt := 52) dX12_norm_38 rfl ((w4.2.2.2.2.1 c2).2 r2 p3).1 (fun c3 => V_iload_n dX12_norm_52 rfl (V_iconst dX12_norm_53 (V_iconst dX12_norm_54 (V_callS (k' := 0) (n' := 0) [i_ v3, i_ 1, i_ 2] [] okX12_isIn lm_12_129 lsX12_isIn (Nat.le_of_ble_eq_true rfl) (Nat.le_of_ble_eq_true rfl) (Nat.le_of_ble_eq_true rfl) (cat_of rfl) (Nat.le_of_ble_eq_true rfl) (Nat.zero_le _) (Nat.zero_le _) rfl dX12_norm_55 (sp_X12_isIn  (((w4.2.2.2.2.1 c2).2 r2 p3).2.1 c3).1 (fun r3 p4 => V_if_ne (tgt := 63) dX12_norm_58 rfl ((((w4.2.2.2.2.1 c2).2 r2 p3).2.1 c3).2 r3 p4).1 (fun c4 => V_iconst dX12_norm_63 (V_istore (lv' := [some (r_ a0), some (i_ v1), some (i_ v2), some (i_ v3), some (i_ (pd (g4 (26 : Int).toNat))), some (i_ 0), none, none]) dX12_norm_64 (Nat.le_of_ble_eq_true rfl) rfl (V_iconst dX12_norm_66 (V_istore (lv' := [some (r_ a0), some (i_ v1), some (i_ v2), some (i_ v3), some (i_ (pd (g4 (26 : Int).toNat))), some (i_ 0), some (i_ 0), none]) dX12_norm_67 (Nat.le_of_ble_eq_true rfl) rfl (V_msk [true, false, true, true, true, true, true, false] rfl (((((w4.2.2.2.2.1 c2).2 r2 p3).2.1 c3).2 r3 p4).2.1 c4)))))) (fun c4 => V_iconst dX12_norm_61 (V_iret (ty := .int) dX12_norm_62 rfl rfl (((((w4.2.2.2.2.1 c2).2 r2 p3).2.1 c3).2 r3 p4).2.2 c4))))))))) (fun c3 => V_aload_n dX12_norm_41 rfl (V_bipush dX12_norm_42 rfl (V_iload_n dX12_norm_44 rfl (V_bipush dX12_norm_45 rfl (V_isub dX12_norm_47 (V_callV (k' := 0) (n' := 0) (t := 12) (q := (RX12, TX12, 46)) [i_ 26, i_ (v3 - 10)] [] okX12_at o_a0.1 rfl rfl lm_12_185 liX12_at lqX12_at (Nat.le_of_ble_eq_true rfl) (Nat.le_of_ble_eq_true rfl) (Nat.le_of_ble_eq_true rfl) (cat_of rfl) (Nat.le_of_ble_eq_true rfl) (Nat.zero_le _) (Nat.zero_le _) rfl dX12_norm_48 (sp_X12_at o_a0 (((w4.2.2.2.2.1 c2).2 r2 p3).2.2 c3).1 (V_iret (ty := .int) dX12_norm_51 rfl rfl (((w4.2.2.2.2.1 c2).2 r2 p3).2.2 c3).2)))))))))))))) (fun c2 => V_iload dX12_norm_27 rfl (V_iret (ty := .int) dX12_norm_29 rfl rfl (w4.2.2.2.2.2 c2)))))))))))))))) (fun c1 => V_iconst dX12_norm_9 (V_iret (ty := .int) dX12_norm_10 rfl rfl ((w1.2.2.2.2 Z'1 r1 p1).2.2 c1)))))))))
set_option maxRecDepth 20000 in
theorem b_X12_norm_69 {k n : Nat} {x : Wx} {Z : Zt} {Q : Option Value → Wx → Zt → Prop} {a0 : Nat} {v2 : Int} {v3 : Int} {v4 : Int} {v5 : Int} {v6 : Int} (o_a0 : Is12 x a0)
    (h : Rg v6 ∧ Rg ((Z a0 15) - 1) ∧ ((((Z a0 15) - 1 ≤ v6) → (Rg v3 ∧ (((v3 ≠ 1) → (Q (some (i_ (v4 - v5))) x Z)) ∧ ((v3 = 1) → (Q (some (i_ v5)) x Z))))) ∧ ((v6 < (Z a0 15) - 1) → (∃ g1 : Td, (∃ g2 : Int, (∃ g3 : Nat → Int, (MT (Z (a0 + 1)) g1 ∧ TdV g1 ∧ MF Z a0 g2 g3 ∧ (0 ≤ v2 ∧ v2 < g1.ct 2) ∧ (∀ (Z'1 : Zt) (r1 : Int), (((r1 = 1 ∧ (0 ≤ pd (fnA g2 (g1.rw (5 + v2.toNat))) ∨ 0 ≤ pd (fnB g2 (g1.rw (5 + v2.toNat))))) ∨ (r1 = 0 ∧ ¬ (0 ≤ pd (fnA g2 (g1.rw (5 + v2.toNat))) ∨ 0 ≤ pd (fnB g2 (g1.rw (5 + v2.toNat)))))) ∧ MF Z'1 a0 g2 g3 ∧ MFn Z'1 a0 g2 g3 (fnA g2 (g1.rw (5 + v2.toNat))) (fnB g2 (g1.rw (5 + v2.toNat))) ∧ Oth Z Z'1 (O4 a0)) → (∃ g4 : Int, (∃ g5 : Nat → Int, (∃ g6 : Nat → Int, (∃ g7 : Nat → Int, (MF Z'1 a0 g4 g5 ∧ MFn Z'1 a0 g4 g5 g6 g7 ∧ ABk g4 g5 g6 g7 ∧ (0 ≤ v6 ∧ v6 < (pall g4 g5).length) ∧ (∀ (Z'2 : Zt), (MF Z'2 a0 g4 g5 ∧ Oth Z'1 Z'2 (O4 a0)) → (V mX12_norm k n 69 [some (r_ a0), none, some (i_ v2), some (i_ v3), some (i_ v4), some (i_ (v5 + (mOrd g4 g5 g6 g7 v6))), some (i_ (v6 + 1)), none] [] x Z'2 Q))))))))))))))) :
    V mX12_norm k n 69 [some (r_ a0), none, some (i_ v2), some (i_ v3), some (i_ v4), some (i_ v5), some (i_ v6), none] [] x Z Q :=
  V_iload dX12_norm_69 rfl (V_aload_n dX12_norm_71 rfl (G_12_15 o_a0.1 lf_12_227 dX12_norm_72 (V_iconst dX12_norm_75 (V_isub dX12_norm_76 (V_icmp_ge (tgt := 104) dX12_norm_77 rfl h.1 h.2.1 (fun c1 => V_iload_n dX12_norm_104 rfl (V_iconst dX12_norm_105 (V_icmp_ne (tgt := 114) dX12_norm_106 rfl (h.2.2.1 c1).1 (rg_c rfl) (fun c2 => V_iload dX12_norm_114 rfl (V_iload dX12_norm_116 rfl (V_isub dX12_norm_118 (V_iret (ty := .int) dX12_norm_119 rfl rfl ((h.2.2.1 c1).2.1 c2))))) (fun c2 => V_iload dX12_norm_109 rfl (V_goto (tgt := 119) dX12_norm_111 rfl (V_iret (ty := .int) dX12_norm_119 rfl rfl ((h.2.2.1 c1).2.2 c2))))))) (fun c1 => V_aload_n dX12_norm_80 rfl (V_iload_n dX12_norm_81 rfl (Exists.elim (h.2.2.2 c1) (fun g1 w1 => Exists.elim w1 (fun g2 w2 => Exists.elim w2 (fun g3 w3 => V_callV (k' := 0) (n' := 0) (t := 12) (q := (RX12, TX12, 46)) [i_ v2] [] okX12_takesFunction o_a0.1 rfl rfl lm_12_285 liX12_takesFunction lqX12_takesFunction (Nat.le_of_ble_eq_true rfl) (Nat.le_of_ble_eq_true rfl) (Nat.le_of_ble_eq_true rfl) (cat_of rfl) (Nat.le_of_ble_eq_true rfl) (Nat.zero_le _) (Nat.zero_le _) rfl dX12_norm_82 (sp_X12_takesFunction o_a0 w3.1 w3.2.1 w3.2.2.1 w3.2.2.2.1 (fun Z'1 r1 p1 => V_istore (lv' := [some (r_ a0), none, some (i_ v2), some (i_ v3), some (i_ v4), some (i_ v5), some (i_ v6), some (i_ r1)]) dX12_norm_85 (Nat.le_of_ble_eq_true rfl) rfl (V_iload dX12_norm_87 rfl (V_aload_n dX12_norm_89 rfl (V_iload dX12_norm_90 rfl (Exists.elim (w3.2.2.2.2 Z'1 r1 p1) (fun g4 w4 => Exists.elim w4 (fun g5 w5 => Exists.elim w5 (fun g6 w6 => Exists.elim w6 (fun g7 w7 => V_callV (k' := 0) (n' := 0) (t := 12) (q := (RX12, TX12, 46)) [i_ v6] [i_ v5] okX12_orderAt o_a0.1 rfl rfl lm_12_291 liX12_orderAt lqX12_orderAt (Nat.le_of_ble_eq_true rfl) (Nat.le_of_ble_eq_true rfl) (Nat.le_of_ble_eq_true rfl) (cat_of rfl) (Nat.le_of_ble_eq_true rfl) (Nat.zero_le _) (Nat.zero_le _) rfl dX12_norm_92 (sp_X12_orderAt o_a0 w7.1 w7.2.1 w7.2.2.1 w7.2.2.2.1 (fun Z'2 p2 => V_iadd dX12_norm_95 (V_istore (lv' := [some (r_ a0), none, some (i_ v2), some (i_ v3), some (i_ v4), some (i_ (v5 + (mOrd g4 g5 g6 g7 v6))), some (i_ v6), some (i_ r1)]) dX12_norm_96 (Nat.le_of_ble_eq_true rfl) rfl (V_iinc (lv' := [some (r_ a0), none, some (i_ v2), some (i_ v3), some (i_ v4), some (i_ (v5 + (mOrd g4 g5 g6 g7 v6))), some (i_ (v6 + 1)), some (i_ r1)]) dX12_norm_98 rfl (Nat.le_of_ble_eq_true rfl) rfl (V_goto (tgt := 69) dX12_norm_101 rfl (V_msk [true, false, true, true, true, true, true, false] rfl (w7.2.2.2.2 Z'2 p2))))))))))))))))))))))))))))
def mesMb (T : Td) (c f : Int) : Bool := decide (((0 ≤ c ∧ c < T.ct 0) ∧ (0 ≤ f ∧ f < T.ct 2)) ∧ (0 ≤ pd (T.A c.toNat f.toNat) ∨ 0 ≤ pd (T.B c.toNat f.toNat)))
theorem mesM_b {T : Td} {c f : Int} : mesMb T c f = true ↔ mesM T c f := by unfold mesMb mesM; rw [decide_eq_true_eq]
def mAOrder (T : Td) (c f k : Int) : Int := if mesMb T c f = true ∧ 0 ≤ k ∧ k < (T.L c.toNat).length then mOrd (T.p c.toNat) (T.F c.toNat) (T.A c.toNat f.toNat) (T.B c.toNat f.toNat) k else -100
def mRat (p : Int) (F A B : Nat → Int) : Nat → Int
  | 0 => 0
  | i + 1 => mRat p F A B i + mOrd p F A B i
def mANorm (T : Td) (c f w : Int) : Int := if mesMb T c f = true then (if w = 0 then pd (mNr (T.p c.toNat) (T.F c.toNat) (T.A c.toNat f.toNat) (T.B c.toNat f.toNat)) else if 10 ≤ w ∧ w ≤ 19 then mNr (T.p c.toNat) (T.F c.toNat) (T.A c.toNat f.toNat) (T.B c.toNat f.toNat) (w - 10).toNat else if w = 1 then mRat (T.p c.toNat) (T.F c.toNat) (T.A c.toNat f.toNat) (T.B c.toNat f.toNat) ((T.L c.toNat).length - 1) else if w = 2 then pd (mNr (T.p c.toNat) (T.F c.toNat) (T.A c.toNat f.toNat) (T.B c.toNat f.toNat)) - mRat (T.p c.toNat) (T.F c.toNat) (T.A c.toNat f.toNat) (T.B c.toNat f.toNat) ((T.L c.toNat).length - 1) else -1) else -1
theorem sp_X12_order {k n : Nat} {x : Wx} {Z : Zt} {Q : Option Value → Wx → Zt → Prop} {b : Nat} {c f v : Int} {S : Ab} (hI : MI x Z b S) (hV : AbV S) (hc : Rg c) (hf : Rg f) (hv : Rg v) (h : RAm b x Z Q (mAOrder S.nw c f v)) : V mX12_order k n 0 [some (r_ b), some (i_ c), some (i_ f), some (i_ v)] [] x Z Q := by
  obtain ⟨o, hT, _⟩ := id hI
  unfold mAOrder at h
  have no : ∀ Z' : Zt, Mq b Z Z' → ¬ (mesM S.nw c f ∧ 0 ≤ v ∧ v < (S.nw.L c.toNat).length) → V mX12_order k n 25 [none, none, none, none] [] x Z' Q := fun Z' hq hn => b_X12_order_25 (by rw [if_neg (fun e => hn ⟨mesM_b.mp e.1, e.2⟩)] at h; exact h Z' hq)
  refine b_X12_order_0 o ⟨S.nw, hT, hV.1, hc, hf, fun Z1 r1 h1 => ?_⟩
  obtain ⟨h1, hq⟩ := h1
  rcases h1 with ⟨e1, hm, hF, hA⟩ | ⟨e1, hm⟩
  · subst e1
    refine ⟨⟨by decide, by decide⟩, fun cc => absurd cc (by decide), fun _ => ⟨S.nw.L c.toNat, hF.1.2.1, (pall_len hF.2.1.1 _).2, hv, fun r2 h2 => ⟨⟨by omega, by omega⟩, fun c2 => no Z1 hq (by omega), fun c2 => ?_⟩⟩⟩
    have hvv : 0 ≤ v ∧ v < (S.nw.L c.toNat).length := by omega
    have hok := ab_ok hV.1 (c := c.toNat) (f := f.toNat) (by have := hm.1.1; omega)
    refine ⟨_, _, _, _, hF, hA, hok, hvv, fun Z2 hz => ?_⟩
    rw [if_pos ⟨mesM_b.mpr hm, hvv⟩] at h
    exact h Z2 (hq.tr (Mq.o4 hz.2))
  · subst e1
    exact ⟨rg_z, fun _ => no Z1 hq (fun e => hm e.1), fun cc => absurd rfl cc⟩
theorem sp_X12_norm {k n : Nat} {x : Wx} {Z : Zt} {Q : Option Value → Wx → Zt → Prop} {b : Nat} {c f w : Int} {S : Ab} (hI : MI x Z b S) (hV : AbV S) (hc : Rg c) (hf : Rg f) (hw : Rg w) (h : RAm b x Z Q (mANorm S.nw c f w)) : V mX12_norm k n 0 [some (r_ b), some (i_ c), some (i_ f), some (i_ w), none, none, none, none] [] x Z Q := by
  obtain ⟨o, hT, _⟩ := id hI
  unfold mANorm at h
  refine b_X12_norm_0 o ⟨S.nw, hT, hV.1, hc, hf, fun Z1 r1 h1 => ?_⟩
  obtain ⟨h1, hq⟩ := h1
  rcases h1 with ⟨e1, hm, hF, hA⟩ | ⟨e1, hm⟩
  · subst e1
    refine ⟨⟨by decide, by decide⟩, fun _ => ?_, fun cc => absurd cc (by decide)⟩
    rw [if_pos (mesM_b.mpr hm)] at h
    have hok := ab_ok hV.1 (c := c.toNat) (f := f.toNat) (by have := hm.1.1; omega)
    have hff := hm.1.2
    have eL : S.nw.L c.toNat = pall (S.nw.p c.toNat) (S.nw.F c.toNat) := rfl
    rw [eL] at h
    obtain ⟨p, hp'⟩ : ∃ p : Int, S.nw.p c.toNat = p := ⟨_, rfl⟩
    obtain ⟨F, hF'⟩ : ∃ F : Nat → Int, S.nw.F c.toNat = F := ⟨_, rfl⟩
    obtain ⟨A, hA'⟩ : ∃ A : Nat → Int, S.nw.A c.toNat f.toNat = A := ⟨_, rfl⟩
    obtain ⟨B, hB'⟩ : ∃ B : Nat → Int, S.nw.B c.toNat f.toNat = B := ⟨_, rfl⟩
    have eA : fnA p (S.nw.rw (5 + f.toNat)) = A := by rw [← hA', ← hp']; rfl
    have eB : fnB p (S.nw.rw (5 + f.toNat)) = B := by rw [← hB', ← hp']; rfl
    rw [hp', hF'] at hF
    rw [hp', hF', hA', hB'] at hA hok h
    have hp := hF.2.1.1
    have hpr := hp.rg
    have iF := hF.2.1.2.1
    have fF := hF.2.1.2.2.1
    have hl := pall_len hp F
    obtain ⟨P, mP, p0, p24, p25⟩ := hA
    refine ⟨P, p, ⟨hp, hF.1.1.1⟩, mP, by rw [p0, p24, p25]; exact ⟨⟨iF, fF⟩, hok.1, hok.2.1⟩, fun Z2 P2 hz2 => ?_⟩
    obtain ⟨m2, o2, e26, k2⟩ := hz2
    rw [p0, p24, p25] at e26
    have q2 := hq.tr (Mq.o4 o2)
    have F2 : MF Z2 b p F := ⟨hF.1.o4 o2, hF.2.1, P2, m2, by rw [k2 0 (by decide) (by decide) (by decide)]; exact p0⟩
    have iN : InP p (mNr p F A B) := padd_in (by omega)
    have g1 := pd_ge (mNr p F A B)
    have g2 := pd_lt (mNr p F A B)
    have t26 : (26 : Int).toNat = 26 := rfl
    refine ⟨P2, m2, by decide, ?_, ?_⟩
    · rw [t26, e26]; intro i hi; have := iN i; exact ⟨by omega, by omega⟩
    · rw [t26, e26]
      refine ⟨hw, fun c0 => ⟨⟨hw, ⟨by decide, by decide⟩, ⟨by decide, by decide⟩⟩, fun r2 h2 => ⟨⟨by omega, by omega⟩, fun c2 => ⟨⟨hw, ⟨by decide, by decide⟩, ⟨by decide, by decide⟩⟩, fun r3 h3 => ⟨⟨by omega, by omega⟩, fun c3 => ?_, fun c3 => ?_⟩⟩, fun c2 => ⟨by omega, ?_⟩⟩⟩, fun c0 => ?_⟩
      · rw [if_neg c0, if_neg (show ¬ (10 ≤ w ∧ w ≤ 19) by omega)] at h
        have lp : ∀ (m i : Nat) (Z3 : Zt), i + m = (pall p F).length - 1 → MF Z3 b p F → Mq b Z Z3 → V mX12_norm k n 69 [some (r_ b), none, some (i_ f), some (i_ w), some (i_ (pd (mNr p F A B))), some (i_ (mRat p F A B i)), some (i_ (i : Int)), none] [] x Z3 Q := by
          intro m
          induction m with
          | zero =>
            intro i Z3 hi F3 q3
            have b15 := F3.1.2.1
            refine b_X12_norm_69 o ?_
            rw [b15]
            refine ⟨⟨by omega, by omega⟩, ⟨by omega, by omega⟩, fun _ => ⟨hw, fun c4 => ?_, fun c4 => ?_⟩, fun c4 => by omega⟩
            · rw [if_neg c4, if_pos (by omega), show (pall p F).length - 1 = i from by omega] at h; exact h Z3 q3
            · rw [if_pos c4, show (pall p F).length - 1 = i from by omega] at h; exact h Z3 q3
          | succ m ih =>
            intro i Z3 hi F3 q3
            have b15 := F3.1.2.1
            refine b_X12_norm_69 o ?_
            rw [b15]
            refine ⟨⟨by omega, by omega⟩, ⟨by omega, by omega⟩, fun c4 => by omega, fun _ => ⟨S.nw, p, F, by rw [q3.1]; exact hT, hV.1, F3, hff, fun Z4 r4 hz4 => ?_⟩⟩
            obtain ⟨_, F4, A4, o4⟩ := hz4
            rw [eA, eB] at A4
            refine ⟨p, F, A, B, F4, A4, hok, by omega, fun Z5 hz5 => ?_⟩
            have := ih (i + 1) Z5 (by omega) hz5.1 (q3.tr ((Mq.o4 o4).tr (Mq.o4 hz5.2)))
            exact this
        exact lp ((pall p F).length - 1) 0 Z2 (by omega) F2 q2
      · rw [if_neg c0, if_neg (by omega), if_neg (by omega), if_neg (by omega)] at h; exact h Z2 q2
      · rw [if_neg c0, if_pos (by omega)] at h
        have e := m2.at (u := 26) (i := w - 10) (by decide) (by omega)
        rw [t26, e26] at e
        rw [e]; exact h Z2 q2
      · rw [if_pos c0] at h; exact h Z2 q2
  · subst e1
    rw [if_neg (fun e => hm (mesM_b.mp e))] at h
    exact ⟨rg_z, fun cc => absurd rfl cc, fun _ => h Z1 hq⟩
