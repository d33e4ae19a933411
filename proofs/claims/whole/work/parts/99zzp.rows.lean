/-! ===== CODE: the reference's rows in steps ===== -/
theorem stE_lo {p : Int} {j d R : Nat} {M : Nat → Nat → Int} {q i : Nat} (h : q ≤ d ∨ R ≤ q) : stE p j d R M q i = M q i := by unfold stE; rw [if_pos h]
theorem stE_hi {p : Int} {j d R : Nat} {M : Nat → Nat → Int} {q i : Nat} (h1 : d < q) (h2 : q < R) : stE p j d R M q i = (M q i - M q j * inv p (M d j) % p * M d i) % p := by unfold stE; rw [if_neg (by omega)]
def SIr (p : Int) (len R : Nat) (V : Nat → Nat → Int) (J : Nat) (w : StW) : Prop := InM p R len w.1 ∧ w.2 ≤ R ∧ (∃ pv : Nat → Nat, ∀ q : Nat, q < w.2 → pv q < J ∧ w.1 q (pv q) ≠ 0 ∧ ∀ s : Nat, q < s → s < R → w.1 s (pv q) = 0) ∧ (∀ q : Nat, w.2 ≤ q → q < R → ∀ i : Nat, i < J → w.1 q i = 0) ∧ (∀ q : Nat, q < R → LnC p len V R (w.1 q)) ∧ ∀ q : Nat, q < R → LnC p len w.1 R (V q)
theorem SIr.st {p : Int} (hp : IsP p) {len R : Nat} {V : Nat → Nat → Int} {J : Nat} {w : StW} (hJ : J < len) (h : SIr p len R V J w) : SIr p len R V (J + 1) (stS p R J w) := by
  have h0 := hp.rg
  obtain ⟨h1, h2, ⟨pv, h3⟩, h4, h5, h6⟩ := h
  have hok := stS_ok (p := p) (by omega) (j := J) h1 h2
  cases hf : fstL w.1 J (R - w.2) w.2 with
  | none =>
    have e : stS p R J w = w := by unfold stS; simp only [hf]
    have hn := fstL_none hf
    rw [e]
    refine ⟨h1, h2, ⟨pv, fun q hq => ⟨by have := (h3 q hq).1; omega, (h3 q hq).2⟩⟩, fun q q1 q2 i hi => ?_, h5, h6⟩
    by_cases c : i = J
    · rw [c]; exact hn q q1 (by omega)
    · exact h4 q q1 q2 i (by omega)
  | some l =>
    obtain ⟨f1, f2, f3⟩ := fstL_some hf
    have e : stS p R J w = (stE p J w.2 R (swM w.1 l w.2), w.2 + 1) := by unfold stS; simp only [hf]
    rw [e] at hok ⊢
    have hlr := h1 l (by omega) J hJ
    have iv := inv_mul hp (a := w.1 l J) ⟨by omega, hlr.2⟩
    obtain ⟨N, hN⟩ : ∃ N, swM w.1 l w.2 = N := ⟨_, rfl⟩
    obtain ⟨d, hd⟩ : ∃ d, w.2 = d := ⟨_, rfl⟩
    rw [hN] at hok ⊢
    rw [hd] at h2 h3 h4 f1 f2 hok hN ⊢
    have hdR : d < R := by omega
    have Nd : N d = w.1 l := by rw [← hN]; exact sw_r
    have Nq : ∀ q : Nat, d ≤ q → q < R → ∃ s : Nat, d ≤ s ∧ s < R ∧ N q = w.1 s := fun q q1 q2 => by
      by_cases c1 : q = d
      · rw [c1]; exact ⟨l, f1, by omega, Nd⟩
      · by_cases c2 : q = l
        · exact ⟨d, Nat.le_refl d, hdR, by rw [← hN, c2]; exact sw_l (by omega)⟩
        · exact ⟨q, q1, q2, by rw [← hN]; exact sw_i c1 c2⟩
    have Nlo : ∀ q : Nat, q < d → N q = w.1 q := fun q hq => by rw [← hN]; exact sw_i (by omega) (by omega)
    obtain ⟨G, hG⟩ : ∃ G, stE p J d R N = G := ⟨_, rfl⟩
    have Glo : ∀ q : Nat, q ≤ d → G q = N q := fun q hq => funext fun i => by rw [← hG]; exact stE_lo (Or.inl hq)
    have Ghi : ∀ q : Nat, d < q → q < R → ∀ i : Nat, G q i = (N q i - N q J * inv p (N d J) % p * N d i) % p := fun q a b i => by rw [← hG]; exact stE_hi a b
    rw [hG] at hok ⊢
    refine ⟨hok.1, by show d + 1 ≤ R; omega, ⟨upn pv d J, fun q hq => ?_⟩, fun q q1 q2 i hi => ?_, fun q hq => ?_, fun q hq => ?_⟩
    · have hq : q < d + 1 := hq
      show upn pv d J q < J + 1 ∧ G q (upn pv d J q) ≠ 0 ∧ ∀ s : Nat, q < s → s < R → G s (upn pv d J q) = 0
      unfold upn
      by_cases c : q = d
      · rw [if_pos c, c, Glo d (Nat.le_refl d), Nd]
        refine ⟨Nat.lt_succ_self J, f3, fun s s1 s2 => ?_⟩
        rw [Ghi s s1 s2, Nd, Int.sub_emod, mul_md, Int.mul_assoc, Int.mul_comm (inv p (w.1 l J)), Int.mul_emod (N s J), iv, Int.mul_one, Int.emod_emod, Int.sub_self, Int.zero_emod]
      · rw [if_neg c, Glo q (by omega), Nlo q (by omega)]
        obtain ⟨a, b, k⟩ := h3 q (by omega)
        refine ⟨by omega, b, fun s s1 s2 => ?_⟩
        by_cases c2 : s ≤ d
        · rw [Glo s c2]
          by_cases c3 : s = d
          · rw [c3, Nd]; exact k l (by omega) (by omega)
          · rw [Nlo s (by omega)]; exact k s s1 s2
        · obtain ⟨t, t1, t2, t3⟩ := Nq s (by omega) s2
          rw [Ghi s (by omega) s2, t3, Nd, k t (by omega) t2, k l (by omega) (by omega), Int.mul_zero, Int.sub_self, Int.zero_emod]
    · have q1 : d + 1 ≤ q := q1
      show G q i = 0
      rw [Ghi q (by omega) q2, Nd]
      by_cases c : i = J
      · rw [c, Int.sub_emod, mul_md, Int.mul_assoc, Int.mul_comm (inv p (w.1 l J)), Int.mul_emod (N q J), iv, Int.mul_one, Int.emod_emod, Int.sub_self, Int.zero_emod]
      · obtain ⟨t, t1, t2, t3⟩ := Nq q (by omega) q2
        rw [t3, h4 t t1 t2 i (by omega), h4 l f1 (by omega) i (by omega), Int.mul_zero, Int.sub_self, Int.zero_emod]
    · show LnC p len V R (G q)
      have hNV : ∀ s : Nat, s < R → LnC p len V R (N s) := fun s hs => by
        by_cases c : s < d
        · rw [Nlo s c]; exact h5 s hs
        · obtain ⟨t, t1, t2, t3⟩ := Nq s (by omega) hs
          rw [t3]; exact h5 t t2
      by_cases c : q ≤ d
      · rw [Glo q c]; exact hNV q hq
      · exact (hNV q hq).lin (hNV d hdR) 1 (-(N q J * inv p (N d J) % p)) (fun i _ => by rw [Ghi q (by omega) hq, Int.emod_emod, Int.one_mul, Int.neg_mul]; rfl)
    · show LnC p len G R (V q)
      have hGN : ∀ s : Nat, s < R → LnC p len G R (N s) := fun s hs => by
        have hm : ∀ t : Nat, t < R → LnC p len G R (G t) := fun t ht => LnC.mem ht
        by_cases c : s ≤ d
        · rw [← Glo s c]; exact hm s hs
        · have hm2 := hm d hdR
          rw [Glo d (Nat.le_refl d)] at hm2
          refine (hm s hs).lin hm2 1 (N s J * inv p (N d J) % p) (fun i _ => ?_)
          rw [Ghi s (by omega) hs, Int.one_mul, Int.emod_add_emod, Int.sub_add_cancel]
      have hGw : ∀ s : Nat, s < R → LnC p len G R (w.1 s) := fun s hs => by
        by_cases c1 : s < d
        · rw [← Nlo s c1]; exact hGN s hs
        · by_cases c2 : s = l
          · rw [c2, ← Nd]; exact hGN d hdR
          · by_cases c3 : s = d
            · have : N l = w.1 d := by rw [← hN]; exact sw_l (by omega)
              rw [c3, ← this]; exact hGN l (by omega)
            · have : N s = w.1 s := by rw [← hN]; exact sw_i c3 c2
              rw [← this]; exact hGN s hs
      exact LnC.tr hGw (h6 q hq)
theorem stN_SI {p : Int} (hp : IsP p) {len R : Nat} {V : Nat → Nat → Int} (hV : ∀ k i : Nat, 0 ≤ V k i ∧ V k i < p) : ∀ J : Nat, J ≤ len → SIr p len R V J (stN p R V J)
  | 0, _ => ⟨fun q _ i _ => hV q i, Nat.zero_le R, ⟨fun _ => 0, fun q hq => absurd hq (Nat.not_lt_zero q)⟩, fun _ _ _ i hi => absurd hi (Nat.not_lt_zero i), fun q hq => LnC.mem hq, fun q hq => LnC.mem hq⟩
  | J + 1, h => SIr.st hp (by omega) (stN_SI hp hV J (by omega))
theorem stN_lc {p : Int} (hp : IsP p) {len R : Nat} {V : Nat → Nat → Int} (hV : ∀ k i : Nat, 0 ≤ V k i ∧ V k i < p) : Tri p len (stN p R V len).1 (stN p R V len).2 ∧ ∀ W : Nat → Int, LnC p len (stN p R V len).1 (stN p R V len).2 W ↔ LnC p len V R W := by
  obtain ⟨h1, h2, ⟨pv, h3⟩, h4, h5, h6⟩ := stN_SI hp hV (R := R) len (Nat.le_refl len)
  refine ⟨⟨pv, fun q hq => ?_⟩, fun W => ⟨LnC.tr (fun j hj => h5 j (by omega)), fun hW => LnC.tr (fun j hj => LnC.tr (fun q hq => ?_) (h6 j hj)) hW⟩⟩
  · obtain ⟨a, b, k⟩ := h3 q hq
    have := h1 q (by omega) (pv q) a
    refine ⟨a, by rw [Int.emod_eq_of_lt this.1 this.2]; exact b, fun s s1 s2 => by rw [k s s1 (by omega), Int.zero_emod]⟩
  · by_cases c : q < (stN p R V len).2
    · exact LnC.mem c
    · exact LnC.zero (fun i hi => by rw [h4 q (by omega) hq i hi, Int.zero_emod])
/-! ===== CODE: both have the same words ===== -/
theorem words_perm {p : Int} (hp : IsP p) {len R : Nat} {V : Nat → Nat → Int} (hV : ∀ k i : Nat, 0 ≤ V k i ∧ V k i < p) : (wdL p len (bsN p len V R).1 (bsN p len V R).2.2).Perm (wdL p len (stN p R V len).1 (stN p R V len).2) ∧ (bsN p len V R).2.2 = (stN p R V len).2 := by
  obtain ⟨a1, a2⟩ := bsN_lc hp (len := len) hV R
  obtain ⟨b1, b2⟩ := stN_lc hp (len := len) (R := R) hV
  have := wdL_perm hp a1 b1 (fun W => (a2 W).trans (b2 W).symm)
  exact ⟨this, wdL_many hp this⟩
theorem bsS_ext {p : Int} {len : Nat} {V V' : Nat → Nat → Int} {k : Nat} (h : V k = V' k) (w : Bs) : bsS p len V k w = bsS p len V' k w := by
  unfold bsS
  rw [h]
theorem bsN_row {p : Int} {len : Nat} {V V' : Nat → Nat → Int} : ∀ {k : Nat}, (∀ q : Nat, q < k → V q = V' q) → bsN p len V k = bsN p len V' k
  | 0, _ => rfl
  | k + 1, h => by
    show bsS p len V k (bsN p len V k) = bsS p len V' k (bsN p len V' k)
    rw [bsN_row (k := k) (fun q hq => h q (by omega)), bsS_ext (h k (by omega))]
theorem cdB_eq {p : Int} {F r : Nat → Int} (hF : CF p (gen F) F) (hr : SumR r) (hc : carr (pall p F) r = true) : cdB p F r = bsN p (mLen p F r) (mVal p F r) (mRoo p F r) := by
  unfold cdB
  rw [pl_eq hr hc, cdD_eq hF hr hc]
  exact bsN_row (fun q hq => funext fun t => val_eq hF.1 hr hc hq)
theorem mVal_rg {p : Int} (hp : IsP p) (F r : Nat → Int) (k t : Nat) : 0 ≤ mVal p F r k t ∧ mVal p F r k t < p := emr _ (by have := hp.rg; omega)
theorem mStp_eq (p : Int) (F r : Nat → Int) : mStp p F r = stN p (mRoo p F r) (mVal p F r) (mLen p F r) := rfl
/-- the words, and how many rows -/
theorem code_perm {p : Int} {F r : Nat → Int} (hF : CF p (gen F) F) (hr : SumR r) (hc : carr (pall p F) r = true) : (wdL p (mLen p F r) (cdB p F r).1 (cdB p F r).2.2).Perm (wdL p (mLen p F r) (mStp p F r).1 (mStp p F r).2) ∧ (cdB p F r).2.2 = (mStp p F r).2 := by
  rw [cdB_eq hF hr hc, mStp_eq]
  exact words_perm hF.1 (mVal_rg hF.1 F r)
