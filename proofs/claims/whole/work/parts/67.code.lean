theorem OI.cod {x : Wx} {Z Z' : Zt} {a : Nat} {S : Ab} (h : OI x Z a S) {c s : Nat} (hc : Z a 14 = (c : Int)) (hs : Z a 15 = (s : Int)) (hr : Z a 16 = 1) (h1 : Z' (a + 116) = fun i => if i = 7 then 1 else Z (a + 116) i) (h2 : ∀ q : Nat, q < 27 → Z' (a + 116 + 1) q = wgF (S.nw.p c) (S.nw.F c) (S.nw.rw (2 + s)) q) (ho : Oth Z Z' (fun b => b = a + 116 ∨ b = a + 116 + 1 ∨ b = a + 116 + 111 ∨ b = a + 116 + 112)) : OI x Z' a S ∧ Fx a x x Z Z' := by
  obtain ⟨g1, g2, g3, g4, g5, g6⟩ := h.cv hc
  obtain ⟨q1, q2, q3, σ, q4, q5⟩ := h.rm hc hs
  obtain ⟨o, k1, rr1, t1, i1, hV, _⟩ := id h
  obtain ⟨_, _, _, _, _, hcc⟩ := h.crv hc
  have z2 : ∀ b, ¬ (a + 116 ≤ b ∧ b < a + 229) → Z' b = Z b := fun b hb => ho b (by omega)
  have f : Fx a x x Z Z' := ⟨rfl, rfl, fun b hb => ⟨rfl, z2 b (by omega)⟩, rfl⟩
  have hcd := (q5.resolve_left (by omega)).2
  refine ⟨⟨o, k1.fx f, rr1, t1.kept (fun b b1 b2 => z2 b (by omega)), i1.fx f, hV, σ, q4.1, Or.inr ⟨c, ?_, g1, ?_, g5.1, g5.2.1, ?_, ?_, Or.inr ⟨s, ?_, q1, q3, ?_, Or.inr ⟨?_, ?_, Or.inr ⟨?_, h2⟩⟩⟩⟩⟩, f⟩
  · rw [z2 a (by omega)]; exact hc
  · exact g4.kept (fun b b1 b2 => z2 b (by omega)) (fun i _ => by rw [z2 _ (by omega)])
  · rw [z2 _ (by omega)]; exact g6.2.2.2
  · have := hcc.2.2.2.2.2.1
    unfold LstC at this ⊢
    rw [z2 (a + 229) (by omega)]
    rcases this with e | ⟨e, g⟩
    · exact Or.inl e
    · exact Or.inr ⟨e, g.kept (z2 _ (by omega)) (z2 _ (by omega)) (z2 _ (by omega))⟩
  · rw [z2 a (by omega)]; exact hs
  · exact (q4 : RmA x Z (a + 68) (S.nw.p c) (S.nw.F c) (S.nw.rw (2 + s)) σ).kept g3 (fun b b1 b2 => z2 b (by omega))
  · rw [z2 a (by omega)]; exact hr
  · exact (hcd.1 : CdA Z (a + 116) (S.nw.p c) (S.nw.F c) (S.nw.rw (2 + s))).kept g3 (fun i hi => by rw [h1]; exact if_neg (by omega)) (fun b hb => ho b (by omega))
  · rw [h1]; rfl
def aCode (T : Td) (c s w : Int) : Int := if fitB T c s = true ∧ 0 ≤ w ∧ (w ≤ 2 ∨ 100 ≤ w) then (if w = 0 then ((cdT (T.p c.toNat) (T.F c.toNat) (T.rw (2 + s.toNat))).1 : Nat) else if w = 1 then ((cdB (T.p c.toNat) (T.F c.toNat) (T.rw (2 + s.toNat))).2.2 : Nat) else if szF (T.p c.toNat) (cdB (T.p c.toNat) (T.F c.toNat) (T.rw (2 + s.toNat))).2.2 = -1 ∨ ((cdT (T.p c.toNat) (T.F c.toNat) (T.rw (2 + s.toNat))).1 : Int) < w - 100 then -1 else if w = 2 then lsN (wgF (T.p c.toNat) (T.F c.toNat) (T.rw (2 + s.toNat))) (cdT (T.p c.toNat) (T.F c.toNat) (T.rw (2 + s.toNat))).1 1 else wgF (T.p c.toNat) (T.F c.toNat) (T.rw (2 + s.toNat)) (w - 100).toNat) else -1
theorem sp_X11_code {k n : Nat} {x : Wx} {Z : Zt} {Q : Option Value → Wx → Zt → Prop} {a : Nat} {v s w : Int} (o : Is11 x a) {S : Ab} (hI : OI x Z a S) (hv : Rg v) (hs : Rg s) (hw : Rg w) (h : RAn a S x Z Q (aCode S.nw v s w)) : V mX11_code k n 0 [some (r_ a), some (i_ v), some (i_ s), some (i_ w)] [] x Z Q := by
  unfold aCode at h
  have no : ∀ (x' : Wx) (Z' : Zt), OI x' Z' a S → Fx a x x' Z Z' → ¬ (fitB S.nw v s = true ∧ 0 ≤ w ∧ (w ≤ 2 ∨ 100 ≤ w)) → V mX11_code k n 24 [none, none, none, none] [] x' Z' Q := fun x' Z' h1 h2 h3 => b_X11_code_24 (by rw [if_neg h3] at h; exact h x' Z' h1 h2)
  have go : 0 ≤ w ∧ (w ≤ 2 ∨ 100 ≤ w) → V mX11_code k n 15 [some (r_ a), some (i_ v), some (i_ s), some (i_ w)] [] x Z Q := fun hr => by
    refine b_X11_code_15 o ⟨S, hI, hv, hs, fun x1 Z1 r1 hq => ?_⟩
    obtain ⟨q1, q2, q3, q4⟩ := hq
    subst q3
    refine ⟨q1.1, bI_rg _, fun c1 => ?_, fun c1 => no x1 Z1 q1 q2 (fun e => by rw [bI_0 c1] at e; cases e.1)⟩
    have hf := bI_1 c1
    have hft := fitB_t hf
    obtain ⟨d, hd⟩ : ∃ d : Nat, v = (d : Int) := ⟨v.toNat, by omega⟩
    obtain ⟨t, ht⟩ : ∃ t : Nat, s = (t : Int) := ⟨s.toNat, by omega⟩
    rw [if_pos ⟨hf, hr⟩, hd, ht, Int.toNat_natCast, Int.toNat_natCast] at h
    refine ⟨S, d, t, q1, by rw [(q4 hf).1, hd], by rw [(q4 hf).2, ht], fun Z2 hz2 => ?_⟩
    obtain ⟨y1, y2, y3, y4, y5⟩ := hz2
    obtain ⟨g1, g2, g3, g4, g5, g6⟩ := y1.cv y3
    obtain ⟨w1, w2, w3, σ, w4, w5⟩ := y1.rm y3 y4
    have hcd := (w5.resolve_left (by omega)).2
    have hT := (cdT_rg g3 (S.nw.F d) (S.nw.rw (2 + t))).1
    have hp := g3.rg
    have hsz := szF_rg (p := S.nw.p d) ⟨by omega, by omega⟩ (cdB (S.nw.p d) (S.nw.F d) (S.nw.rw (2 + t))).2.2
    have c0 := hcd.1.1
    rw [c0.2.2.1, c0.1, c0.2.1]
    refine ⟨hw, fun c2 => ⟨fun c3 => ⟨⟨by omega, by omega⟩, fun c4 => b_X11_code_80 ?_, fun c4 => ⟨⟨by have := hw.1; omega, by have := hw.2; omega⟩, ⟨by omega, by omega⟩, fun c5 => ⟨S.nw.p d, S.nw.F d, S.nw.rw (2 + t), g3, g4.1.1, hcd.1, hcd.2, Or.inl (by omega), fun Z3 hz3 => ?_⟩, fun c5 => b_X11_code_80 ?_⟩⟩, fun c3 => ?_⟩, fun c2 => ?_⟩
    · rw [if_neg c2, if_neg c3, if_pos (Or.inl c4)] at h; exact h x1 Z2 y1 (q2.tr y2)
    · have hI3 := y1.cod y3 y4 y5 hz3.1 hz3.2.1 hz3.2.2
      rw [if_neg c2, if_neg c3, if_neg (by omega)] at h
      refine ⟨fun c6 => ⟨by omega, by omega, ?_⟩, fun c6 => ⟨(cdT (S.nw.p d) (S.nw.F d) (S.nw.rw (2 + t))).1, ⟨?_, hT⟩, fun i hi => ?_, ?_⟩⟩
      · rw [if_neg c6] at h
        rw [show Z3 (a + 117) (w - 100).toNat = _ from hz3.2.1 (w - 100).toNat (by omega)]; exact h x1 Z3 hI3.1 (q2.tr (y2.tr hI3.2))
      · rw [hz3.1]; exact c0.1
      · rw [hz3.2.1 i hi]
        have := wgN_rg (S.nw.p d) (S.nw.F d) (S.nw.rw (2 + t)) (szF (S.nw.p d) (cdB (S.nw.p d) (S.nw.F d) (S.nw.rw (2 + t))).2.2).toNat i
        exact ⟨by unfold wgF; omega, by unfold wgF; omega⟩
      · rw [if_pos c6] at h
        rw [lsN_ext (W' := wgF (S.nw.p d) (S.nw.F d) (S.nw.rw (2 + t))) (fun i h1 h2 => hz3.2.1 i (by omega))]
        exact h x1 Z3 hI3.1 (q2.tr (y2.tr hI3.2))
    · rw [if_neg c2, if_neg c3, if_pos (Or.inr c5)] at h; exact h x1 Z2 y1 (q2.tr y2)
    · rw [if_neg c2, if_pos c3] at h; exact h x1 Z2 y1 (q2.tr y2)
    · rw [if_pos c2] at h; exact h x1 Z2 y1 (q2.tr y2)
  exact b_X11_code_0 ⟨hw, fun c => no x Z hI Fx.rf (by omega), fun c => ⟨fun c2 => go (by omega), fun c2 => ⟨fun c3 => no x Z hI Fx.rf (by omega), fun c3 => go (by omega)⟩⟩⟩
def aSent (T : Td) (c s m i : Int) : Int := if fitB T c s = true ∧ 0 ≤ m ∧ 0 ≤ i ∧ i < ((cdT (T.p c.toNat) (T.F c.toNat) (T.rw (2 + s.toNat))).1 : Nat) then sntF (T.p c.toNat) (T.F c.toNat) (T.rw (2 + s.toNat)) m i.toNat else -1
theorem sp_X11_sent {k n : Nat} {x : Wx} {Z : Zt} {Q : Option Value → Wx → Zt → Prop} {a : Nat} {v s m i : Int} (o : Is11 x a) {S : Ab} (hI : OI x Z a S) (hv : Rg v) (hs : Rg s) (hm : Rg m) (hi : Rg i) (h : RAn a S x Z Q (aSent S.nw v s m i)) : V mX11_sent k n 0 [some (r_ a), some (i_ v), some (i_ s), some (i_ m), some (i_ i)] [] x Z Q := by
  unfold aSent at h
  have no : ∀ (x' : Wx) (Z' : Zt), OI x' Z' a S → Fx a x x' Z Z' → ¬ (fitB S.nw v s = true ∧ 0 ≤ m ∧ 0 ≤ i ∧ i < ((cdT (S.nw.p v.toNat) (S.nw.F v.toNat) (S.nw.rw (2 + s.toNat))).1 : Nat)) → Q (some (i_ (-1))) x' Z' := fun x' Z' h1 h2 h3 => by rw [if_neg h3] at h; exact h x' Z' h1 h2
  refine b_X11_sent_0 o ⟨hm, fun c => b_X11_sent_18 (no x Z hI Fx.rf (by omega)), fun c => ⟨hi, fun c0 => b_X11_sent_18 (no x Z hI Fx.rf (by omega)), fun c0 => ⟨S, hI, hv, hs, fun x1 Z1 r1 hq => ?_⟩⟩⟩
  obtain ⟨q1, q2, q3, q4⟩ := hq
  subst q3
  refine ⟨q1.1, bI_rg _, fun c1 => ?_, fun c1 => b_X11_sent_18 (no x1 Z1 q1 q2 (fun e => by rw [bI_0 c1] at e; cases e.1))⟩
  have hf := bI_1 c1
  have hft := fitB_t hf
  obtain ⟨d, hd⟩ : ∃ d : Nat, v = (d : Int) := ⟨v.toNat, by omega⟩
  obtain ⟨t, ht⟩ : ∃ t : Nat, s = (t : Int) := ⟨s.toNat, by omega⟩
  have e14 := (q4 hf).1
  have e15 := (q4 hf).2
  rw [hd, ht, Int.toNat_natCast, Int.toNat_natCast] at h no
  rw [hd, ht] at hf
  refine ⟨S, d, t, q1, by rw [e14, hd], by rw [e15, ht], fun Z2 hz2 => ?_⟩
  obtain ⟨y1, y2, y3, y4, y5⟩ := hz2
  obtain ⟨g1, g2, g3, g4, g5, g6⟩ := y1.cv y3
  obtain ⟨w1, w2, w3, σ, w4, w5⟩ := y1.rm y3 y4
  have hcd := (w5.resolve_left (by omega)).2
  have hT := (cdT_rg g3 (S.nw.F d) (S.nw.rw (2 + t))).1
  have c0' := hcd.1.1
  rw [c0'.1]
  refine ⟨⟨by omega, by omega⟩, fun c2 => ⟨S.nw.p d, S.nw.F d, S.nw.rw (2 + t), g3, g4.1.1, hcd.1, ⟨hm, c⟩, Or.inl (by omega), fun Z3 hz3 => ⟨by omega, ?_⟩⟩, fun c2 => no x1 Z2 y1 (q2.tr y2) (by omega)⟩
  have hI3 := y1.scr (Z' := Z3) (fun b hb h1 h2 => hz3.2 b (fun e => hb (by unfold Scr; omega))) (fun j _ => by rw [hz3.2 _ (by omega)]) (fun j _ _ => by rw [hz3.2 _ (by omega)])
  rw [if_pos ⟨hf, c, c0, c2⟩] at h
  rw [show Z3 (a + 118) i.toNat = _ from hz3.1 i.toNat (by omega)]; exact h x1 Z3 hI3.1 (q2.tr (y2.tr hI3.2))
theorem mdN_ext {p : Int} {F r D D' : Nat → Int} (h : ∀ i : Nat, i < (cdT p F r).1 → D i = D' i) : ∀ n : Nat, mdN p F r D n = mdN p F r D' n
  | 0 => rfl
  | n + 1 => by
    show mdS _ (mdN p F r D n) = mdS _ (mdN p F r D' n)
    rw [mdN_ext h n, unl_ext (A := wdC p F r n) (A' := wdC p F r n) (fun i hi => ⟨rfl, h i hi⟩)]
def mdW (p : Int) (F r : Nat → Int) (m e sd : Int) : Nat → Int := dst p (cdT p F r).1 e.toNat sd (sntF p F r m)
def mdV (p : Int) (F r : Nat → Int) (m e sd w : Int) : Int := if szF p (cdB p F r).2.2 = -1 ∨ (cdT p F r).1 = 0 then -1 else if w = 0 then (mdN p F r (mdW p F r m e sd) (szF p (cdB p F r).2.2).toNat).1 else if w = 1 then (mdN p F r (mdW p F r m e sd) (szF p (cdB p F r).2.2).toNat).2 else bI (decide (unl (sntF p F r m) (mdW p F r m e sd) (cdT p F r).1 = (mdN p F r (mdW p F r m e sd) (szF p (cdB p F r).2.2).toNat).1))
def aMended (T : Td) (c s m e sd w : Int) : Int := if fitB T c s = true ∧ 0 ≤ m ∧ (0 ≤ e ∧ e ≤ 9) ∧ 0 ≤ w ∧ w ≤ 2 then mdV (T.p c.toNat) (T.F c.toNat) (T.rw (2 + s.toNat)) m e sd w else -1
theorem sntF_rg {p : Int} (hp : 1 < p) (F r : Nat → Int) (m : Int) (i : Nat) : 0 ≤ sntF p F r m i ∧ sntF p F r m i < p := by
  unfold sntF
  split
  · exact lcw_rg (by omega) _ _ _ _
  · omega
theorem sp_X11_mended {k n : Nat} {x : Wx} {Z : Zt} {Q : Option Value → Wx → Zt → Prop} {a : Nat} {v s m e sd w : Int} (o : Is11 x a) {S : Ab} (hI : OI x Z a S) (hv : Rg v) (hs : Rg s) (hm : Rg m) (he : Rg e) (hw : Rg w) (h : RAn a S x Z Q (aMended S.nw v s m e sd w)) : V mX11_mended k n 0 [some (r_ a), some (i_ v), some (i_ s), some (i_ m), some (i_ e), some (i_ sd), some (i_ w)] [] x Z Q := by
  unfold aMended at h
  have no : ∀ (x' : Wx) (Z' : Zt), OI x' Z' a S → Fx a x x' Z Z' → ¬ (fitB S.nw v s = true ∧ 0 ≤ m ∧ (0 ≤ e ∧ e ≤ 9) ∧ 0 ≤ w ∧ w ≤ 2) → V mX11_mended k n 36 [none, none, none, none, none, none, none] [] x' Z' Q := fun x' Z' h1 h2 h3 => b_X11_mended_36 (by rw [if_neg h3] at h; exact h x' Z' h1 h2)
  refine b_X11_mended_0 o ⟨hm, fun c => no x Z hI Fx.rf (by omega), fun c => ⟨he, fun c0 => no x Z hI Fx.rf (by omega), fun c0 => ⟨fun c1 => no x Z hI Fx.rf (by omega), fun c1 => ⟨hw, fun c2 => no x Z hI Fx.rf (by omega), fun c2 => ⟨fun c3 => no x Z hI Fx.rf (by omega), fun c3 => ⟨S, hI, hv, hs, fun x1 Z1 r1 hq => ?_⟩⟩⟩⟩⟩⟩
  obtain ⟨q1, q2, q3, q4⟩ := hq
  subst q3
  refine ⟨q1.1, bI_rg _, fun c4 => ?_, fun c4 => no x1 Z1 q1 q2 (fun e => by rw [bI_0 c4] at e; cases e.1)⟩
  have hf := bI_1 c4
  have hft := fitB_t hf
  obtain ⟨d, hd⟩ : ∃ d : Nat, v = (d : Int) := ⟨v.toNat, by omega⟩
  obtain ⟨t, ht⟩ : ∃ t : Nat, s = (t : Int) := ⟨s.toNat, by omega⟩
  have e14 := (q4 hf).1
  have e15 := (q4 hf).2
  rw [if_pos ⟨hf, c, ⟨c0, c1⟩, c2, c3⟩, hd, ht, Int.toNat_natCast, Int.toNat_natCast] at h
  refine ⟨S, d, t, q1, by rw [e14, hd], by rw [e15, ht], fun Z2 hz2 => ?_⟩
  obtain ⟨y1, y2, y3, y4, y5⟩ := hz2
  obtain ⟨g1, g2, g3, g4, g5, g6⟩ := y1.cv y3
  obtain ⟨w1, w2, w3, σ, w4, w5⟩ := y1.rm y3 y4
  have hcd := (w5.resolve_left (by omega)).2
  have hp := g3.rg
  have hT := (cdT_rg g3 (S.nw.F d) (S.nw.rw (2 + t))).1
  have c0' := hcd.1.1
  have hA2 := hcd.1
  have ep : Z2 (a + 41) 0 = S.nw.p d := g4.1.1
  generalize S.nw.p d = p at *
  generalize S.nw.F d = F at *
  generalize S.nw.rw (2 + t) = r at *
  have hsz := szF_rg (p := p) ⟨by omega, by omega⟩ (cdB p F r).2.2
  have hsn := sntF_rg (p := p) (by omega) F r m
  unfold mdV at h
  rw [c0'.1, c0'.2.2.1]
  refine ⟨⟨by omega, by omega⟩, fun c5 => b_X11_mended_63 ?_, fun c5 => ⟨⟨by omega, by omega⟩, fun c6 => ⟨p, F, r, g3, ep, hA2, ⟨hm, c⟩, Or.inl (by omega), fun Z3 hz3 => ?_⟩, fun c6 => b_X11_mended_63 ?_⟩⟩
  · rw [if_pos (Or.inl c5)] at h; exact h x1 Z2 y1 (q2.tr y2)
  · refine ⟨p, (cdT p F r).1, sntF p F r m, g3, ?_, ⟨?_, by omega, hT⟩, fun i hi => ⟨hz3.1 i hi, hsn i⟩, ⟨c0, c1⟩, Or.inl (by omega), fun Z4 hz4 => ?_⟩
    · rw [hz3.2 _ (by omega)]; exact ep
    · rw [hz3.2 _ (by omega)]; exact c0'.1
    · have hA4 : CdA Z4 (a + 116) p F r := hA2.kept g3 (fun i _ => by rw [hz4.2 _ (by omega), hz3.2 _ (by omega)]) (fun b hb => by rw [hz4.2 _ (by omega), hz3.2 _ (by omega)])
      refine ⟨p, F, r, g3, ?_, hA4, fun i hi => (hz4.1 i hi).2, Or.inl (by omega), fun Z5 hz5 => ?_⟩
      · rw [hz4.2 _ (by omega), hz3.2 _ (by omega)]; exact ep
      · have z5 : ∀ b, b ≠ a + 116 → ¬ (b = a + 118 ∨ (a + 226 ≤ b ∧ b < a + 229)) → Z5 b = Z2 b := fun b h1 h2 => by rw [hz5.2 b (by omega), hz4.2 b (by omega), hz3.2 b (by omega)]
        have hI5 := y1.scr (Z' := Z5) (fun b hb h1 h2 => z5 b h2 (fun e => hb (by unfold Scr; omega))) (fun j _ => by rw [z5 _ (by omega) (by omega)]) (fun j h3 h4 => by rw [hz5.1]; dsimp only; rw [if_neg h3, if_neg h4, hz4.2 _ (by omega), hz3.2 _ (by omega)])
        have hmd : ∀ N : Nat, mdN p F r (Z4 (a + 116 + 110)) N = mdN p F r (mdW p F r m e sd) N := fun N => mdN_ext (fun i hi => (hz4.1 i (by omega)).1) N
        have hmr := mdN_rg p F r (mdW p F r m e sd) (szF p (cdB p F r).2.2).toNat
        have e53 : Z5 (a + 116) 3 = (mdN p F r (mdW p F r m e sd) (szF p (cdB p F r).2.2).toNat).1 := by rw [hz5.1, ← hmd]; rfl
        have e54 : Z5 (a + 116) 4 = (mdN p F r (mdW p F r m e sd) (szF p (cdB p F r).2.2).toNat).2 := by rw [hz5.1, ← hmd]; rfl
        have e50 : Z5 (a + 116) 0 = ((cdT p F r).1 : Int) := by rw [hz5.1]; show Z4 (a + 116) 0 = _; rw [hz4.2 _ (by omega), hz3.2 _ (by omega)]; exact c0'.1
        have e52 : ∀ i : Nat, i < 26 → Z5 (a + 116 + 2) i = sntF p F r m i := fun i hi => by rw [hz5.2 _ (by omega), hz4.2 _ (by omega)]; exact hz3.1 i hi
        have e5d : ∀ i : Nat, i < 26 → Z5 (a + 116 + 110) i = mdW p F r m e sd i := fun i hi => by rw [hz5.2 _ (by omega)]; exact (hz4.1 i hi).1
        have hfx := q2.tr (y2.tr hI5.2)
        rw [if_neg (by omega)] at h
        rw [e53, e54]
        refine ⟨fun c7 => ⟨fun c8 => ⟨(cdT p F r).1, ⟨e50, hT⟩, fun i hi => ⟨?_, ?_⟩, ⟨by omega, by omega⟩, bI_rg _, ?_⟩, fun c8 => ?_⟩, fun c7 => ?_⟩
        · rw [e52 i (by omega)]; have := hsn i; exact ⟨by omega, by omega⟩
        · have := (hz4.1 i (by omega)).2
          rw [hz5.2 _ (by omega)]; exact ⟨by omega, by omega⟩
        · rw [unl_ext (A' := sntF p F r m) (D' := mdW p F r m e sd) (fun i hi => ⟨e52 i (by omega), e5d i (by omega)⟩)]
          rw [if_neg c7, if_neg c8] at h
          refine ⟨fun c9 => ?_, fun c9 => ?_⟩
          · rw [c9] at h; exact h x1 Z5 hI5.1 hfx
          · rw [bI_1 c9] at h; exact h x1 Z5 hI5.1 hfx
        · rw [if_neg c7, if_pos c8] at h; exact h x1 Z5 hI5.1 hfx
        · rw [if_pos c7] at h; exact h x1 Z5 hI5.1 hfx
  · rw [if_pos (Or.inr (by omega))] at h; exact h x1 Z2 y1 (q2.tr y2)
