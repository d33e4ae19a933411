/-! ===== the law: each call, both sides ===== -/
theorem Cch.out {x : Wx} {Z Z' : Zt} {a : Nat} {T : Td} {σ : Nat → Nat} (hV : TdV T) (h : Cch x Z a T σ) (h0 : ∀ b, b < a + 292 → Z' b = Z b) : Cch x Z' a T σ := by
  unfold Cch at h ⊢
  rw [h0 a (by omega)]
  rcases h with h | ⟨c, hc, g1, g2, g3, g4, g5, g6, g7⟩
  · exact Or.inl h
  · have hp := (hV.2.2.2.2.2.2.2.1 c g1).1
    refine Or.inr ⟨c, hc, ?_⟩
    unfold CrvC
    refine ⟨g1, g2.kept (fun b b1 b2 => h0 b (by omega)) (fun i _ => by rw [h0 _ (by omega)]), g3, g4, ?_, ?_, ?_⟩
    · rw [h0 _ (by omega)]; exact g5
    · unfold LstC at g6 ⊢
      rw [h0 (a + 229) (by omega)]
      rcases g6 with e | ⟨e, g⟩
      · exact Or.inl e
      · exact Or.inr ⟨e, g.kept (h0 _ (by omega)) (h0 _ (by omega)) (h0 _ (by omega))⟩
    · unfold SumC at g7 ⊢
      rw [h0 a (by omega)]
      rcases g7 with g7 | ⟨s, q1, q2, q3, q4, q5⟩
      · exact Or.inl g7
      · refine Or.inr ⟨s, q1, q2, q3, q4.kept hp (fun b b1 b2 => h0 b (by omega)), ?_⟩
        rcases q5 with e | ⟨e, w1, w2⟩
        · exact Or.inl e
        · refine Or.inr ⟨e, w1.kept hp (fun i hi => by rw [h0 _ (by omega)]) (fun b hb => h0 b (by omega)), ?_⟩
          rw [h0 (a + 116) (by omega), h0 (a + 116 + 1) (by omega)]; exact w2
theorem OI.out {x : Wx} {Z Z' : Zt} {a : Nat} {S : Ab} (h : OI x Z a S) (h0 : ∀ b, (b < a + 292 ∨ a + 318 ≤ b) → Z' b = Z b) : OI x Z' a S := by
  obtain ⟨o, hk, hr, ht, hi, hV, σ, hl, hc⟩ := h
  refine ⟨o, ?_, hr, ht.kept (fun b b1 b2 => h0 b (by omega)), ⟨hi.1, fun k b hk hb => ?_, hi.2.2⟩, hV, σ, hl, hc.out hV.1 (fun b hb => h0 b (Or.inl hb))⟩
  · obtain ⟨h1, h2, h3, h4, h5⟩ := hk
    have hb : ∀ j : Nat, j < 3 → Z' (x.2.2.2 j) = Z (x.2.2.2 j) := fun j hj => h0 _ (by have := h5.1 j hj; omega)
    refine ⟨h1, ?_, h3, ?_, h5⟩
    · unfold KW; rw [hb 0 (by decide), hb 1 (by decide), hb 2 (by decide)]; exact h2
    · intro j hj i hi
      rw [h0 _ (by have := h5.2 j hj; omega)]; exact h4 j hj i hi
  · obtain ⟨g1, g2, g3, T, g4, g5⟩ := hi.2.1 k b hk hb
    exact ⟨g1, g2, g3, T, g4, g5.kept (fun q q1 q2 => h0 q (by omega))⟩
theorem MI.to {x x' : Wx} {Z Z' : Zt} {b : Nat} {S : Ab} (h : MI x Z b S) (h1 : ∀ c : Nat, b ≤ c → c < b + 26 → x'.1 c = x.1 c) (h2 : ∀ c : Nat, b ≤ c → c < b + 26 → x'.2.1 c = x.2.1 c) (h3 : ∀ c : Nat, b ≤ c → c < b + 26 → Z' c = Z c) : MI x' Z' b S := by
  obtain ⟨o, h4, h5⟩ := h
  refine ⟨o.gr h1 (fun c j c1 c2 _ => by rw [h2 c c1 c2]), by rw [h3 _ (by omega) (by omega)]; exact h4, fun q hq => ?_⟩
  rw [h3 (b + 2) (by omega) (by omega), h3 (b + 1) (by omega) (by omega)]
  exact h5 q hq
/-- between the rounds: both objects keep the same, the script lies below -/
def LI (x : Wx) (Z : Zt) (s a : Nat) (S : Ab) (L : Nat) : Prop := OI x Z a S ∧ MI x Z (a + 292) S ∧ x.1 s = some (200, L) ∧ (∀ j : Nat, j < L → Rg (Z s j)) ∧ s < a ∧ a + 318 ≤ x.2.2.1 ∧ L ≤ 3584
theorem LI.a {x x1 : Wx} {Z Z1 : Zt} {s a : Nat} {S : Ab} {L : Nat} (h : LI x Z s a S L) (f : Fx a x x1 Z Z1) : MI x1 Z1 (a + 292) S ∧ x1.1 s = some (200, L) ∧ Z1 s = Z s := by
  obtain ⟨h1, h2, h3, h4, h5, h6, h7⟩ := h
  obtain ⟨f1, f2, f3, f4⟩ := f
  exact ⟨h2.to (fun c _ _ => by rw [f1]) (fun c c1 _ => (f3 c (by omega)).1) (fun c c1 _ => (f3 c (by omega)).2), by rw [f1]; exact h3, (f3 s (by omega)).2⟩
theorem LI.w {x x1 : Wx} {Z Z1 Z2 : Zt} {s a : Nat} {S S1 : Ab} {L : Nat} (h : LI x Z s a S L) (o : OI x1 Z1 a S1) (f : Fx a x x1 Z Z1) (m : MI x1 Z2 (a + 292) S1) (w : Mw (a + 292) Z1 Z2) : LI x1 Z2 s a S1 L := by
  obtain ⟨m1, s1, e1⟩ := h.a f
  obtain ⟨h1, h2, h3, h4, h5, h6, h7⟩ := h
  refine ⟨o.out (fun b hb => w b (by omega)), m, s1, fun j hj => ?_, h5, by rw [f.2.1]; exact h6, h7⟩
  rw [w s (by omega), e1]; exact h4 j hj
theorem LI.q {x x1 : Wx} {Z Z1 Z2 : Zt} {s a : Nat} {S : Ab} {L : Nat} (h : LI x Z s a S L) (o : OI x1 Z1 a S) (f : Fx a x x1 Z Z1) (q : Mq (a + 292) Z1 Z2) : LI x1 Z2 s a S L := h.w o f ((h.a f).1.mq q) q.2.2
/-- what is still to be shown of the answers: that both sides say the same -/
def Ties : Prop := ∀ T : Td, TdV T →
  (∀ c f v : Int, aOrder T c f v = mAOrder T c f v) ∧ (∀ c f w : Int, aNorm T c f w = mANorm T c f w) ∧
  (∀ c s w : Int, aRoom T c s w = mARoom T c s w) ∧ (∀ c s q y i : Int, aBase T c s q y i = mABase T c s q y i) ∧
  (∀ c s i : Int, aUnder T c s i = mAUnder T c s i) ∧ (∀ c v i : Int, aGap T c v i = mAGap T c v i) ∧
  (∀ c s m w : Int, aTimes T c s m w = mATimes T c s m w) ∧ (∀ c s t w : Int, aAdded T c s t w = mAAdded T c s t w) ∧
  (∀ c s : Int, ∃ N : Nat, N ≤ 1000 ∧ (fitB T c s = true → pd (addN (T.p c.toNat) (T.F c.toNat) (T.g c.toNat) (T.mK c.toNat s.toNat) N (T.mK c.toNat s.toNat)).1 ≤ 0) ∧ aOrderOf T c s = mAOrderOf T N c s) ∧
  (∀ c s t : Int, aSame T c s t ↔ mASame T c s t) ∧
  (∀ c s t : Int, ∃ N : Nat, (1 ≤ N ∧ N ≤ 1000) ∧ ((fitB T c s && fitB T c t) = true → pd (addN (T.p c.toNat) (T.F c.toNat) (T.g c.toNat) (T.mK c.toNat s.toNat) N czero).1 ≤ 0) ∧ aLog T c s t = mALog T N c s t) ∧
  (∀ c d : Int, ((0 ≤ c ∧ c < T.ct 0) → (mAl (T.p c.toNat) (T.F c.toNat)).length ≤ 579) ∧ aTorsion T c d = mATorsion T c d) ∧
  (∀ c s w : Int, aCode T c s w = mACode T c s w) ∧ (∀ c s m i : Int, aSent T c s m i = mASent T c s m i) ∧ (∀ c s m e sd w : Int, aMended T c s m e sd w = mAMended T c s m e sd w)
theorem TxR.eq {T : Td} {t e : Int} {f r : Nat → Int} {a1 a2 : Int} {T1 T2 : Td} (h1 : TxR T t e f r a1 T1) (h2 : TxR T t e f r a2 T2) : a1 = a2 ∧ T1 = T2 := by
  rcases h1 with ⟨p1, q1, r1⟩ | ⟨p1, q1, r1, s1⟩ | ⟨p1, q1, r1, s1⟩ <;> rcases h2 with ⟨p2, q2, r2⟩ | ⟨p2, q2, r2, s2⟩ | ⟨p2, q2, r2, s2⟩
  · exact ⟨by rw [q1, q2], by rw [r1, r2]⟩
  · exact absurd p2 p1
  · exact absurd p2 p1
  · exact absurd p1 p2
  · exact ⟨by rw [r1, r2], by rw [s1, s2]⟩
  · exact absurd q2 q1
  · exact absurd p1 p2
  · exact absurd q1 q2
  · exact ⟨by rw [r1, r2], by rw [s1, s2]⟩
theorem lw_feed (hT : Ties) {k n : Nat} {x : Wx} {Z : Zt} {Q : Option Value → Wx → Zt → Prop} {s a L : Nat} {v : Int} {S : Ab} (hL : LI x Z s a S L) (hv : 0 ≤ v ∧ v + 7 ≤ L) (nx : ∀ (x1 : Wx) (Z1 : Zt) (S1 : Ab), LI x1 Z1 s a S1 L → V mL_law k n 1513 [some (r_ s), some (r_ a), some (r_ (a + 292)), some (i_ v)] [] x1 Z1 Q) : V mL_law k n 176 [some (r_ s), some (r_ a), some (r_ (a + 292)), some (i_ v)] [] x Z Q := by
  obtain ⟨hO, hM, hs, hr, ha, hx, hl⟩ := id hL
  have hV := hO.2.2.2.2.2.1
  refine b_L_law_176 hO.1 hs (by omega) ⟨by omega, by omega, by omega, by omega, by omega, by omega, by omega, by omega, by omega, by omega, sp_X11_feed hO.1 hO  (fun Z1 o1 f1 => ?_)⟩
  obtain ⟨m1, s1, e1⟩ := hL.a f1
  refine (show V mL_law k n 205 [some (r_ s), some (r_ a), some (r_ (a + 292)), some (i_ v)] [i_ (aFeed S.nw)] x Z1 Q from b_L_law_205 m1.1 s1 (by omega) ?_)
  rw [e1]
  refine ⟨by omega, by omega, by omega, by omega, by omega, by omega, by omega, by omega, by omega, by omega, sp_X12_feed m1 hV ⟨(hr _ (by omega)), (hr _ (by omega)), (hr _ (by omega)), (hr _ (by omega)), (hr _ (by omega))⟩ (fun Z2 m2 w2 => ?_)⟩
  exact (show V mL_law k n 234 [some (r_ s), some (r_ a), some (r_ (a + 292)), some (i_ v)] [i_ (aFeed S.nw), i_ (aFeed S.nw)] x Z2 Q from b_L_law_234 ⟨rfl, nx x Z2 _ (hL.w o1 f1 m2 w2)⟩)
theorem lw_end (hT : Ties) {k n : Nat} {x : Wx} {Z : Zt} {Q : Option Value → Wx → Zt → Prop} {s a L : Nat} {v : Int} {S : Ab} (hL : LI x Z s a S L) (hv : 0 ≤ v ∧ v + 7 ≤ L) (nx : ∀ (x1 : Wx) (Z1 : Zt) (S1 : Ab), LI x1 Z1 s a S1 L → V mL_law k n 1513 [some (r_ s), some (r_ a), some (r_ (a + 292)), some (i_ v)] [] x1 Z1 Q) : V mL_law k n 239 [some (r_ s), some (r_ a), some (r_ (a + 292)), some (i_ v)] [] x Z Q := by
  obtain ⟨hO, hM, hs, hr, ha, hx, hl⟩ := id hL
  have hV := hO.2.2.2.2.2.1
  refine b_L_law_239 hO.1 hs (by omega) ⟨by omega, by omega, sp_X11_end hO.1 hO (hr _ (by omega)) (fun Z1 o1 f1 => ?_)⟩
  obtain ⟨m1, s1, e1⟩ := hL.a f1
  refine (show V mL_law k n 248 [some (r_ s), some (r_ a), some (r_ (a + 292)), some (i_ v)] [i_ (aEnd S.nw (Z s (v + 1).toNat))] x Z1 Q from b_L_law_248 m1.1 s1 (by omega) ?_)
  rw [e1]
  refine ⟨by omega, by omega, sp_X12_end m1 hV (hr _ (by omega)) (fun Z2 m2 w2 => ?_)⟩
  exact (show V mL_law k n 257 [some (r_ s), some (r_ a), some (r_ (a + 292)), some (i_ v)] [i_ (aEnd S.nw (Z s (v + 1).toNat)), i_ (aEnd S.nw (Z s (v + 1).toNat))] x Z2 Q from b_L_law_257 ⟨rfl, nx x Z2 _ (hL.w o1 f1 m2 w2)⟩)
theorem lw_text (hT : Ties) {k n : Nat} {x : Wx} {Z : Zt} {Q : Option Value → Wx → Zt → Prop} {s a L : Nat} {v : Int} {S : Ab} (hL : LI x Z s a S L) (hv : 0 ≤ v ∧ v + 7 ≤ L) (nx : ∀ (x1 : Wx) (Z1 : Zt) (S1 : Ab), LI x1 Z1 s a S1 L → V mL_law k n 1513 [some (r_ s), some (r_ a), some (r_ (a + 292)), some (i_ v)] [] x1 Z1 Q) : V mL_law k n 262 [some (r_ s), some (r_ a), some (r_ (a + 292)), some (i_ v)] [] x Z Q := by
  obtain ⟨hO, hM, hs, hr, ha, hx, hl⟩ := id hL
  have hV := hO.2.2.2.2.2.1
  refine b_L_law_262 hO.1 hs (by omega) ⟨by omega, by omega, by omega, by omega, sp_X11_text hO.1 hO (hr _ (by omega)) (hr _ (by omega)) (fun Z1 f r ans T1 ht o1 f1 => ?_)⟩
  obtain ⟨m1, s1, e1⟩ := hL.a f1
  refine (show V mL_law k n 276 [some (r_ s), some (r_ a), some (r_ (a + 292)), some (i_ v)] [i_ ans] x Z1 Q from b_L_law_276 m1.1 s1 (by omega) ?_)
  rw [e1]
  refine ⟨by omega, by omega, by omega, by omega, sp_X12_text f r m1 hV (hr _ (by omega)) (hr _ (by omega)) (fun Z2 ans2 T2 ht2 m2 w2 => ?_)⟩
  obtain ⟨e2, e3⟩ := ht.eq ht2
  subst e2 e3
  exact (show V mL_law k n 290 [some (r_ s), some (r_ a), some (r_ (a + 292)), some (i_ v)] [i_ ans, i_ ans] x Z2 Q from b_L_law_290 ⟨rfl, nx x Z2 _ (hL.w o1 f1 m2 w2)⟩)
theorem lw_fault (hT : Ties) {k n : Nat} {x : Wx} {Z : Zt} {Q : Option Value → Wx → Zt → Prop} {s a L : Nat} {v : Int} {S : Ab} (hL : LI x Z s a S L) (hv : 0 ≤ v ∧ v + 7 ≤ L) (nx : ∀ (x1 : Wx) (Z1 : Zt) (S1 : Ab), LI x1 Z1 s a S1 L → V mL_law k n 1513 [some (r_ s), some (r_ a), some (r_ (a + 292)), some (i_ v)] [] x1 Z1 Q) : V mL_law k n 295 [some (r_ s), some (r_ a), some (r_ (a + 292)), some (i_ v)] [] x Z Q := by
  obtain ⟨hO, hM, hs, hr, ha, hx, hl⟩ := id hL
  have hV := hO.2.2.2.2.2.1
  refine b_L_law_295 hO.1 hs (by omega) ⟨by omega, by omega, sp_X11_fault hO.1 hO (hr _ (by omega)) (fun x1 Z1 o1 f1 => ?_)⟩
  obtain ⟨m1, s1, e1⟩ := hL.a f1
  refine (show V mL_law k n 304 [some (r_ s), some (r_ a), some (r_ (a + 292)), some (i_ v)] [i_ (aFault S.nw (Z s (v + 1).toNat))] x1 Z1 Q from b_L_law_304 m1.1 s1 (by omega) ?_)
  rw [e1]
  refine ⟨by omega, by omega, sp_X12_fault m1 (hr _ (by omega)) (fun Z2 hq => ?_)⟩
  exact (show V mL_law k n 313 [some (r_ s), some (r_ a), some (r_ (a + 292)), some (i_ v)] [i_ (aFault S.nw (Z s (v + 1).toNat)), i_ (aFault S.nw (Z s (v + 1).toNat))] x1 Z2 Q from b_L_law_313 ⟨rfl, nx x1 Z2 S (hL.q o1 f1 hq)⟩)
theorem lw_curve (hT : Ties) {k n : Nat} {x : Wx} {Z : Zt} {Q : Option Value → Wx → Zt → Prop} {s a L : Nat} {v : Int} {S : Ab} (hL : LI x Z s a S L) (hv : 0 ≤ v ∧ v + 7 ≤ L) (nx : ∀ (x1 : Wx) (Z1 : Zt) (S1 : Ab), LI x1 Z1 s a S1 L → V mL_law k n 1513 [some (r_ s), some (r_ a), some (r_ (a + 292)), some (i_ v)] [] x1 Z1 Q) : V mL_law k n 318 [some (r_ s), some (r_ a), some (r_ (a + 292)), some (i_ v)] [] x Z Q := by
  obtain ⟨hO, hM, hs, hr, ha, hx, hl⟩ := id hL
  have hV := hO.2.2.2.2.2.1
  refine b_L_law_318 hO.1 hs (by omega) ⟨by omega, by omega, by omega, by omega, sp_X11_curve hO.1 hO (hr _ (by omega)) (hr _ (by omega)) (fun x1 Z1 o1 f1 => ?_)⟩
  obtain ⟨m1, s1, e1⟩ := hL.a f1
  refine (show V mL_law k n 332 [some (r_ s), some (r_ a), some (r_ (a + 292)), some (i_ v)] [i_ (aCurve S.nw (Z s (v + 1).toNat) (Z s (v + 2).toNat))] x1 Z1 Q from b_L_law_332 m1.1 s1 (by omega) ?_)
  rw [e1]
  refine ⟨by omega, by omega, by omega, by omega, sp_X12_curve m1 hV (hr _ (by omega)) (hr _ (by omega)) (fun Z2 hq => ?_)⟩
  exact (show V mL_law k n 346 [some (r_ s), some (r_ a), some (r_ (a + 292)), some (i_ v)] [i_ (aCurve S.nw (Z s (v + 1).toNat) (Z s (v + 2).toNat)), i_ (aCurve S.nw (Z s (v + 1).toNat) (Z s (v + 2).toNat))] x1 Z2 Q from b_L_law_346 ⟨rfl, nx x1 Z2 S (hL.q o1 f1 hq)⟩)
theorem lw_sum (hT : Ties) {k n : Nat} {x : Wx} {Z : Zt} {Q : Option Value → Wx → Zt → Prop} {s a L : Nat} {v : Int} {S : Ab} (hL : LI x Z s a S L) (hv : 0 ≤ v ∧ v + 7 ≤ L) (nx : ∀ (x1 : Wx) (Z1 : Zt) (S1 : Ab), LI x1 Z1 s a S1 L → V mL_law k n 1513 [some (r_ s), some (r_ a), some (r_ (a + 292)), some (i_ v)] [] x1 Z1 Q) : V mL_law k n 351 [some (r_ s), some (r_ a), some (r_ (a + 292)), some (i_ v)] [] x Z Q := by
  obtain ⟨hO, hM, hs, hr, ha, hx, hl⟩ := id hL
  have hV := hO.2.2.2.2.2.1
  refine b_L_law_351 hO.1 hs (by omega) ⟨by omega, by omega, by omega, by omega, sp_X11_sum hO.1 hO (hr _ (by omega)) (hr _ (by omega)) (fun x1 Z1 o1 f1 => ?_)⟩
  obtain ⟨m1, s1, e1⟩ := hL.a f1
  refine (show V mL_law k n 365 [some (r_ s), some (r_ a), some (r_ (a + 292)), some (i_ v)] [i_ (aSum S.nw (Z s (v + 1).toNat) (Z s (v + 2).toNat))] x1 Z1 Q from b_L_law_365 m1.1 s1 (by omega) ?_)
  rw [e1]
  refine ⟨by omega, by omega, by omega, by omega, sp_X12_sum m1 hV (hr _ (by omega)) (hr _ (by omega)) (fun Z2 hq => ?_)⟩
  exact (show V mL_law k n 379 [some (r_ s), some (r_ a), some (r_ (a + 292)), some (i_ v)] [i_ (aSum S.nw (Z s (v + 1).toNat) (Z s (v + 2).toNat)), i_ (aSum S.nw (Z s (v + 1).toNat) (Z s (v + 2).toNat))] x1 Z2 Q from b_L_law_379 ⟨rfl, nx x1 Z2 S (hL.q o1 f1 hq)⟩)
theorem lw_function (hT : Ties) {k n : Nat} {x : Wx} {Z : Zt} {Q : Option Value → Wx → Zt → Prop} {s a L : Nat} {v : Int} {S : Ab} (hL : LI x Z s a S L) (hv : 0 ≤ v ∧ v + 7 ≤ L) (nx : ∀ (x1 : Wx) (Z1 : Zt) (S1 : Ab), LI x1 Z1 s a S1 L → V mL_law k n 1513 [some (r_ s), some (r_ a), some (r_ (a + 292)), some (i_ v)] [] x1 Z1 Q) : V mL_law k n 384 [some (r_ s), some (r_ a), some (r_ (a + 292)), some (i_ v)] [] x Z Q := by
  obtain ⟨hO, hM, hs, hr, ha, hx, hl⟩ := id hL
  have hV := hO.2.2.2.2.2.1
  refine b_L_law_384 hO.1 hs (by omega) ⟨by omega, by omega, by omega, by omega, hr _ (by omega), fun c1 => ⟨by omega, by omega, ?_⟩, fun c1 => ⟨by omega, by omega, ?_⟩⟩
  · refine sp_X11_function hO.1 hO (hr _ (by omega)) (rg_c rfl) (hr _ (by omega)) (fun x1 Z1 o1 f1 => ?_)
    obtain ⟨m1, s1, e1⟩ := hL.a f1
    refine (show V mL_law k n 411 [some (r_ s), some (r_ a), some (r_ (a + 292)), some (i_ v)] [i_ (aFunction S.nw (Z s (v + 1).toNat) 0 (Z s (v + 3).toNat))] x1 Z1 Q from b_L_law_411 m1.1 s1 (by omega) ?_)
    rw [e1]
    refine ⟨by omega, by omega, by omega, by omega, hr _ (by omega), fun _ => ⟨by omega, by omega, sp_X12_function m1 hV (hr _ (by omega)) (rg_c rfl) (hr _ (by omega)) (fun Z2 hq => ?_)⟩, fun c2 => absurd c1 c2⟩
    exact (show V mL_law k n 438 [some (r_ s), some (r_ a), some (r_ (a + 292)), some (i_ v)] [i_ (aFunction S.nw (Z s (v + 1).toNat) 0 (Z s (v + 3).toNat)), i_ (aFunction S.nw (Z s (v + 1).toNat) 0 (Z s (v + 3).toNat))] x1 Z2 Q from b_L_law_438 ⟨rfl, nx x1 Z2 S (hL.q o1 f1 hq)⟩)
  · refine sp_X11_function hO.1 hO (hr _ (by omega)) (rg_c rfl) (hr _ (by omega)) (fun x1 Z1 o1 f1 => ?_)
    obtain ⟨m1, s1, e1⟩ := hL.a f1
    refine (show V mL_law k n 411 [some (r_ s), some (r_ a), some (r_ (a + 292)), some (i_ v)] [i_ (aFunction S.nw (Z s (v + 1).toNat) 1 (Z s (v + 3).toNat))] x1 Z1 Q from b_L_law_411 m1.1 s1 (by omega) ?_)
    rw [e1]
    refine ⟨by omega, by omega, by omega, by omega, hr _ (by omega), fun c2 => absurd c2 c1, fun _ => ⟨by omega, by omega, sp_X12_function m1 hV (hr _ (by omega)) (rg_c rfl) (hr _ (by omega)) (fun Z2 hq => ?_)⟩⟩
    exact (show V mL_law k n 438 [some (r_ s), some (r_ a), some (r_ (a + 292)), some (i_ v)] [i_ (aFunction S.nw (Z s (v + 1).toNat) 1 (Z s (v + 3).toNat)), i_ (aFunction S.nw (Z s (v + 1).toNat) 1 (Z s (v + 3).toNat))] x1 Z2 Q from b_L_law_438 ⟨rfl, nx x1 Z2 S (hL.q o1 f1 hq)⟩)
theorem lw_point (hT : Ties) {k n : Nat} {x : Wx} {Z : Zt} {Q : Option Value → Wx → Zt → Prop} {s a L : Nat} {v : Int} {S : Ab} (hL : LI x Z s a S L) (hv : 0 ≤ v ∧ v + 7 ≤ L) (nx : ∀ (x1 : Wx) (Z1 : Zt) (S1 : Ab), LI x1 Z1 s a S1 L → V mL_law k n 1513 [some (r_ s), some (r_ a), some (r_ (a + 292)), some (i_ v)] [] x1 Z1 Q) : V mL_law k n 443 [some (r_ s), some (r_ a), some (r_ (a + 292)), some (i_ v)] [] x Z Q := by
  obtain ⟨hO, hM, hs, hr, ha, hx, hl⟩ := id hL
  have hV := hO.2.2.2.2.2.1
  refine b_L_law_443 hO.1 hs (by omega) ⟨by omega, by omega, by omega, by omega, by omega, by omega, sp_X11_point hO.1 hO (hr _ (by omega)) (hr _ (by omega)) (hr _ (by omega)) (fun x1 Z1 o1 f1 => ?_)⟩
  obtain ⟨m1, s1, e1⟩ := hL.a f1
  refine (show V mL_law k n 462 [some (r_ s), some (r_ a), some (r_ (a + 292)), some (i_ v)] [i_ (aPoint S.nw (Z s (v + 1).toNat) (Z s (v + 2).toNat) (Z s (v + 3).toNat))] x1 Z1 Q from b_L_law_462 m1.1 s1 (by omega) ?_)
  rw [e1]
  refine ⟨by omega, by omega, by omega, by omega, by omega, by omega, sp_X12_point m1 hV (hr _ (by omega)) (hr _ (by omega)) (hr _ (by omega)) (fun Z2 hq => ?_)⟩
  exact (show V mL_law k n 481 [some (r_ s), some (r_ a), some (r_ (a + 292)), some (i_ v)] [i_ (aPoint S.nw (Z s (v + 1).toNat) (Z s (v + 2).toNat) (Z s (v + 3).toNat)), i_ (aPoint S.nw (Z s (v + 1).toNat) (Z s (v + 2).toNat) (Z s (v + 3).toNat))] x1 Z2 Q from b_L_law_481 ⟨rfl, nx x1 Z2 S (hL.q o1 f1 hq)⟩)
theorem lw_counted (hT : Ties) {k n : Nat} {x : Wx} {Z : Zt} {Q : Option Value → Wx → Zt → Prop} {s a L : Nat} {v : Int} {S : Ab} (hL : LI x Z s a S L) (hv : 0 ≤ v ∧ v + 7 ≤ L) (nx : ∀ (x1 : Wx) (Z1 : Zt) (S1 : Ab), LI x1 Z1 s a S1 L → V mL_law k n 1513 [some (r_ s), some (r_ a), some (r_ (a + 292)), some (i_ v)] [] x1 Z1 Q) : V mL_law k n 486 [some (r_ s), some (r_ a), some (r_ (a + 292)), some (i_ v)] [] x Z Q := by
  obtain ⟨hO, hM, hs, hr, ha, hx, hl⟩ := id hL
  have hV := hO.2.2.2.2.2.1
  refine b_L_law_486 hO.1 hs (by omega) ⟨by omega, by omega, by omega, by omega, by omega, by omega, hr _ (by omega), fun c1 => ?_, fun c1 => ?_⟩
  · refine sp_X11_counted hO.1 hO (hr _ (by omega)) (hr _ (by omega)) (rg_c rfl) (fun x1 Z1 o1 f1 => ?_)
    obtain ⟨m1, s1, e1⟩ := hL.a f1
    refine (show V mL_law k n 513 [some (r_ s), some (r_ a), some (r_ (a + 292)), some (i_ v)] [l_ (aCounted S.nw (Z s (v + 1).toNat) (Z s (v + 2).toNat) 0)] x1 Z1 Q from b_L_law_513 m1.1 s1 (by omega) ?_)
    rw [e1]
    refine ⟨by omega, by omega, by omega, by omega, by omega, by omega, hr _ (by omega), fun _ => sp_X12_counted m1 hV (hr _ (by omega)) (hr _ (by omega)) (rg_c rfl) (fun Z2 hq => ?_), fun c2 => absurd c1 c2⟩
    exact (show V mL_law k n 540 [some (r_ s), some (r_ a), some (r_ (a + 292)), some (i_ v)] [l_ (aCounted S.nw (Z s (v + 1).toNat) (Z s (v + 2).toNat) 0), l_ (aCounted S.nw (Z s (v + 1).toNat) (Z s (v + 2).toNat) 0)] x1 Z2 Q from b_L_law_540 ⟨rfl, nx x1 Z2 S (hL.q o1 f1 hq)⟩)
  · refine sp_X11_counted hO.1 hO (hr _ (by omega)) (hr _ (by omega)) (rg_c rfl) (fun x1 Z1 o1 f1 => ?_)
    obtain ⟨m1, s1, e1⟩ := hL.a f1
    refine (show V mL_law k n 513 [some (r_ s), some (r_ a), some (r_ (a + 292)), some (i_ v)] [l_ (aCounted S.nw (Z s (v + 1).toNat) (Z s (v + 2).toNat) 1)] x1 Z1 Q from b_L_law_513 m1.1 s1 (by omega) ?_)
    rw [e1]
    refine ⟨by omega, by omega, by omega, by omega, by omega, by omega, hr _ (by omega), fun c2 => absurd c2 c1, fun _ => sp_X12_counted m1 hV (hr _ (by omega)) (hr _ (by omega)) (rg_c rfl) (fun Z2 hq => ?_)⟩
    exact (show V mL_law k n 540 [some (r_ s), some (r_ a), some (r_ (a + 292)), some (i_ v)] [l_ (aCounted S.nw (Z s (v + 1).toNat) (Z s (v + 2).toNat) 1), l_ (aCounted S.nw (Z s (v + 1).toNat) (Z s (v + 2).toNat) 1)] x1 Z2 Q from b_L_law_540 ⟨rfl, nx x1 Z2 S (hL.q o1 f1 hq)⟩)
theorem lw_share (hT : Ties) {k n : Nat} {x : Wx} {Z : Zt} {Q : Option Value → Wx → Zt → Prop} {s a L : Nat} {v : Int} {S : Ab} (hL : LI x Z s a S L) (hv : 0 ≤ v ∧ v + 7 ≤ L) (nx : ∀ (x1 : Wx) (Z1 : Zt) (S1 : Ab), LI x1 Z1 s a S1 L → V mL_law k n 1513 [some (r_ s), some (r_ a), some (r_ (a + 292)), some (i_ v)] [] x1 Z1 Q) : V mL_law k n 546 [some (r_ s), some (r_ a), some (r_ (a + 292)), some (i_ v)] [] x Z Q := by
  obtain ⟨hO, hM, hs, hr, ha, hx, hl⟩ := id hL
  have hV := hO.2.2.2.2.2.1
  refine b_L_law_546 hO.1 hs (by omega) ⟨by omega, by omega, by omega, by omega, sp_X11_share hO.1 hO (hr _ (by omega)) (hr _ (by omega)) (fun x1 Z1 o1 f1 => ?_)⟩
  obtain ⟨m1, s1, e1⟩ := hL.a f1
  refine (show V mL_law k n 560 [some (r_ s), some (r_ a), some (r_ (a + 292)), some (i_ v)] [i_ (aShare S.nw (Z s (v + 1).toNat) (Z s (v + 2).toNat))] x1 Z1 Q from b_L_law_560 m1.1 s1 (by omega) ?_)
  rw [e1]
  refine ⟨by omega, by omega, by omega, by omega, sp_X12_share m1 hV (hr _ (by omega)) (hr _ (by omega)) (fun Z2 hq => ?_)⟩
  exact (show V mL_law k n 574 [some (r_ s), some (r_ a), some (r_ (a + 292)), some (i_ v)] [i_ (aShare S.nw (Z s (v + 1).toNat) (Z s (v + 2).toNat)), i_ (aShare S.nw (Z s (v + 1).toNat) (Z s (v + 2).toNat))] x1 Z2 Q from b_L_law_574 ⟨rfl, nx x1 Z2 S (hL.q o1 f1 hq)⟩)
theorem lw_fits (hT : Ties) {k n : Nat} {x : Wx} {Z : Zt} {Q : Option Value → Wx → Zt → Prop} {s a L : Nat} {v : Int} {S : Ab} (hL : LI x Z s a S L) (hv : 0 ≤ v ∧ v + 7 ≤ L) (nx : ∀ (x1 : Wx) (Z1 : Zt) (S1 : Ab), LI x1 Z1 s a S1 L → V mL_law k n 1513 [some (r_ s), some (r_ a), some (r_ (a + 292)), some (i_ v)] [] x1 Z1 Q) : V mL_law k n 579 [some (r_ s), some (r_ a), some (r_ (a + 292)), some (i_ v)] [] x Z Q := by
  obtain ⟨hO, hM, hs, hr, ha, hx, hl⟩ := id hL
  have hV := hO.2.2.2.2.2.1
  refine b_L_law_579 hO.1 hs (by omega) ⟨by omega, by omega, by omega, by omega, sp_X11_fits hO.1 hO (hr _ (by omega)) (hr _ (by omega)) (fun x1 Z1 o1 f1 => ?_)⟩
  obtain ⟨m1, s1, e1⟩ := hL.a f1
  refine (show V mL_law k n 593 [some (r_ s), some (r_ a), some (r_ (a + 292)), some (i_ v)] [i_ (bI (fitB S.nw (Z s (v + 1).toNat) (Z s (v + 2).toNat)))] x1 Z1 Q from b_L_law_593 m1.1 s1 (by omega) ?_)
  rw [e1]
  refine ⟨by omega, by omega, by omega, by omega, sp_X12_fits m1 hV (hr _ (by omega)) (hr _ (by omega)) (fun Z2 hq => ?_)⟩
  exact (show V mL_law k n 607 [some (r_ s), some (r_ a), some (r_ (a + 292)), some (i_ v)] [i_ (aFits S.nw (Z s (v + 1).toNat) (Z s (v + 2).toNat)), i_ (bI (fitB S.nw (Z s (v + 1).toNat) (Z s (v + 2).toNat)))] x1 Z2 Q from b_L_law_607 ⟨rfl, nx x1 Z2 S (hL.q o1 f1 hq)⟩)
theorem lw_order (hT : Ties) {k n : Nat} {x : Wx} {Z : Zt} {Q : Option Value → Wx → Zt → Prop} {s a L : Nat} {v : Int} {S : Ab} (hL : LI x Z s a S L) (hv : 0 ≤ v ∧ v + 7 ≤ L) (nx : ∀ (x1 : Wx) (Z1 : Zt) (S1 : Ab), LI x1 Z1 s a S1 L → V mL_law k n 1513 [some (r_ s), some (r_ a), some (r_ (a + 292)), some (i_ v)] [] x1 Z1 Q) : V mL_law k n 612 [some (r_ s), some (r_ a), some (r_ (a + 292)), some (i_ v)] [] x Z Q := by
  obtain ⟨hO, hM, hs, hr, ha, hx, hl⟩ := id hL
  have hV := hO.2.2.2.2.2.1
  refine b_L_law_612 hO.1 hs (by omega) ⟨by omega, by omega, by omega, by omega, by omega, by omega, sp_X11_order hO.1 hO (hr _ (by omega)) (hr _ (by omega)) (hr _ (by omega)) (fun x1 Z1 o1 f1 => ?_)⟩
  obtain ⟨m1, s1, e1⟩ := hL.a f1
  refine (show V mL_law k n 631 [some (r_ s), some (r_ a), some (r_ (a + 292)), some (i_ v)] [i_ (aOrder S.nw (Z s (v + 1).toNat) (Z s (v + 2).toNat) (Z s (v + 3).toNat))] x1 Z1 Q from b_L_law_631 m1.1 s1 (by omega) ?_)
  rw [e1]
  refine ⟨by omega, by omega, by omega, by omega, by omega, by omega, sp_X12_order m1 hV (hr _ (by omega)) (hr _ (by omega)) (hr _ (by omega)) (fun Z2 hq => ?_)⟩
  exact (show V mL_law k n 650 [some (r_ s), some (r_ a), some (r_ (a + 292)), some (i_ v)] [i_ (mAOrder S.nw (Z s (v + 1).toNat) (Z s (v + 2).toNat) (Z s (v + 3).toNat)), i_ (aOrder S.nw (Z s (v + 1).toNat) (Z s (v + 2).toNat) (Z s (v + 3).toNat))] x1 Z2 Q from b_L_law_650 ⟨(hT S.nw hV.1).1 (Z s (v + 1).toNat) (Z s (v + 2).toNat) (Z s (v + 3).toNat), nx x1 Z2 S (hL.q o1 f1 hq)⟩)
theorem lw_norm (hT : Ties) {k n : Nat} {x : Wx} {Z : Zt} {Q : Option Value → Wx → Zt → Prop} {s a L : Nat} {v : Int} {S : Ab} (hL : LI x Z s a S L) (hv : 0 ≤ v ∧ v + 7 ≤ L) (nx : ∀ (x1 : Wx) (Z1 : Zt) (S1 : Ab), LI x1 Z1 s a S1 L → V mL_law k n 1513 [some (r_ s), some (r_ a), some (r_ (a + 292)), some (i_ v)] [] x1 Z1 Q) : V mL_law k n 655 [some (r_ s), some (r_ a), some (r_ (a + 292)), some (i_ v)] [] x Z Q := by
  obtain ⟨hO, hM, hs, hr, ha, hx, hl⟩ := id hL
  have hV := hO.2.2.2.2.2.1
  refine b_L_law_655 hO.1 hs (by omega) ⟨by omega, by omega, by omega, by omega, by omega, by omega, sp_X11_norm hO.1 hO (hr _ (by omega)) (hr _ (by omega)) (hr _ (by omega)) (fun x1 Z1 o1 f1 => ?_)⟩
  obtain ⟨m1, s1, e1⟩ := hL.a f1
  refine (show V mL_law k n 674 [some (r_ s), some (r_ a), some (r_ (a + 292)), some (i_ v)] [i_ (aNorm S.nw (Z s (v + 1).toNat) (Z s (v + 2).toNat) (Z s (v + 3).toNat))] x1 Z1 Q from b_L_law_674 m1.1 s1 (by omega) ?_)
  rw [e1]
  refine ⟨by omega, by omega, by omega, by omega, by omega, by omega, sp_X12_norm m1 hV (hr _ (by omega)) (hr _ (by omega)) (hr _ (by omega)) (fun Z2 hq => ?_)⟩
  exact (show V mL_law k n 693 [some (r_ s), some (r_ a), some (r_ (a + 292)), some (i_ v)] [i_ (mANorm S.nw (Z s (v + 1).toNat) (Z s (v + 2).toNat) (Z s (v + 3).toNat)), i_ (aNorm S.nw (Z s (v + 1).toNat) (Z s (v + 2).toNat) (Z s (v + 3).toNat))] x1 Z2 Q from b_L_law_693 ⟨(hT S.nw hV.1).2.1 (Z s (v + 1).toNat) (Z s (v + 2).toNat) (Z s (v + 3).toNat), nx x1 Z2 S (hL.q o1 f1 hq)⟩)
theorem lw_room (hT : Ties) {k n : Nat} {x : Wx} {Z : Zt} {Q : Option Value → Wx → Zt → Prop} {s a L : Nat} {v : Int} {S : Ab} (hL : LI x Z s a S L) (hv : 0 ≤ v ∧ v + 7 ≤ L) (nx : ∀ (x1 : Wx) (Z1 : Zt) (S1 : Ab), LI x1 Z1 s a S1 L → V mL_law k n 1513 [some (r_ s), some (r_ a), some (r_ (a + 292)), some (i_ v)] [] x1 Z1 Q) : V mL_law k n 698 [some (r_ s), some (r_ a), some (r_ (a + 292)), some (i_ v)] [] x Z Q := by
  obtain ⟨hO, hM, hs, hr, ha, hx, hl⟩ := id hL
  have hV := hO.2.2.2.2.2.1
  refine b_L_law_698 hO.1 hs (by omega) ⟨by omega, by omega, by omega, by omega, by omega, by omega, sp_X11_room hO.1 hO (hr _ (by omega)) (hr _ (by omega)) (hr _ (by omega)) (fun x1 Z1 o1 f1 => ?_)⟩
  obtain ⟨m1, s1, e1⟩ := hL.a f1
  refine (show V mL_law k n 717 [some (r_ s), some (r_ a), some (r_ (a + 292)), some (i_ v)] [i_ (aRoom S.nw (Z s (v + 1).toNat) (Z s (v + 2).toNat) (Z s (v + 3).toNat))] x1 Z1 Q from b_L_law_717 m1.1 s1 (by omega) ?_)
  rw [e1]
  refine ⟨by omega, by omega, by omega, by omega, by omega, by omega, sp_X12_room m1 hV (hr _ (by omega)) (hr _ (by omega)) (hr _ (by omega)) (fun Z2 hq => ?_)⟩
  exact (show V mL_law k n 736 [some (r_ s), some (r_ a), some (r_ (a + 292)), some (i_ v)] [i_ (mARoom S.nw (Z s (v + 1).toNat) (Z s (v + 2).toNat) (Z s (v + 3).toNat)), i_ (aRoom S.nw (Z s (v + 1).toNat) (Z s (v + 2).toNat) (Z s (v + 3).toNat))] x1 Z2 Q from b_L_law_736 ⟨(hT S.nw hV.1).2.2.1 (Z s (v + 1).toNat) (Z s (v + 2).toNat) (Z s (v + 3).toNat), nx x1 Z2 S (hL.q o1 f1 hq)⟩)
theorem lw_base (hT : Ties) {k n : Nat} {x : Wx} {Z : Zt} {Q : Option Value → Wx → Zt → Prop} {s a L : Nat} {v : Int} {S : Ab} (hL : LI x Z s a S L) (hv : 0 ≤ v ∧ v + 7 ≤ L) (nx : ∀ (x1 : Wx) (Z1 : Zt) (S1 : Ab), LI x1 Z1 s a S1 L → V mL_law k n 1513 [some (r_ s), some (r_ a), some (r_ (a + 292)), some (i_ v)] [] x1 Z1 Q) : V mL_law k n 741 [some (r_ s), some (r_ a), some (r_ (a + 292)), some (i_ v)] [] x Z Q := by
  obtain ⟨hO, hM, hs, hr, ha, hx, hl⟩ := id hL
  have hV := hO.2.2.2.2.2.1
  refine b_L_law_741 hO.1 hs (by omega) ⟨by omega, by omega, by omega, by omega, by omega, by omega, by omega, by omega, hr _ (by omega), fun c1 => ⟨by omega, by omega, ?_⟩, fun c1 => ⟨by omega, by omega, ?_⟩⟩
  · refine sp_X11_base hO.1 hO (hr _ (by omega)) (hr _ (by omega)) (hr _ (by omega)) (rg_c rfl) (hr _ (by omega)) (fun x1 Z1 o1 f1 => ?_)
    obtain ⟨m1, s1, e1⟩ := hL.a f1
    refine (show V mL_law k n 778 [some (r_ s), some (r_ a), some (r_ (a + 292)), some (i_ v)] [i_ (aBase S.nw (Z s (v + 1).toNat) (Z s (v + 2).toNat) (Z s (v + 3).toNat) 0 (Z s (v + 5).toNat))] x1 Z1 Q from b_L_law_778 m1.1 s1 (by omega) ?_)
    rw [e1]
    refine ⟨by omega, by omega, by omega, by omega, by omega, by omega, by omega, by omega, hr _ (by omega), fun _ => ⟨by omega, by omega, sp_X12_base m1 hV (hr _ (by omega)) (hr _ (by omega)) (hr _ (by omega)) (rg_c rfl) (hr _ (by omega)) (fun Z2 hq => ?_)⟩, fun c2 => absurd c1 c2⟩
    exact (show V mL_law k n 815 [some (r_ s), some (r_ a), some (r_ (a + 292)), some (i_ v)] [i_ (mABase S.nw (Z s (v + 1).toNat) (Z s (v + 2).toNat) (Z s (v + 3).toNat) 0 (Z s (v + 5).toNat)), i_ (aBase S.nw (Z s (v + 1).toNat) (Z s (v + 2).toNat) (Z s (v + 3).toNat) 0 (Z s (v + 5).toNat))] x1 Z2 Q from b_L_law_815 ⟨(hT S.nw hV.1).2.2.2.1 (Z s (v + 1).toNat) (Z s (v + 2).toNat) (Z s (v + 3).toNat) 0 (Z s (v + 5).toNat), nx x1 Z2 S (hL.q o1 f1 hq)⟩)
  · refine sp_X11_base hO.1 hO (hr _ (by omega)) (hr _ (by omega)) (hr _ (by omega)) (rg_c rfl) (hr _ (by omega)) (fun x1 Z1 o1 f1 => ?_)
    obtain ⟨m1, s1, e1⟩ := hL.a f1
    refine (show V mL_law k n 778 [some (r_ s), some (r_ a), some (r_ (a + 292)), some (i_ v)] [i_ (aBase S.nw (Z s (v + 1).toNat) (Z s (v + 2).toNat) (Z s (v + 3).toNat) 1 (Z s (v + 5).toNat))] x1 Z1 Q from b_L_law_778 m1.1 s1 (by omega) ?_)
    rw [e1]
    refine ⟨by omega, by omega, by omega, by omega, by omega, by omega, by omega, by omega, hr _ (by omega), fun c2 => absurd c2 c1, fun _ => ⟨by omega, by omega, sp_X12_base m1 hV (hr _ (by omega)) (hr _ (by omega)) (hr _ (by omega)) (rg_c rfl) (hr _ (by omega)) (fun Z2 hq => ?_)⟩⟩
    exact (show V mL_law k n 815 [some (r_ s), some (r_ a), some (r_ (a + 292)), some (i_ v)] [i_ (mABase S.nw (Z s (v + 1).toNat) (Z s (v + 2).toNat) (Z s (v + 3).toNat) 1 (Z s (v + 5).toNat)), i_ (aBase S.nw (Z s (v + 1).toNat) (Z s (v + 2).toNat) (Z s (v + 3).toNat) 1 (Z s (v + 5).toNat))] x1 Z2 Q from b_L_law_815 ⟨(hT S.nw hV.1).2.2.2.1 (Z s (v + 1).toNat) (Z s (v + 2).toNat) (Z s (v + 3).toNat) 1 (Z s (v + 5).toNat), nx x1 Z2 S (hL.q o1 f1 hq)⟩)
theorem lw_under (hT : Ties) {k n : Nat} {x : Wx} {Z : Zt} {Q : Option Value → Wx → Zt → Prop} {s a L : Nat} {v : Int} {S : Ab} (hL : LI x Z s a S L) (hv : 0 ≤ v ∧ v + 7 ≤ L) (nx : ∀ (x1 : Wx) (Z1 : Zt) (S1 : Ab), LI x1 Z1 s a S1 L → V mL_law k n 1513 [some (r_ s), some (r_ a), some (r_ (a + 292)), some (i_ v)] [] x1 Z1 Q) : V mL_law k n 820 [some (r_ s), some (r_ a), some (r_ (a + 292)), some (i_ v)] [] x Z Q := by
  obtain ⟨hO, hM, hs, hr, ha, hx, hl⟩ := id hL
  have hV := hO.2.2.2.2.2.1
  refine b_L_law_820 hO.1 hs (by omega) ⟨by omega, by omega, by omega, by omega, by omega, by omega, sp_X11_under hO.1 hO (hr _ (by omega)) (hr _ (by omega)) (hr _ (by omega)) (fun x1 Z1 o1 f1 => ?_)⟩
  obtain ⟨m1, s1, e1⟩ := hL.a f1
  refine (show V mL_law k n 839 [some (r_ s), some (r_ a), some (r_ (a + 292)), some (i_ v)] [i_ (aUnder S.nw (Z s (v + 1).toNat) (Z s (v + 2).toNat) (Z s (v + 3).toNat))] x1 Z1 Q from b_L_law_839 m1.1 s1 (by omega) ?_)
  rw [e1]
  refine ⟨by omega, by omega, by omega, by omega, by omega, by omega, sp_X12_under m1 hV (hr _ (by omega)) (hr _ (by omega)) (hr _ (by omega)) (fun Z2 hq => ?_)⟩
  exact (show V mL_law k n 858 [some (r_ s), some (r_ a), some (r_ (a + 292)), some (i_ v)] [i_ (mAUnder S.nw (Z s (v + 1).toNat) (Z s (v + 2).toNat) (Z s (v + 3).toNat)), i_ (aUnder S.nw (Z s (v + 1).toNat) (Z s (v + 2).toNat) (Z s (v + 3).toNat))] x1 Z2 Q from b_L_law_858 ⟨(hT S.nw hV.1).2.2.2.2.1 (Z s (v + 1).toNat) (Z s (v + 2).toNat) (Z s (v + 3).toNat), nx x1 Z2 S (hL.q o1 f1 hq)⟩)
theorem lw_gap (hT : Ties) {k n : Nat} {x : Wx} {Z : Zt} {Q : Option Value → Wx → Zt → Prop} {s a L : Nat} {v : Int} {S : Ab} (hL : LI x Z s a S L) (hv : 0 ≤ v ∧ v + 7 ≤ L) (nx : ∀ (x1 : Wx) (Z1 : Zt) (S1 : Ab), LI x1 Z1 s a S1 L → V mL_law k n 1513 [some (r_ s), some (r_ a), some (r_ (a + 292)), some (i_ v)] [] x1 Z1 Q) : V mL_law k n 863 [some (r_ s), some (r_ a), some (r_ (a + 292)), some (i_ v)] [] x Z Q := by
  obtain ⟨hO, hM, hs, hr, ha, hx, hl⟩ := id hL
  have hV := hO.2.2.2.2.2.1
  refine b_L_law_863 hO.1 hs (by omega) ⟨by omega, by omega, by omega, by omega, by omega, by omega, sp_X11_gap hO.1 hO (hr _ (by omega)) (hr _ (by omega)) (hr _ (by omega)) (fun x1 Z1 o1 f1 => ?_)⟩
  obtain ⟨m1, s1, e1⟩ := hL.a f1
  refine (show V mL_law k n 882 [some (r_ s), some (r_ a), some (r_ (a + 292)), some (i_ v)] [i_ (aGap S.nw (Z s (v + 1).toNat) (Z s (v + 2).toNat) (Z s (v + 3).toNat))] x1 Z1 Q from b_L_law_882 m1.1 s1 (by omega) ?_)
  rw [e1]
  refine ⟨by omega, by omega, by omega, by omega, by omega, by omega, sp_X12_gap m1 hV (hr _ (by omega)) (hr _ (by omega)) (hr _ (by omega)) (fun Z2 hq => ?_)⟩
  exact (show V mL_law k n 901 [some (r_ s), some (r_ a), some (r_ (a + 292)), some (i_ v)] [i_ (mAGap S.nw (Z s (v + 1).toNat) (Z s (v + 2).toNat) (Z s (v + 3).toNat)), i_ (aGap S.nw (Z s (v + 1).toNat) (Z s (v + 2).toNat) (Z s (v + 3).toNat))] x1 Z2 Q from b_L_law_901 ⟨(hT S.nw hV.1).2.2.2.2.2.1 (Z s (v + 1).toNat) (Z s (v + 2).toNat) (Z s (v + 3).toNat), nx x1 Z2 S (hL.q o1 f1 hq)⟩)
theorem lw_times (hT : Ties) {k n : Nat} {x : Wx} {Z : Zt} {Q : Option Value → Wx → Zt → Prop} {s a L : Nat} {v : Int} {S : Ab} (hL : LI x Z s a S L) (hv : 0 ≤ v ∧ v + 7 ≤ L) (nx : ∀ (x1 : Wx) (Z1 : Zt) (S1 : Ab), LI x1 Z1 s a S1 L → V mL_law k n 1513 [some (r_ s), some (r_ a), some (r_ (a + 292)), some (i_ v)] [] x1 Z1 Q) : V mL_law k n 906 [some (r_ s), some (r_ a), some (r_ (a + 292)), some (i_ v)] [] x Z Q := by
  obtain ⟨hO, hM, hs, hr, ha, hx, hl⟩ := id hL
  have hV := hO.2.2.2.2.2.1
  refine b_L_law_906 hO.1 hs (by omega) ⟨by omega, by omega, by omega, by omega, by omega, by omega, by omega, by omega, sp_X11_times hO.1 hO (hr _ (by omega)) (hr _ (by omega)) (hr _ (by omega)) (hr _ (by omega)) (fun x1 Z1 o1 f1 => ?_)⟩
  obtain ⟨m1, s1, e1⟩ := hL.a f1
  refine (show V mL_law k n 930 [some (r_ s), some (r_ a), some (r_ (a + 292)), some (i_ v)] [i_ (aTimes S.nw (Z s (v + 1).toNat) (Z s (v + 2).toNat) (Z s (v + 3).toNat) (Z s (v + 4).toNat))] x1 Z1 Q from b_L_law_930 m1.1 s1 (by omega) ?_)
  rw [e1]
  refine ⟨by omega, by omega, by omega, by omega, by omega, by omega, by omega, by omega, sp_X12_times m1 hV (hr _ (by omega)) (hr _ (by omega)) (hr _ (by omega)) (hr _ (by omega)) (fun Z2 hq => ?_)⟩
  exact (show V mL_law k n 954 [some (r_ s), some (r_ a), some (r_ (a + 292)), some (i_ v)] [i_ (mATimes S.nw (Z s (v + 1).toNat) (Z s (v + 2).toNat) (Z s (v + 3).toNat) (Z s (v + 4).toNat)), i_ (aTimes S.nw (Z s (v + 1).toNat) (Z s (v + 2).toNat) (Z s (v + 3).toNat) (Z s (v + 4).toNat))] x1 Z2 Q from b_L_law_954 ⟨(hT S.nw hV.1).2.2.2.2.2.2.1 (Z s (v + 1).toNat) (Z s (v + 2).toNat) (Z s (v + 3).toNat) (Z s (v + 4).toNat), nx x1 Z2 S (hL.q o1 f1 hq)⟩)
theorem lw_added (hT : Ties) {k n : Nat} {x : Wx} {Z : Zt} {Q : Option Value → Wx → Zt → Prop} {s a L : Nat} {v : Int} {S : Ab} (hL : LI x Z s a S L) (hv : 0 ≤ v ∧ v + 7 ≤ L) (nx : ∀ (x1 : Wx) (Z1 : Zt) (S1 : Ab), LI x1 Z1 s a S1 L → V mL_law k n 1513 [some (r_ s), some (r_ a), some (r_ (a + 292)), some (i_ v)] [] x1 Z1 Q) : V mL_law k n 959 [some (r_ s), some (r_ a), some (r_ (a + 292)), some (i_ v)] [] x Z Q := by
  obtain ⟨hO, hM, hs, hr, ha, hx, hl⟩ := id hL
  have hV := hO.2.2.2.2.2.1
  refine b_L_law_959 hO.1 hs (by omega) ⟨by omega, by omega, by omega, by omega, by omega, by omega, by omega, by omega, sp_X11_added hO.1 hO (hr _ (by omega)) (hr _ (by omega)) (hr _ (by omega)) (hr _ (by omega)) (fun x1 Z1 o1 f1 => ?_)⟩
  obtain ⟨m1, s1, e1⟩ := hL.a f1
  refine (show V mL_law k n 983 [some (r_ s), some (r_ a), some (r_ (a + 292)), some (i_ v)] [i_ (aAdded S.nw (Z s (v + 1).toNat) (Z s (v + 2).toNat) (Z s (v + 3).toNat) (Z s (v + 4).toNat))] x1 Z1 Q from b_L_law_983 m1.1 s1 (by omega) ?_)
  rw [e1]
  refine ⟨by omega, by omega, by omega, by omega, by omega, by omega, by omega, by omega, sp_X12_added m1 hV (hr _ (by omega)) (hr _ (by omega)) (hr _ (by omega)) (hr _ (by omega)) (fun Z2 hq => ?_)⟩
  exact (show V mL_law k n 1007 [some (r_ s), some (r_ a), some (r_ (a + 292)), some (i_ v)] [i_ (mAAdded S.nw (Z s (v + 1).toNat) (Z s (v + 2).toNat) (Z s (v + 3).toNat) (Z s (v + 4).toNat)), i_ (aAdded S.nw (Z s (v + 1).toNat) (Z s (v + 2).toNat) (Z s (v + 3).toNat) (Z s (v + 4).toNat))] x1 Z2 Q from b_L_law_1007 ⟨(hT S.nw hV.1).2.2.2.2.2.2.2.1 (Z s (v + 1).toNat) (Z s (v + 2).toNat) (Z s (v + 3).toNat) (Z s (v + 4).toNat), nx x1 Z2 S (hL.q o1 f1 hq)⟩)
theorem lw_orderOf (hT : Ties) {k n : Nat} {x : Wx} {Z : Zt} {Q : Option Value → Wx → Zt → Prop} {s a L : Nat} {v : Int} {S : Ab} (hL : LI x Z s a S L) (hv : 0 ≤ v ∧ v + 7 ≤ L) (nx : ∀ (x1 : Wx) (Z1 : Zt) (S1 : Ab), LI x1 Z1 s a S1 L → V mL_law k n 1513 [some (r_ s), some (r_ a), some (r_ (a + 292)), some (i_ v)] [] x1 Z1 Q) : V mL_law k n 1012 [some (r_ s), some (r_ a), some (r_ (a + 292)), some (i_ v)] [] x Z Q := by
  obtain ⟨hO, hM, hs, hr, ha, hx, hl⟩ := id hL
  have hV := hO.2.2.2.2.2.1
  obtain ⟨N, hN1, hN2, hN3⟩ := (hT S.nw hV.1).2.2.2.2.2.2.2.2.1 (Z s (v + 1).toNat) (Z s (v + 2).toNat)
  refine b_L_law_1012 hO.1 hs (by omega) ⟨by omega, by omega, by omega, by omega, sp_X11_orderOf hO.1 hO (hr _ (by omega)) (hr _ (by omega)) (fun x1 Z1 o1 f1 => ?_)⟩
  obtain ⟨m1, s1, e1⟩ := hL.a f1
  refine (show V mL_law k n 1026 [some (r_ s), some (r_ a), some (r_ (a + 292)), some (i_ v)] [i_ (aOrderOf S.nw (Z s (v + 1).toNat) (Z s (v + 2).toNat))] x1 Z1 Q from b_L_law_1026 m1.1 s1 (by omega) ?_)
  rw [e1]
  refine ⟨by omega, by omega, by omega, by omega, sp_X12_orderOf m1 hV (hr _ (by omega)) (hr _ (by omega)) N hN1 hN2 (fun Z2 hq => ?_)⟩
  exact (show V mL_law k n 1040 [some (r_ s), some (r_ a), some (r_ (a + 292)), some (i_ v)] [i_ (mAOrderOf S.nw N (Z s (v + 1).toNat) (Z s (v + 2).toNat)), i_ (aOrderOf S.nw (Z s (v + 1).toNat) (Z s (v + 2).toNat))] x1 Z2 Q from b_L_law_1040 ⟨hN3, nx x1 Z2 S (hL.q o1 f1 hq)⟩)
theorem lw_same (hT : Ties) {k n : Nat} {x : Wx} {Z : Zt} {Q : Option Value → Wx → Zt → Prop} {s a L : Nat} {v : Int} {S : Ab} (hL : LI x Z s a S L) (hv : 0 ≤ v ∧ v + 7 ≤ L) (nx : ∀ (x1 : Wx) (Z1 : Zt) (S1 : Ab), LI x1 Z1 s a S1 L → V mL_law k n 1513 [some (r_ s), some (r_ a), some (r_ (a + 292)), some (i_ v)] [] x1 Z1 Q) : V mL_law k n 1045 [some (r_ s), some (r_ a), some (r_ (a + 292)), some (i_ v)] [] x Z Q := by
  obtain ⟨hO, hM, hs, hr, ha, hx, hl⟩ := id hL
  have hV := hO.2.2.2.2.2.1
  refine b_L_law_1045 hO.1 hs (by omega) ⟨by omega, by omega, by omega, by omega, by omega, by omega, sp_X11_same hO.1 hO (hr _ (by omega)) (hr _ (by omega)) (hr _ (by omega)) (fun x1 Z1 r1 h1 h2 o1 f1 => ?_)⟩
  obtain ⟨m1, s1, e1⟩ := hL.a f1
  refine (show V mL_law k n 1064 [some (r_ s), some (r_ a), some (r_ (a + 292)), some (i_ v)] [i_ r1] x1 Z1 Q from b_L_law_1064 m1.1 s1 (by omega) ?_)
  rw [e1]
  refine ⟨by omega, by omega, by omega, by omega, by omega, by omega, sp_X12_same m1 hV (hr _ (by omega)) (hr _ (by omega)) (hr _ (by omega)) (fun Z2 r2 h3 h4 hq => ?_)⟩
  have ht := (hT S.nw hV.1).2.2.2.2.2.2.2.2.2.1 (Z s (v + 1).toNat) (Z s (v + 2).toNat) (Z s (v + 3).toNat)
  have e : r1 = r2 := by
    by_cases c : r1 = 1
    · rw [c, h4.mpr (ht.mp (h2.mp c))]
    · have : r2 ≠ 1 := fun e => c (h2.mpr (ht.mpr (h4.mp e)))
      omega
  exact (show V mL_law k n 1083 [some (r_ s), some (r_ a), some (r_ (a + 292)), some (i_ v)] [i_ r2, i_ r1] x1 Z2 Q from b_L_law_1083 ⟨e, nx x1 Z2 S (hL.q o1 f1 hq)⟩)
theorem lw_log (hT : Ties) {k n : Nat} {x : Wx} {Z : Zt} {Q : Option Value → Wx → Zt → Prop} {s a L : Nat} {v : Int} {S : Ab} (hL : LI x Z s a S L) (hv : 0 ≤ v ∧ v + 7 ≤ L) (nx : ∀ (x1 : Wx) (Z1 : Zt) (S1 : Ab), LI x1 Z1 s a S1 L → V mL_law k n 1513 [some (r_ s), some (r_ a), some (r_ (a + 292)), some (i_ v)] [] x1 Z1 Q) : V mL_law k n 1088 [some (r_ s), some (r_ a), some (r_ (a + 292)), some (i_ v)] [] x Z Q := by
  obtain ⟨hO, hM, hs, hr, ha, hx, hl⟩ := id hL
  have hV := hO.2.2.2.2.2.1
  obtain ⟨N, hN1, hN2, hN3⟩ := (hT S.nw hV.1).2.2.2.2.2.2.2.2.2.2.1 (Z s (v + 1).toNat) (Z s (v + 2).toNat) (Z s (v + 3).toNat)
  refine b_L_law_1088 hO.1 hs (by omega) ⟨by omega, by omega, by omega, by omega, by omega, by omega, sp_X11_log hO.1 hO (hr _ (by omega)) (hr _ (by omega)) (hr _ (by omega)) (fun x1 Z1 o1 f1 => ?_)⟩
  obtain ⟨m1, s1, e1⟩ := hL.a f1
  refine (show V mL_law k n 1107 [some (r_ s), some (r_ a), some (r_ (a + 292)), some (i_ v)] [i_ (aLog S.nw (Z s (v + 1).toNat) (Z s (v + 2).toNat) (Z s (v + 3).toNat))] x1 Z1 Q from b_L_law_1107 m1.1 s1 (by omega) ?_)
  rw [e1]
  refine ⟨by omega, by omega, by omega, by omega, by omega, by omega, sp_X12_log m1 hV (hr _ (by omega)) (hr _ (by omega)) (hr _ (by omega)) N hN1 hN2 (fun Z2 hq => ?_)⟩
  exact (show V mL_law k n 1126 [some (r_ s), some (r_ a), some (r_ (a + 292)), some (i_ v)] [i_ (mALog S.nw N (Z s (v + 1).toNat) (Z s (v + 2).toNat) (Z s (v + 3).toNat)), i_ (aLog S.nw (Z s (v + 1).toNat) (Z s (v + 2).toNat) (Z s (v + 3).toNat))] x1 Z2 Q from b_L_law_1126 ⟨hN3, nx x1 Z2 S (hL.q o1 f1 hq)⟩)
theorem lw_torsion (hT : Ties) {k n : Nat} {x : Wx} {Z : Zt} {Q : Option Value → Wx → Zt → Prop} {s a L : Nat} {v : Int} {S : Ab} (hL : LI x Z s a S L) (hv : 0 ≤ v ∧ v + 7 ≤ L) (nx : ∀ (x1 : Wx) (Z1 : Zt) (S1 : Ab), LI x1 Z1 s a S1 L → V mL_law k n 1513 [some (r_ s), some (r_ a), some (r_ (a + 292)), some (i_ v)] [] x1 Z1 Q) : V mL_law k n 1131 [some (r_ s), some (r_ a), some (r_ (a + 292)), some (i_ v)] [] x Z Q := by
  obtain ⟨hO, hM, hs, hr, ha, hx, hl⟩ := id hL
  have hV := hO.2.2.2.2.2.1
  obtain ⟨hN1, hN2⟩ := (hT S.nw hV.1).2.2.2.2.2.2.2.2.2.2.2.1 (Z s (v + 1).toNat) (Z s (v + 2).toNat)
  refine b_L_law_1131 hO.1 hs (by omega) ⟨by omega, by omega, by omega, by omega, sp_X11_torsion hO.1 hO (hr _ (by omega)) (hr _ (by omega)) (fun x1 Z1 o1 f1 => ?_)⟩
  obtain ⟨m1, s1, e1⟩ := hL.a f1
  refine (show V mL_law k n 1145 [some (r_ s), some (r_ a), some (r_ (a + 292)), some (i_ v)] [i_ (aTorsion S.nw (Z s (v + 1).toNat) (Z s (v + 2).toNat))] x1 Z1 Q from b_L_law_1145 m1.1 s1 (by omega) ?_)
  rw [e1]
  refine ⟨by omega, by omega, by omega, by omega, sp_X12_torsion m1 hV (hr _ (by omega)) (hr _ (by omega)) hN1 (fun Z2 hq => ?_)⟩
  exact (show V mL_law k n 1159 [some (r_ s), some (r_ a), some (r_ (a + 292)), some (i_ v)] [i_ (mATorsion S.nw (Z s (v + 1).toNat) (Z s (v + 2).toNat)), i_ (aTorsion S.nw (Z s (v + 1).toNat) (Z s (v + 2).toNat))] x1 Z2 Q from b_L_law_1159 ⟨hN2, nx x1 Z2 S (hL.q o1 f1 hq)⟩)
theorem lw_change (hT : Ties) {k n : Nat} {x : Wx} {Z : Zt} {Q : Option Value → Wx → Zt → Prop} {s a L : Nat} {v : Int} {S : Ab} (hL : LI x Z s a S L) (hv : 0 ≤ v ∧ v + 7 ≤ L) (nx : ∀ (x1 : Wx) (Z1 : Zt) (S1 : Ab), LI x1 Z1 s a S1 L → V mL_law k n 1513 [some (r_ s), some (r_ a), some (r_ (a + 292)), some (i_ v)] [] x1 Z1 Q) : V mL_law k n 1164 [some (r_ s), some (r_ a), some (r_ (a + 292)), some (i_ v)] [] x Z Q := by
  obtain ⟨hO, hM, hs, hr, ha, hx, hl⟩ := id hL
  have hV := hO.2.2.2.2.2.1
  refine b_L_law_1164 hO.1 hs (by omega) ⟨by omega, by omega, by omega, by omega, by omega, by omega, sp_X11_change hO.1 hO (hr _ (by omega)) (hr _ (by omega)) (hr _ (by omega)) (fun x1 Z1 o1 f1 => ?_)⟩
  obtain ⟨m1, s1, e1⟩ := hL.a f1
  refine (show V mL_law k n 1183 [some (r_ s), some (r_ a), some (r_ (a + 292)), some (i_ v)] [i_ (aChange S.nw (Z s (v + 1).toNat) (Z s (v + 2).toNat) (Z s (v + 3).toNat))] x1 Z1 Q from b_L_law_1183 m1.1 s1 (by omega) ?_)
  rw [e1]
  refine ⟨by omega, by omega, by omega, by omega, by omega, by omega, sp_X12_change m1 hV (hr _ (by omega)) (hr _ (by omega)) (hr _ (by omega)) (fun Z2 hq => ?_)⟩
  exact (show V mL_law k n 1202 [some (r_ s), some (r_ a), some (r_ (a + 292)), some (i_ v)] [i_ (aChange S.nw (Z s (v + 1).toNat) (Z s (v + 2).toNat) (Z s (v + 3).toNat)), i_ (aChange S.nw (Z s (v + 1).toNat) (Z s (v + 2).toNat) (Z s (v + 3).toNat))] x1 Z2 Q from b_L_law_1202 ⟨rfl, nx x1 Z2 S (hL.q o1 f1 hq)⟩)
theorem lw_like (hT : Ties) {k n : Nat} {x : Wx} {Z : Zt} {Q : Option Value → Wx → Zt → Prop} {s a L : Nat} {v : Int} {S : Ab} (hL : LI x Z s a S L) (hv : 0 ≤ v ∧ v + 7 ≤ L) (nx : ∀ (x1 : Wx) (Z1 : Zt) (S1 : Ab), LI x1 Z1 s a S1 L → V mL_law k n 1513 [some (r_ s), some (r_ a), some (r_ (a + 292)), some (i_ v)] [] x1 Z1 Q) : V mL_law k n 1207 [some (r_ s), some (r_ a), some (r_ (a + 292)), some (i_ v)] [] x Z Q := by
  obtain ⟨hO, hM, hs, hr, ha, hx, hl⟩ := id hL
  have hV := hO.2.2.2.2.2.1
  refine b_L_law_1207 hO.1 hs (by omega) ⟨by omega, by omega, by omega, by omega, sp_X11_like hO.1 hO (hr _ (by omega)) (hr _ (by omega)) (fun x1 Z1 o1 f1 => ?_)⟩
  obtain ⟨m1, s1, e1⟩ := hL.a f1
  refine (show V mL_law k n 1221 [some (r_ s), some (r_ a), some (r_ (a + 292)), some (i_ v)] [i_ (aLike S.nw (Z s (v + 1).toNat) (Z s (v + 2).toNat))] x1 Z1 Q from b_L_law_1221 m1.1 s1 (by omega) ?_)
  rw [e1]
  refine ⟨by omega, by omega, by omega, by omega, sp_X12_like m1 hV (hr _ (by omega)) (hr _ (by omega)) (fun Z2 hq => ?_)⟩
  exact (show V mL_law k n 1235 [some (r_ s), some (r_ a), some (r_ (a + 292)), some (i_ v)] [i_ (aLike S.nw (Z s (v + 1).toNat) (Z s (v + 2).toNat)), i_ (aLike S.nw (Z s (v + 1).toNat) (Z s (v + 2).toNat))] x1 Z2 Q from b_L_law_1235 ⟨rfl, nx x1 Z2 S (hL.q o1 f1 hq)⟩)
theorem lw_twist (hT : Ties) {k n : Nat} {x : Wx} {Z : Zt} {Q : Option Value → Wx → Zt → Prop} {s a L : Nat} {v : Int} {S : Ab} (hL : LI x Z s a S L) (hv : 0 ≤ v ∧ v + 7 ≤ L) (nx : ∀ (x1 : Wx) (Z1 : Zt) (S1 : Ab), LI x1 Z1 s a S1 L → V mL_law k n 1513 [some (r_ s), some (r_ a), some (r_ (a + 292)), some (i_ v)] [] x1 Z1 Q) : V mL_law k n 1240 [some (r_ s), some (r_ a), some (r_ (a + 292)), some (i_ v)] [] x Z Q := by
  obtain ⟨hO, hM, hs, hr, ha, hx, hl⟩ := id hL
  have hV := hO.2.2.2.2.2.1
  refine b_L_law_1240 hO.1 hs (by omega) ⟨by omega, by omega, by omega, by omega, sp_X11_twist hO.1 hO (hr _ (by omega)) (hr _ (by omega)) (fun x1 Z1 o1 f1 => ?_)⟩
  obtain ⟨m1, s1, e1⟩ := hL.a f1
  refine (show V mL_law k n 1254 [some (r_ s), some (r_ a), some (r_ (a + 292)), some (i_ v)] [i_ (aTwist S.nw (Z s (v + 1).toNat) (Z s (v + 2).toNat))] x1 Z1 Q from b_L_law_1254 m1.1 s1 (by omega) ?_)
  rw [e1]
  refine ⟨by omega, by omega, by omega, by omega, sp_X12_twist m1 hV (hr _ (by omega)) (hr _ (by omega)) (fun Z2 hq => ?_)⟩
  exact (show V mL_law k n 1268 [some (r_ s), some (r_ a), some (r_ (a + 292)), some (i_ v)] [i_ (aTwist S.nw (Z s (v + 1).toNat) (Z s (v + 2).toNat)), i_ (aTwist S.nw (Z s (v + 1).toNat) (Z s (v + 2).toNat))] x1 Z2 Q from b_L_law_1268 ⟨rfl, nx x1 Z2 S (hL.q o1 f1 hq)⟩)
theorem lw_code (hT : Ties) {k n : Nat} {x : Wx} {Z : Zt} {Q : Option Value → Wx → Zt → Prop} {s a L : Nat} {v : Int} {S : Ab} (hL : LI x Z s a S L) (hv : 0 ≤ v ∧ v + 7 ≤ L) (nx : ∀ (x1 : Wx) (Z1 : Zt) (S1 : Ab), LI x1 Z1 s a S1 L → V mL_law k n 1513 [some (r_ s), some (r_ a), some (r_ (a + 292)), some (i_ v)] [] x1 Z1 Q) : V mL_law k n 1273 [some (r_ s), some (r_ a), some (r_ (a + 292)), some (i_ v)] [] x Z Q := by
  obtain ⟨hO, hM, hs, hr, ha, hx, hl⟩ := id hL
  have hV := hO.2.2.2.2.2.1
  refine b_L_law_1273 hO.1 hs (by omega) ⟨by omega, by omega, by omega, by omega, by omega, by omega, sp_X11_code hO.1 hO (hr _ (by omega)) (hr _ (by omega)) (hr _ (by omega)) (fun x1 Z1 o1 f1 => ?_)⟩
  obtain ⟨m1, s1, e1⟩ := hL.a f1
  refine (show V mL_law k n 1292 [some (r_ s), some (r_ a), some (r_ (a + 292)), some (i_ v)] [i_ (aCode S.nw (Z s (v + 1).toNat) (Z s (v + 2).toNat) (Z s (v + 3).toNat))] x1 Z1 Q from b_L_law_1292 m1.1 s1 (by omega) ?_)
  rw [e1]
  refine ⟨by omega, by omega, by omega, by omega, by omega, by omega, sp_X12_code m1 hV (hr _ (by omega)) (hr _ (by omega)) (hr _ (by omega)) (fun Z2 hq => ?_)⟩
  exact (show V mL_law k n 1311 [some (r_ s), some (r_ a), some (r_ (a + 292)), some (i_ v)] [i_ (mACode S.nw (Z s (v + 1).toNat) (Z s (v + 2).toNat) (Z s (v + 3).toNat)), i_ (aCode S.nw (Z s (v + 1).toNat) (Z s (v + 2).toNat) (Z s (v + 3).toNat))] x1 Z2 Q from b_L_law_1311 ⟨(hT S.nw hV.1).2.2.2.2.2.2.2.2.2.2.2.2.1 (Z s (v + 1).toNat) (Z s (v + 2).toNat) (Z s (v + 3).toNat), nx x1 Z2 S (hL.q o1 f1 hq)⟩)
theorem lw_sent (hT : Ties) {k n : Nat} {x : Wx} {Z : Zt} {Q : Option Value → Wx → Zt → Prop} {s a L : Nat} {v : Int} {S : Ab} (hL : LI x Z s a S L) (hv : 0 ≤ v ∧ v + 7 ≤ L) (nx : ∀ (x1 : Wx) (Z1 : Zt) (S1 : Ab), LI x1 Z1 s a S1 L → V mL_law k n 1513 [some (r_ s), some (r_ a), some (r_ (a + 292)), some (i_ v)] [] x1 Z1 Q) : V mL_law k n 1316 [some (r_ s), some (r_ a), some (r_ (a + 292)), some (i_ v)] [] x Z Q := by
  obtain ⟨hO, hM, hs, hr, ha, hx, hl⟩ := id hL
  have hV := hO.2.2.2.2.2.1
  refine b_L_law_1316 hO.1 hs (by omega) ⟨by omega, by omega, by omega, by omega, by omega, by omega, by omega, by omega, sp_X11_sent hO.1 hO (hr _ (by omega)) (hr _ (by omega)) (hr _ (by omega)) (hr _ (by omega)) (fun x1 Z1 o1 f1 => ?_)⟩
  obtain ⟨m1, s1, e1⟩ := hL.a f1
  refine (show V mL_law k n 1340 [some (r_ s), some (r_ a), some (r_ (a + 292)), some (i_ v)] [i_ (aSent S.nw (Z s (v + 1).toNat) (Z s (v + 2).toNat) (Z s (v + 3).toNat) (Z s (v + 4).toNat))] x1 Z1 Q from b_L_law_1340 m1.1 s1 (by omega) ?_)
  rw [e1]
  refine ⟨by omega, by omega, by omega, by omega, by omega, by omega, by omega, by omega, sp_X12_sent m1 hV (hr _ (by omega)) (hr _ (by omega)) (hr _ (by omega)) (hr _ (by omega)) (fun Z2 hq => ?_)⟩
  exact (show V mL_law k n 1364 [some (r_ s), some (r_ a), some (r_ (a + 292)), some (i_ v)] [i_ (mASent S.nw (Z s (v + 1).toNat) (Z s (v + 2).toNat) (Z s (v + 3).toNat) (Z s (v + 4).toNat)), i_ (aSent S.nw (Z s (v + 1).toNat) (Z s (v + 2).toNat) (Z s (v + 3).toNat) (Z s (v + 4).toNat))] x1 Z2 Q from b_L_law_1364 ⟨(hT S.nw hV.1).2.2.2.2.2.2.2.2.2.2.2.2.2.1 (Z s (v + 1).toNat) (Z s (v + 2).toNat) (Z s (v + 3).toNat) (Z s (v + 4).toNat), nx x1 Z2 S (hL.q o1 f1 hq)⟩)
theorem lw_mended (hT : Ties) {k n : Nat} {x : Wx} {Z : Zt} {Q : Option Value → Wx → Zt → Prop} {s a L : Nat} {v : Int} {S : Ab} (hL : LI x Z s a S L) (hv : 0 ≤ v ∧ v + 7 ≤ L) (nx : ∀ (x1 : Wx) (Z1 : Zt) (S1 : Ab), LI x1 Z1 s a S1 L → V mL_law k n 1513 [some (r_ s), some (r_ a), some (r_ (a + 292)), some (i_ v)] [] x1 Z1 Q) : V mL_law k n 1369 [some (r_ s), some (r_ a), some (r_ (a + 292)), some (i_ v)] [] x Z Q := by
  obtain ⟨hO, hM, hs, hr, ha, hx, hl⟩ := id hL
  have hV := hO.2.2.2.2.2.1
  refine b_L_law_1369 hO.1 hs (by omega) ⟨by omega, by omega, by omega, by omega, by omega, by omega, by omega, by omega, by omega, by omega, by omega, by omega, sp_X11_mended hO.1 hO (hr _ (by omega)) (hr _ (by omega)) (hr _ (by omega)) (hr _ (by omega)) (hr _ (by omega)) (fun x1 Z1 o1 f1 => ?_)⟩
  obtain ⟨m1, s1, e1⟩ := hL.a f1
  refine (show V mL_law k n 1404 [some (r_ s), some (r_ a), some (r_ (a + 292)), some (i_ v)] [i_ (aMended S.nw (Z s (v + 1).toNat) (Z s (v + 2).toNat) (Z s (v + 3).toNat) (Z s (v + 4).toNat) (Z s (v + 5).toNat) (Z s (v + 6).toNat))] x1 Z1 Q from b_L_law_1404 m1.1 s1 (by omega) ?_)
  rw [e1]
  refine ⟨by omega, by omega, by omega, by omega, by omega, by omega, by omega, by omega, by omega, by omega, by omega, by omega, sp_X12_mended m1 hV (hr _ (by omega)) (hr _ (by omega)) (hr _ (by omega)) (hr _ (by omega)) (hr _ (by omega)) (fun Z2 hq => ?_)⟩
  exact (show V mL_law k n 1439 [some (r_ s), some (r_ a), some (r_ (a + 292)), some (i_ v)] [i_ (mAMended S.nw (Z s (v + 1).toNat) (Z s (v + 2).toNat) (Z s (v + 3).toNat) (Z s (v + 4).toNat) (Z s (v + 5).toNat) (Z s (v + 6).toNat)), i_ (aMended S.nw (Z s (v + 1).toNat) (Z s (v + 2).toNat) (Z s (v + 3).toNat) (Z s (v + 4).toNat) (Z s (v + 5).toNat) (Z s (v + 6).toNat))] x1 Z2 Q from b_L_law_1439 ⟨(hT S.nw hV.1).2.2.2.2.2.2.2.2.2.2.2.2.2.2 (Z s (v + 1).toNat) (Z s (v + 2).toNat) (Z s (v + 3).toNat) (Z s (v + 4).toNat) (Z s (v + 5).toNat) (Z s (v + 6).toNat), nx x1 Z2 S (hL.q o1 f1 hq)⟩)
theorem lw_count (hT : Ties) {k n : Nat} {x : Wx} {Z : Zt} {Q : Option Value → Wx → Zt → Prop} {s a L : Nat} {v : Int} {S : Ab} (hL : LI x Z s a S L) (hv : 0 ≤ v ∧ v + 7 ≤ L) (nx : ∀ (x1 : Wx) (Z1 : Zt) (S1 : Ab), LI x1 Z1 s a S1 L → V mL_law k n 1513 [some (r_ s), some (r_ a), some (r_ (a + 292)), some (i_ v)] [] x1 Z1 Q) : V mL_law k n 1444 [some (r_ s), some (r_ a), some (r_ (a + 292)), some (i_ v)] [] x Z Q := by
  obtain ⟨hO, hM, hs, hr, ha, hx, hl⟩ := id hL
  have hV := hO.2.2.2.2.2.1
  refine b_L_law_1444 hO.1 hs (by omega) ⟨by omega, by omega, sp_X11_count hO.1 hO (hr _ (by omega)) (fun x1 Z1 o1 f1 => ?_)⟩
  obtain ⟨m1, s1, e1⟩ := hL.a f1
  refine (show V mL_law k n 1453 [some (r_ s), some (r_ a), some (r_ (a + 292)), some (i_ v)] [i_ (aCount S.nw (Z s (v + 1).toNat))] x1 Z1 Q from b_L_law_1453 m1.1 s1 (by omega) ?_)
  rw [e1]
  refine ⟨by omega, by omega, sp_X12_count m1 (hr _ (by omega)) (fun Z2 hq => ?_)⟩
  exact (show V mL_law k n 1462 [some (r_ s), some (r_ a), some (r_ (a + 292)), some (i_ v)] [i_ (aCount S.nw (Z s (v + 1).toNat)), i_ (aCount S.nw (Z s (v + 1).toNat))] x1 Z2 Q from b_L_law_1462 ⟨rfl, nx x1 Z2 S (hL.q o1 f1 hq)⟩)
theorem lw_image {k n : Nat} {x : Wx} {Z : Zt} {Q : Option Value → Wx → Zt → Prop} {s a L : Nat} {v : Int} {S : Ab} (hL : LI x Z s a S L) (hv : 0 ≤ v ∧ v + 7 ≤ L) (hk : 12 ≤ k ∧ 825 ≤ n) (nx : ∀ (x1 : Wx) (Z1 : Zt) (S1 : Ab), LI x1 Z1 s a S1 L → V mL_law (k - 12) (n - 825) 1513 [some (r_ s), some (r_ a), some (r_ (a + 292)), some (i_ v)] [] x1 Z1 Q) : V mL_law k n 1467 [some (r_ s), some (r_ a), some (r_ (a + 292)), some (i_ v)] [] x Z Q := by
  obtain ⟨hO, hM, hs, hr, ha, hx, hl⟩ := id hL
  have hV := hO.2.2.2.2.2.1
  refine b_L_law_1467 hO.1 hs (by omega) ⟨by omega, by omega, hk.1, hk.2, sp_X11_image (k := 0) (n := 0) hO hx (hr _ (by omega)) (fun x1 Z1 o1 f1 => ?_)⟩
  obtain ⟨g1, g2, g3, g4⟩ := f1
  have m1 : MI x1 Z1 (a + 292) S := hM.to (fun c _ c2 => (g3 c (by omega)).1) (fun c c1 c2 => g4 c (by omega) (by omega)) (fun c _ c2 => (g3 c (by omega)).2)
  have s1 : x1.1 s = some (200, L) := by rw [(g3 s (by omega)).1]; exact hs
  have e1 : Z1 s = Z s := (g3 s (by omega)).2
  refine (show V mL_law (k - 12) (n - 825) 1476 [some (r_ s), some (r_ a), some (r_ (a + 292)), some (i_ v)] [i_ (aImg (Z s (v + 1).toNat))] x1 Z1 Q from b_L_law_1476 m1.1 s1 (by omega) ?_)
  rw [e1]
  refine ⟨by omega, by omega, sp_X12_image m1 hV (hr _ (by omega)) (fun Z2 m2 w2 => ?_)⟩
  refine (show V mL_law (k - 12) (n - 825) 1485 [some (r_ s), some (r_ a), some (r_ (a + 292)), some (i_ v)] [i_ (aImg (Z s (v + 1).toNat)), i_ (aImg (Z s (v + 1).toNat))] x1 Z2 Q from b_L_law_1485 ⟨rfl, nx x1 Z2 _ ⟨o1.out (fun b hb => w2 b (by omega)), m2, s1, fun j hj => ?_, ha, by omega, hl⟩⟩)
  rw [w2 s (by omega), e1]; exact hr j hj
theorem lw_again (hT : Ties) {k n : Nat} {x : Wx} {Z : Zt} {Q : Option Value → Wx → Zt → Prop} {s a L : Nat} {v : Int} {S : Ab} (hL : LI x Z s a S L) (hv : 0 ≤ v ∧ v + 7 ≤ L) (nx : ∀ (x1 : Wx) (Z1 : Zt) (S1 : Ab), LI x1 Z1 s a S1 L → V mL_law k n 1513 [some (r_ s), some (r_ a), some (r_ (a + 292)), some (i_ v)] [] x1 Z1 Q) : V mL_law k n 1490 [some (r_ s), some (r_ a), some (r_ (a + 292)), some (i_ v)] [] x Z Q := by
  obtain ⟨hO, hM, hs, hr, ha, hx, hl⟩ := id hL
  have hV := hO.2.2.2.2.2.1
  refine b_L_law_1490 hO.1 hs (by omega) ⟨by omega, by omega, sp_X11_again hO.1 hO (hr _ (by omega)) (fun Z1 o1 f1 => ?_)⟩
  obtain ⟨m1, s1, e1⟩ := hL.a f1
  refine (show V mL_law k n 1499 [some (r_ s), some (r_ a), some (r_ (a + 292)), some (i_ v)] [i_ (aAgain S (Z s (v + 1).toNat))] x Z1 Q from b_L_law_1499 m1.1 s1 (by omega) ?_)
  rw [e1]
  refine ⟨by omega, by omega, sp_X12_again m1 hV (hr _ (by omega)) (fun Z2 m2 w2 => ?_)⟩
  exact (show V mL_law k n 1508 [some (r_ s), some (r_ a), some (r_ (a + 292)), some (i_ v)] [i_ (aAgain S (Z s (v + 1).toNat)), i_ (aAgain S (Z s (v + 1).toNat))] x Z2 Q from b_L_law_1508 ⟨rfl, nx x Z2 _ (hL.w o1 f1 m2 w2)⟩)
/-- all rounds -/
theorem lw_loop (hT : Ties) {s a L : Nat} {Q : Option Value → Wx → Zt → Prop} (hq : ∀ (x : Wx) (Z : Zt), Q (some (i_ 1)) x Z) : ∀ (m : Nat) (k n : Nat) (x : Wx) (Z : Zt) (v : Int) (S : Ab), 0 ≤ v → (L : Int) < v + 7 * (m + 1) → 12 * m ≤ k ∧ 825 * m ≤ n → v ≤ 4000 → LI x Z s a S L → V mL_law k n 18 [some (r_ s), some (r_ a), some (r_ (a + 292)), some (i_ v)] [] x Z Q := by
  intro m
  induction m with
  | zero =>
    intro k n x Z v S hv hm _ hv4 hL
    have hl := hL.2.2.2.2.2.2
    exact b_L_law_18 hL.2.2.1 (by omega) ⟨⟨by omega, by omega⟩, ⟨by omega, by omega⟩, fun _ => hq x Z, fun c => by omega⟩
  | succ m ih =>
    intro k n x Z v S hv hm hk hv4 hL
    have hl := hL.2.2.2.2.2.2
    refine b_L_law_18 hL.2.2.1 (by omega) ⟨⟨by omega, by omega⟩, ⟨by omega, by omega⟩, fun _ => hq x Z, fun c => ⟨hv, by omega, ⟨by omega, by omega⟩, ?_⟩⟩
    have nx0 : ∀ k2 n2 : Nat, (12 * m ≤ k2 ∧ 825 * m ≤ n2) → ∀ (x1 : Wx) (Z1 : Zt) (S1 : Ab), LI x1 Z1 s a S1 L → V mL_law k2 n2 1513 [some (r_ s), some (r_ a), some (r_ (a + 292)), some (i_ v)] [] x1 Z1 Q := fun k2 n2 h2 x1 Z1 S1 h1 => b_L_law_1513 (ih k2 n2 x1 Z1 (v + 7) S1 (by omega) (by omega) h2 (by omega) h1)
    refine ⟨fun _ => lw_feed hT hL ⟨by omega, by omega⟩ (nx0 k n (by omega)), fun _ => lw_end hT hL ⟨by omega, by omega⟩ (nx0 k n (by omega)), fun _ => lw_text hT hL ⟨by omega, by omega⟩ (nx0 k n (by omega)), fun _ => lw_fault hT hL ⟨by omega, by omega⟩ (nx0 k n (by omega)), fun _ => lw_curve hT hL ⟨by omega, by omega⟩ (nx0 k n (by omega)), fun _ => lw_sum hT hL ⟨by omega, by omega⟩ (nx0 k n (by omega)), fun _ => lw_function hT hL ⟨by omega, by omega⟩ (nx0 k n (by omega)), fun _ => lw_point hT hL ⟨by omega, by omega⟩ (nx0 k n (by omega)), fun _ => lw_counted hT hL ⟨by omega, by omega⟩ (nx0 k n (by omega)), fun _ => lw_share hT hL ⟨by omega, by omega⟩ (nx0 k n (by omega)), fun _ => lw_fits hT hL ⟨by omega, by omega⟩ (nx0 k n (by omega)), fun _ => lw_order hT hL ⟨by omega, by omega⟩ (nx0 k n (by omega)), fun _ => lw_norm hT hL ⟨by omega, by omega⟩ (nx0 k n (by omega)), fun _ => lw_room hT hL ⟨by omega, by omega⟩ (nx0 k n (by omega)), fun _ => lw_base hT hL ⟨by omega, by omega⟩ (nx0 k n (by omega)), fun _ => lw_under hT hL ⟨by omega, by omega⟩ (nx0 k n (by omega)), fun _ => lw_gap hT hL ⟨by omega, by omega⟩ (nx0 k n (by omega)), fun _ => lw_times hT hL ⟨by omega, by omega⟩ (nx0 k n (by omega)), fun _ => lw_added hT hL ⟨by omega, by omega⟩ (nx0 k n (by omega)), fun _ => lw_orderOf hT hL ⟨by omega, by omega⟩ (nx0 k n (by omega)), fun _ => lw_same hT hL ⟨by omega, by omega⟩ (nx0 k n (by omega)), fun _ => lw_log hT hL ⟨by omega, by omega⟩ (nx0 k n (by omega)), fun _ => lw_torsion hT hL ⟨by omega, by omega⟩ (nx0 k n (by omega)), fun _ => lw_change hT hL ⟨by omega, by omega⟩ (nx0 k n (by omega)), fun _ => lw_like hT hL ⟨by omega, by omega⟩ (nx0 k n (by omega)), fun _ => lw_twist hT hL ⟨by omega, by omega⟩ (nx0 k n (by omega)), fun _ => lw_code hT hL ⟨by omega, by omega⟩ (nx0 k n (by omega)), fun _ => lw_sent hT hL ⟨by omega, by omega⟩ (nx0 k n (by omega)), fun _ => lw_mended hT hL ⟨by omega, by omega⟩ (nx0 k n (by omega)), fun _ => lw_count hT hL ⟨by omega, by omega⟩ (nx0 k n (by omega)), fun _ => lw_image hL ⟨by omega, by omega⟩ ⟨by omega, by omega⟩ (nx0 (k - 12) (n - 825) (by omega)), fun _ => lw_again hT hL ⟨by omega, by omega⟩ (nx0 k n (by omega)), fun c2 => nx0 k n (by omega) x Z S hL⟩
