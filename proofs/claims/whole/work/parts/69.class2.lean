theorem oth_cl {a d : Nat} (hd : d = a + 282 ∨ d = a + 287) {m : Nat} (hm : m ≤ 49) {Z Z' : Zt} (h : Oth Z Z' (fun q => (a + 229 + 6 < q ∧ q ≤ a + 229 + m) ∨ At5 d q)) : Oth Z Z' (fun b => (a + 229 + 6 < b ∧ b ≤ a + 229 + 49) ∨ (a + 281 ≤ b ∧ b < a + 292)) := h.wk (fun b hb => by rcases hb with hb | hb <;> omega)
theorem prK {Z Z' : Zt} {d : Nat} {p : Int} {u v : Nat → Int} {A : Nat → Prop} (h : PrA Z d p u v) (ho : Oth Z Z' A) (hA : ∀ q, d < q → q ≤ d + 4 → ¬ A q) : PrA Z' d p u v := ⟨h.1.kept ho (hA _ (by omega) (by omega)) (hA _ (by omega) (by omega)), h.2.kept ho (hA _ (by omega) (by omega)) (hA _ (by omega) (by omega))⟩
theorem Is11.i4 {x : Wx} {a : Nat} (h : Is11 x a) : Is4 x (a + 41) ∧ Is7 x (a + 44) := ⟨h.qK7.2.2.1, h.qK7.2.2.2.2.1⟩
theorem sp_X11_times {k n : Nat} {x : Wx} {Z : Zt} {Q : Option Value → Wx → Zt → Prop} {a : Nat} {v s m w : Int} (o : Is11 x a) {S : Ab} (hI : OI x Z a S) (hv : Rg v) (hs : Rg s) (hm : Rg m) (hw : Rg w) (h : RAn a S x Z Q (aTimes S.nw v s m w)) : V mX11_times k n 0 [some (r_ a), some (i_ v), some (i_ s), some (i_ m), some (i_ w)] [] x Z Q := by
  unfold aTimes at h
  have no : ∀ (x' : Wx) (Z' : Zt), OI x' Z' a S → Fx a x x' Z Z' → ¬ (fitB S.nw v s = true ∧ (-99 ≤ m ∧ m ≤ 99) ∧ 0 ≤ w ∧ w ≤ 4) → V mX11_times k n 32 [none, none, none, none, none] [] x' Z' Q := fun x' Z' h1 h2 h3 => b_X11_times_32 (by rw [if_neg h3] at h; exact h x' Z' h1 h2)
  refine b_X11_times_0 o ⟨hm, fun c => no x Z hI Fx.rf (by omega), fun c => ⟨fun c0 => no x Z hI Fx.rf (by omega), fun c0 => ⟨hw, fun c1 => no x Z hI Fx.rf (by omega), fun c1 => ⟨fun c2 => no x Z hI Fx.rf (by omega), fun c2 => ⟨S, hI, hv, hs, fun x1 Z1 r1 hq => ?_⟩⟩⟩⟩⟩
  obtain ⟨q1, q2, q3, q4⟩ := hq
  subst q3
  refine ⟨q1.1, q1.1.i4.1, q1.1.i4.2, bI_rg _, fun c3 => ?_, fun c3 => no x1 Z1 q1 q2 (fun e => by rw [bI_0 c3] at e; cases e.1)⟩
  have hf := bI_1 c3
  have hft := fitB_t hf
  obtain ⟨d, hd⟩ : ∃ d : Nat, v = (d : Int) := ⟨v.toNat, by omega⟩
  obtain ⟨t, ht⟩ : ∃ t : Nat, s = (t : Int) := ⟨s.toNat, by omega⟩
  have h14 : Z1 a 14 = (d : Int) := by rw [q4 hf, hd]
  obtain ⟨g1, g2, g3, g4, g5, g6⟩ := q1.cv h14
  obtain ⟨_, hk, _, _, _, hV, _⟩ := id q1
  have hct := q1.ct
  have hcr := hV.1.2.2.2.2.2.1
  have hsr := hV.1.2.2.2.2.2.2.2.2.1 t (by omega)
  rw [if_pos ⟨hf, ⟨c, c0⟩, c1, c2⟩, hd, ht, Int.toNat_natCast, Int.toNat_natCast] at h
  rw [show Z1 (a + 1 + 2) (Int.toNat (1 : Int)) = S.nw.ct 1 from hct.2.1]
  refine ⟨hk.1, hk.2.1, by decide, hs, ⟨by omega, by show S.nw.ct 1 ≤ 3; omega⟩, fun hn => rqn hn (by omega), fun b hb => ?_⟩
  have hbe : b = a + 1 + 4 + (2 + t) := by rw [(rqs hb).2, ht]; show a + 1 + 4 + (2 + (t : Int)).toNat = _; omega
  have hrow := q1.row (r := 2 + t) (by omega)
  rw [hbe, hrow.2]
  refine ⟨hrow.1, S.nw.p d, gen (S.nw.F d), S.nw.F d, g5.1, g5.2.1, ⟨by omega, by omega⟩, g6, hsr.1, Or.inl (by omega), by omega, fun Z2 hz2 => ?_⟩
  have hI2 := q1.scl (oth_cl (Or.inl rfl) (by decide) hz2.2)
  have h142 : Z2 a 14 = (d : Int) := by rw [hz2.2 a (by intro hh; rcases hh with hh | hh <;> omega)]; exact h14
  refine ⟨S.nw.p d, gen (S.nw.F d), S.nw.F d, S.nw.K d t, g5.1, g5.2.1, ⟨by omega, by omega⟩, (hI2.1.cv h142).2.2.2.2.2, hI2.1.K_ok h142 t, hz2.1, ⟨c, c0⟩, by omega, by omega, fun Z3 hz3 => ?_⟩
  have hI3 := hI2.1.scl (oth_cl (Or.inr rfl) (by decide) hz3.2)
  exact ⟨S.nw.p d, _, _, hz3.1, ⟨c1, c2⟩, h x1 Z3 hI3.1 (q2.tr (hI2.2.tr hI3.2))⟩
theorem sp_X11_orderOf {k n : Nat} {x : Wx} {Z : Zt} {Q : Option Value → Wx → Zt → Prop} {a : Nat} {v s : Int} (o : Is11 x a) {S : Ab} (hI : OI x Z a S) (hv : Rg v) (hs : Rg s) (h : RAn a S x Z Q (aOrderOf S.nw v s)) : V mX11_orderOf k n 0 [some (r_ a), some (i_ v), some (i_ s)] [] x Z Q := by
  unfold aOrderOf at h
  refine b_X11_orderOf_0 o ⟨S, hI, hv, hs, fun x1 Z1 r1 hq => ?_⟩
  obtain ⟨q1, q2, q3, q4⟩ := hq
  subst q3
  refine ⟨q1.1, q1.1.i4.1, q1.1.i4.2, bI_rg _, fun c3 => ?_, fun c3 => ?_⟩
  · have hf := bI_1 c3
    have hft := fitB_t hf
    obtain ⟨d, hd⟩ : ∃ d : Nat, v = (d : Int) := ⟨v.toNat, by omega⟩
    obtain ⟨t, ht⟩ : ∃ t : Nat, s = (t : Int) := ⟨s.toNat, by omega⟩
    have h14 : Z1 a 14 = (d : Int) := by rw [q4 hf, hd]
    obtain ⟨g1, g2, g3, g4, g5, g6⟩ := q1.cv h14
    obtain ⟨_, hk, _, _, _, hV, _⟩ := id q1
    have hct := q1.ct
    have hcr := hV.1.2.2.2.2.2.1
    have hsr := hV.1.2.2.2.2.2.2.2.2.1 t (by omega)
    rw [if_pos hf, hd, ht, Int.toNat_natCast, Int.toNat_natCast] at h
    rw [show Z1 (a + 1 + 2) (Int.toNat (1 : Int)) = S.nw.ct 1 from hct.2.1]
    refine ⟨hk.1, hk.2.1, by decide, hs, ⟨by omega, by show S.nw.ct 1 ≤ 3; omega⟩, fun hn => rqn hn (by omega), fun b hb => ?_⟩
    have hbe : b = a + 1 + 4 + (2 + t) := by rw [(rqs hb).2, ht]; show a + 1 + 4 + (2 + (t : Int)).toNat = _; omega
    have hrow := q1.row (r := 2 + t) (by omega)
    rw [hbe, hrow.2]
    refine ⟨hrow.1, S.nw.p d, gen (S.nw.F d), S.nw.F d, g5.1, g5.2.1, ⟨by omega, by omega⟩, g6, hsr.1, Or.inl (by omega), by omega, fun Z2 hz2 => ?_⟩
    have hI2 := q1.scl (oth_cl (Or.inl rfl) (by decide) hz2.2)
    have h142 : Z2 a 14 = (d : Int) := by rw [hz2.2 a (by intro hh; rcases hh with hh | hh <;> omega)]; exact h14
    have g42 := (hI2.1.cv h142).2.2.2.1
    have hg := gen_rg (S.nw.F d)
    rw [ShV g42, g42.2.2.2.1]
    refine ⟨⟨by omega, by omega⟩, S.nw.p d, gen (S.nw.F d), S.nw.F d, S.nw.K d t, g5.1, g5.2.1, ⟨by omega, by omega⟩, (hI2.1.cv h142).2.2.2.2.2, hI2.1.K_ok h142 t, hz2.1, nCl_rg g3 _, by omega, fun Z3 hz3 => ?_⟩
    have hI3 := hI2.1.scl (hz3.wk (fun b hb => Or.inl hb))
    exact h x1 Z3 hI3.1 (q2.tr (hI2.2.tr hI3.2))
  · rw [if_neg (by rw [bI_0 c3]; decide)] at h; exact h x1 Z1 q1 q2
theorem two_t {b c : Bool} (h : (b && c) = true) : b = true ∧ c = true := by cases b <;> cases c <;> simp at h ⊢
theorem sp_X11_added {k n : Nat} {x : Wx} {Z : Zt} {Q : Option Value → Wx → Zt → Prop} {a : Nat} {v s t w : Int} (o : Is11 x a) {S : Ab} (hI : OI x Z a S) (hv : Rg v) (hs : Rg s) (ht : Rg t) (hw : Rg w) (h : RAn a S x Z Q (aAdded S.nw v s t w)) : V mX11_added k n 0 [some (r_ a), some (i_ v), some (i_ s), some (i_ t), some (i_ w)] [] x Z Q := by
  unfold aAdded at h
  have no : ∀ (x' : Wx) (Z' : Zt), OI x' Z' a S → Fx a x x' Z Z' → ¬ ((fitB S.nw v s && fitB S.nw v t) = true ∧ 0 ≤ w ∧ w ≤ 4) → V mX11_added k n 21 [none, none, none, none, none] [] x' Z' Q := fun x' Z' h1 h2 h3 => b_X11_added_21 (by rw [if_neg h3] at h; exact h x' Z' h1 h2)
  refine b_X11_added_0 o ⟨hw, fun c1 => no x Z hI Fx.rf (by omega), fun c1 => ⟨fun c2 => no x Z hI Fx.rf (by omega), fun c2 => ⟨S, hI, hv, hs, ht, fun x1 Z1 r1 hq => ?_⟩⟩⟩
  obtain ⟨q1, q2, q3, q4⟩ := hq
  subst q3
  refine ⟨q1.1, q1.1.i4.1, q1.1.i4.2, bI_rg _, fun c3 => ?_, fun c3 => no x1 Z1 q1 q2 (fun e => by rw [bI_0 c3] at e; cases e.1)⟩
  have hf := bI_1 c3
  have hf1 := fitB_t (two_t hf).1
  have hf2 := fitB_t (two_t hf).2
  obtain ⟨d, hd⟩ : ∃ d : Nat, v = (d : Int) := ⟨v.toNat, by omega⟩
  obtain ⟨s', hs'⟩ : ∃ t : Nat, s = (t : Int) := ⟨s.toNat, by omega⟩
  obtain ⟨t', ht'⟩ : ∃ q : Nat, t = (q : Int) := ⟨t.toNat, by omega⟩
  have h14 : Z1 a 14 = (d : Int) := by rw [q4 hf, hd]
  obtain ⟨g1, g2, g3, g4, g5, g6⟩ := q1.cv h14
  rw [if_pos ⟨hf, c1, c2⟩, hd, hs', ht', Int.toNat_natCast, Int.toNat_natCast, Int.toNat_natCast] at h
  refine ⟨S, d, s', t', g5.1, g5.2.1, q1.1, q1, h14, ⟨hs', by omega⟩, ⟨ht', by omega⟩, fun Z2 hz2 => ?_⟩
  obtain ⟨y1, y2, y3, y4, y5⟩ := hz2
  have gc := (y1.cv y3).2.2.2.2.2
  refine ⟨S.nw.p d, gen (S.nw.F d), S.nw.F d, S.nw.K d s', S.nw.K d t', g5.1, g5.2.1, gc.1, y1.K_ok y3 s', y1.K_ok y3 t', y4, y5, gc.2.1, gc.2.2.1, gc.2.2.2, by omega, by omega, by omega, by omega, fun Z3 hz3 => ?_⟩
  have hI3 := y1.scl (oth_cl (Or.inl rfl) (by decide) hz3.2)
  exact ⟨S.nw.p d, _, _, hz3.1, ⟨c1, c2⟩, h x1 Z3 hI3.1 (q2.tr (y2.tr hI3.2))⟩
theorem sp_X11_log {k n : Nat} {x : Wx} {Z : Zt} {Q : Option Value → Wx → Zt → Prop} {a : Nat} {v s t : Int} (o : Is11 x a) {S : Ab} (hI : OI x Z a S) (hv : Rg v) (hs : Rg s) (ht : Rg t) (h : RAn a S x Z Q (aLog S.nw v s t)) : V mX11_log k n 0 [some (r_ a), some (i_ v), some (i_ s), some (i_ t)] [] x Z Q := by
  unfold aLog at h
  refine b_X11_log_0 o ⟨S, hI, hv, hs, ht, fun x1 Z1 r1 hq => ?_⟩
  obtain ⟨q1, q2, q3, q4⟩ := hq
  subst q3
  refine ⟨q1.1, q1.1.i4.1, q1.1.i4.2, bI_rg _, fun c3 => ?_, fun c3 => ?_⟩
  · have hf := bI_1 c3
    have hf1 := fitB_t (two_t hf).1
    have hf2 := fitB_t (two_t hf).2
    obtain ⟨d, hd⟩ : ∃ d : Nat, v = (d : Int) := ⟨v.toNat, by omega⟩
    obtain ⟨s', hs'⟩ : ∃ t : Nat, s = (t : Int) := ⟨s.toNat, by omega⟩
    obtain ⟨t', ht'⟩ : ∃ q : Nat, t = (q : Int) := ⟨t.toNat, by omega⟩
    have h14 : Z1 a 14 = (d : Int) := by rw [q4 hf, hd]
    obtain ⟨g1, g2, g3, g4, g5, g6⟩ := q1.cv h14
    rw [if_pos hf, hd, hs', ht', Int.toNat_natCast, Int.toNat_natCast, Int.toNat_natCast] at h
    refine ⟨S, d, s', t', g5.1, g5.2.1, q1.1, q1, h14, ⟨hs', by omega⟩, ⟨ht', by omega⟩, fun Z2 hz2 => ?_⟩
    obtain ⟨y1, y2, y3, y4, y5⟩ := hz2
    have gc := (y1.cv y3).2.2.2.2.2
    have g42 := (y1.cv y3).2.2.2.1
    have hg := gen_rg (S.nw.F d)
    have hn := nCl_rg g3 (S.nw.F d)
    rw [ShV g42, g42.2.2.2.1]
    refine ⟨⟨by omega, by omega⟩, S.nw.p d, gen (S.nw.F d), S.nw.F d, S.nw.K d s', S.nw.K d t', g5.1, g5.2.1, ⟨by omega, by omega⟩, gc, y1.K_ok y3 s', y1.K_ok y3 t', y4, y5, hn, by omega, by omega, fun Z3 hz3 => ?_⟩
    have hI3 := y1.scl (hz3.wk (fun b hb => Or.inl hb))
    exact h x1 Z3 hI3.1 (q2.tr (y2.tr hI3.2))
  · rw [if_neg (by rw [bI_0 c3]; decide)] at h; exact h x1 Z1 q1 q2
theorem sp_X11_same {k n : Nat} {x : Wx} {Z : Zt} {Q : Option Value → Wx → Zt → Prop} {a : Nat} {v s t : Int} (o : Is11 x a) {S : Ab} (hI : OI x Z a S) (hv : Rg v) (hs : Rg s) (ht : Rg t) (h : ∀ (x' : Wx) (Z' : Zt) (r : Int), (r = 0 ∨ r = 1) → (r = 1 ↔ aSame S.nw v s t) → OI x' Z' a S → Fx a x x' Z Z' → Q (some (i_ r)) x' Z') : V mX11_same k n 0 [some (r_ a), some (i_ v), some (i_ s), some (i_ t)] [] x Z Q := by
  have h0 : ∀ (x' : Wx) (Z' : Zt), ¬ aSame S.nw v s t → OI x' Z' a S → Fx a x x' Z Z' → Q (some (i_ 0)) x' Z' := fun x' Z' hn h1 h2 => h x' Z' 0 (Or.inl rfl) ⟨fun e => (by cases e), fun e => absurd e hn⟩ h1 h2
  refine b_X11_same_0 o ⟨S, hI, hv, hs, ht, fun x1 Z1 r1 hq => ?_⟩
  obtain ⟨q1, q2, q3, q4⟩ := hq
  subst q3
  refine ⟨q1.1, bI_rg _, fun c3 => ?_, fun c3 => h0 x1 Z1 (fun e => by have := e.1; rw [bI_0 c3] at this; cases this) q1 q2⟩
  have hf := bI_1 c3
  have hf1 := fitB_t (two_t hf).1
  have hf2 := fitB_t (two_t hf).2
  obtain ⟨d, hd⟩ : ∃ d : Nat, v = (d : Int) := ⟨v.toNat, by omega⟩
  obtain ⟨s', hs'⟩ : ∃ t : Nat, s = (t : Int) := ⟨s.toNat, by omega⟩
  obtain ⟨t', ht'⟩ : ∃ q : Nat, t = (q : Int) := ⟨t.toNat, by omega⟩
  have h14 : Z1 a 14 = (d : Int) := by rw [q4 hf, hd]
  obtain ⟨g1, g2, g3, g4, g5, g6⟩ := q1.cv h14
  have hp := g3.rg
  have e1 : v.toNat = d := by omega
  have e2 : s.toNat = s' := by omega
  have e3 : t.toNat = t' := by omega
  unfold aSame at h h0
  rw [e1, e2, e3] at h h0
  refine ⟨S, d, s', t', g5.1, g5.2.1, q1.1, q1, h14, ⟨hs', by omega⟩, ⟨ht', by omega⟩, fun Z2 hz2 => ?_⟩
  obtain ⟨y1, y2, y3, y4, y5⟩ := hz2
  refine ⟨S.nw.p d, _, _, _, _, y4, y5, hp.2, fun r hr => ⟨?_, fun c4 => b_X11_same_63 (h0 x1 Z2 (fun e => ?_) y1 (q2.tr y2)), fun c4 => ?_⟩⟩
  · rcases hr.1 with e | e <;> rw [e] <;> exact ⟨by decide, by decide⟩
  · have := hr.2.2 (by rw [e.2.1]; exact ⟨rfl, rfl⟩); omega
  · have hm := hr.2.1 (hr.1.resolve_left c4)
    have hm' : S.nw.K d s' = S.nw.K d t' := Prod.ext hm.1 hm.2
    obtain ⟨_, hk, _, _, _, hV, _⟩ := id y1
    have hct := y1.ct
    have hcr := hV.1.2.2.2.2.2.1
    have hsr := (hV.1.2.2.2.2.2.2.2.2.1 s' (by omega)).1
    have htr := (hV.1.2.2.2.2.2.2.2.2.1 t' (by omega)).1
    have d1 := sdeg_rg hsr (S.nw.rw (2 + s') 0).toNat (by have := hsr.1; omega)
    have d2 := sdeg_rg htr (S.nw.rw (2 + t') 0).toNat (by have := htr.1; omega)
    rw [show Z2 (a + 1 + 2) (Int.toNat (1 : Int)) = S.nw.ct 1 from hct.2.1]
    refine ⟨hk.1, hk.2.1, by decide, hs, ⟨by omega, by show S.nw.ct 1 ≤ 3; omega⟩, fun hn => rqn hn (by omega), fun b hb => ?_⟩
    have hbe : b = a + 1 + 4 + (2 + s') := by rw [(rqs hb).2, hs']; show a + 1 + 4 + (2 + (s' : Int)).toNat = _; omega
    have hrs := y1.row (r := 2 + s') (by omega)
    have hrt := y1.row (r := 2 + t') (by omega)
    rw [hbe, hrs.2]
    refine ⟨hrs.1, hsr, ht, fun hn => rqn hn (by omega), fun b2 hb2 => ?_⟩
    have hbe2 : b2 = a + 1 + 4 + (2 + t') := by rw [(rqs hb2).2, ht']; show a + 1 + 4 + (2 + (t' : Int)).toNat = _; omega
    rw [hbe2, hrt.2]
    have b1 := hsr.1
    have b2 := htr.1
    refine ⟨hrt.1, htr, ⟨by omega, by omega⟩, ⟨by omega, by omega⟩, fun c5 => b_X11_same_63 (h0 x1 Z2 (fun e => c5 e.2.2) y1 (q2.tr y2)), fun c5 => h x1 Z2 1 (Or.inr rfl) ⟨fun _ => ⟨hf, hm', c5⟩, fun _ => rfl⟩ y1 (q2.tr y2)⟩
