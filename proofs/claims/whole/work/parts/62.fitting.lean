theorem w_X0_ofSum {k n : Nat} {x : Wx} {Z : Zt} {Q : Option Value → Wx → Zt → Prop} {a r d fl ff : Nat} (r1 : x.2.1 a 1 = some fl) (r2 : x.2.1 a 2 = some ff) (o : Is0 x a) (sr : x.1 r = some (100, 26)) (od : Is6 x d) (ofl : Is4 x fl) (off : Is7 x ff) {p g : Int} {F : Nat → Int} (hl : fl + 2 < a ∧ ff + 1 < a) (hZ : CZ Z a fl ff p g F) (hr : SumR (Z r)) (hrd : r < a ∨ d + 5 ≤ r) (hd2 : a + 50 ≤ d) (h : ∀ Z' : Zt, (PrA Z' d p (sumF p F g (Z r) 0 (Z r 0).toNat czero).1 (sumF p F g (Z r) 0 (Z r 0).toNat czero).2 ∧ Oth Z Z' (fun q => (a + 6 < q ∧ q ≤ a + 44) ∨ At5 d q)) → Q none x Z') : V mX0_ofSum k n 0 [some (r_ a), some (r_ r), some (r_ d), none, none, none, none] [] x Z Q := sp_X0_ofSum ⟨r1, r2, o, ofl, off, hl.1, hl.2⟩ sr od hZ hr hrd hd2 h
theorem w_X0_multiply {k n : Nat} {x : Wx} {Z : Zt} {Q : Option Value → Wx → Zt → Prop} {a b d fl ff : Nat} {w : Int} (r1 : x.2.1 a 1 = some fl) (r2 : x.2.1 a 2 = some ff) (o : Is0 x a) (ob : Is6 x b) (od : Is6 x d) (ofl : Is4 x fl) (off : Is7 x ff) {p g : Int} {F : Nat → Int} {A : UV} (hl : fl + 2 < a ∧ ff + 1 < a) (hZ : CZ Z a fl ff p g F) (hA : RP p g A) (hPA : PrA Z b p A.1 A.2) (hw : -99 ≤ w ∧ w ≤ 99) (hb2 : a + 50 ≤ b) (hd2 : a + 50 ≤ d) (h : ∀ Z' : Zt, (PrA Z' d p (mulB p F g (if w < 0 then cneg p A else A) (w.natAbs : Int) 7 czero).1 (mulB p F g (if w < 0 then cneg p A else A) (w.natAbs : Int) 7 czero).2 ∧ Oth Z Z' (fun q => (a + 6 < q ∧ q ≤ a + 44) ∨ At5 d q)) → Q none x Z') : V mX0_multiply k n 0 [some (r_ a), some (r_ b), some (i_ w), some (r_ d), none, none] [] x Z Q := sp_X0_multiply ⟨r1, r2, o, ofl, off, hl.1, hl.2⟩ ob od hZ hA hPA hw hb2 hd2 h
theorem w_X0_orderOfClass {k n : Nat} {x : Wx} {Z : Zt} {Q : Option Value → Wx → Zt → Prop} {a b fl ff : Nat} {w : Int} (r1 : x.2.1 a 1 = some fl) (r2 : x.2.1 a 2 = some ff) (o : Is0 x a) (ob : Is6 x b) (ofl : Is4 x fl) (off : Is7 x ff) {p g : Int} {F : Nat → Int} {A : UV} (hl : fl + 2 < a ∧ ff + 1 < a) (hZ : CZ Z a fl ff p g F) (hA : RP p g A) (hPA : PrA Z b p A.1 A.2) (hw : -10000 ≤ w ∧ w ≤ 10000) (hb2 : a + 50 ≤ b) (h : ∀ Z' : Zt, Oth Z Z' (fun q => a + 6 < q ∧ q ≤ a + 49) → Q (some (i_ (ordF p F g A ((Int.toNat w) - 1) 1 A))) x Z') : V mX0_orderOfClass k n 0 [some (r_ a), some (r_ b), some (i_ w), none] [] x Z Q := by
  by_cases c : 1 ≤ w
  · exact sp_X0_orderOfClass ⟨r1, r2, o, ofl, off, hl.1, hl.2⟩ ob hZ hA hPA ⟨c, hw.2⟩ hb2 h
  · refine b_X0_orderOfClass_0 o ob ⟨p, _, _, hPA, by omega, fun Z1 hh => b_X0_orderOfClass_10 r1 r2 o ob ofl off ⟨⟨by decide, by decide⟩, ⟨by omega, by omega⟩, fun _ => b_X0_orderOfClass_44 ?_, fun c1 => by omega⟩⟩
    have := h Z1 (fun q hq => hh.2 q (fun e => hq (by have h1 := e.1; have h2 := e.2; constructor <;> omega)))
    rw [show w.toNat - 1 = 0 by omega] at this
    exact this
theorem w_X0_logOf {k n : Nat} {x : Wx} {Z : Zt} {Q : Option Value → Wx → Zt → Prop} {a b c fl ff : Nat} {w : Int} (r1 : x.2.1 a 1 = some fl) (r2 : x.2.1 a 2 = some ff) (o : Is0 x a) (ob : Is6 x b) (oc : Is6 x c) (ofl : Is4 x fl) (off : Is7 x ff) {p g : Int} {F : Nat → Int} {A B : UV} (hl : fl + 2 < a ∧ ff + 1 < a) (hZ : CZ Z a fl ff p g F) (hA : RP p g A) (hB : RP p g B) (hPA : PrA Z b p A.1 A.2) (hPB : PrA Z c p B.1 B.2) (hw : -10000 ≤ w ∧ w ≤ 10000) (hb2 : a + 50 ≤ b) (hc2 : a + 50 ≤ c) (h : ∀ Z' : Zt, Oth Z Z' (fun q => a + 6 < q ∧ q ≤ a + 49) → Q (some (i_ (logF p F g A B (Int.toNat w) 0 czero))) x Z') : V mX0_logOf k n 0 [some (r_ a), some (r_ b), some (r_ c), some (i_ w), none] [] x Z Q := by
  by_cases c0 : 0 ≤ w
  · exact sp_X0_logOf ⟨r1, r2, o, ofl, off, hl.1, hl.2⟩ ob oc hZ hA hB hPA hPB ⟨c0, hw.2⟩ hb2 hc2 h
  · refine b_X0_logOf_0 o ⟨p, hZ.1.1.rg, fun Z1 hh => b_X0_logOf_10 r1 r2 o oc ob ofl off ⟨⟨by decide, by decide⟩, ⟨by omega, by omega⟩, fun _ => ?_, fun c1 => by omega⟩⟩
    have := h Z1 (fun q hq => hh.2 q (fun e => hq (by have h1 := e.1; have h2 := e.2; constructor <;> omega)))
    rw [show w.toNat = 0 by omega] at this
    exact this
/-- the curve of a row, its points -/
def Td.p (T : Td) (c : Nat) : Int := T.rw c 0
def Td.F (T : Td) (c : Nat) : Nat → Int := crvF (T.rw c)
def Td.L (T : Td) (c : Nat) : List (Int × Int) := pall (T.p c) (T.F c)
theorem OI.cv {x : Wx} {Z : Zt} {a : Nat} {S : Ab} (h : OI x Z a S) {c : Nat} (hc : Z a 14 = (c : Int)) : (c : Int) < S.nw.ct 0 ∧ CrvR (S.nw.rw c) ∧ IsP (S.nw.p c) ∧ CvA Z (a + 40) (S.nw.p c) (S.nw.F c) ∧ CX x (a + 229) (a + 41) (a + 44) ∧ CZ Z (a + 229) (a + 41) (a + 44) (S.nw.p c) (gen (S.nw.F c)) (S.nw.F c) := by
  obtain ⟨h1, h2, h3, σ, h4, h5⟩ := h.crv hc
  obtain ⟨g1, g2, g3, g4, g5, g6, g7⟩ := h5
  have o := h.1
  have o0 : Is0 x (a + 229) := o.2.2.2.2.2.2.2.2.2.2.2.2.2.2.2.2.2.2.2.2.2.2.2.2.1
  have o2 : Is2 x (a + 40) := o.2.2.2.2.2.2.2.2.2.2.2.2.2.2.2.2.1
  exact ⟨h1, h2, h3, g2, ⟨g3, g4, o0, o2.2.2.1, o2.2.2.2.2.1, by omega, by omega⟩, (crvR_pd h2).1, g2.2.1, g2.1, g5⟩
theorem dX11_isFitting_0 : decode cX11_isFitting 0 = .ok (.aload_n 0, 1) := by decide +kernel
theorem dX11_isFitting_1 : decode cX11_isFitting 1 = .ok (.getfield 10, 3) := by decide +kernel
theorem dX11_isFitting_4 : decode cX11_isFitting 4 = .ok (.iconst 1, 1) := by decide +kernel
theorem dX11_isFitting_5 : decode cX11_isFitting 5 = .ok (.iload_n 2, 1) := by decide +kernel
theorem dX11_isFitting_6 : decode cX11_isFitting 6 = .ok (.invokevirtual 129, 3) := by decide +kernel
theorem dX11_isFitting_9 : decode cX11_isFitting 9 = .ok (.astore_n 3, 1) := by decide +kernel
theorem dX11_isFitting_10 : decode cX11_isFitting 10 = .ok (.aload_n 3, 1) := by decide +kernel
theorem dX11_isFitting_11 : decode cX11_isFitting 11 = .ok (.ifnull 26, 3) := by decide +kernel
theorem dX11_isFitting_14 : decode cX11_isFitting 14 = .ok (.aload_n 0, 1) := by decide +kernel
theorem dX11_isFitting_15 : decode cX11_isFitting 15 = .ok (.iload_n 1, 1) := by decide +kernel
theorem dX11_isFitting_16 : decode cX11_isFitting 16 = .ok (.invokevirtual 152, 3) := by decide +kernel
theorem dX11_isFitting_19 : decode cX11_isFitting 19 = .ok (.ifCond .eq 18, 3) := by decide +kernel
theorem dX11_isFitting_22 : decode cX11_isFitting 22 = .ok (.aload_n 0, 1) := by decide +kernel
theorem dX11_isFitting_23 : decode cX11_isFitting 23 = .ok (.getfield 60, 3) := by decide +kernel
theorem dX11_isFitting_26 : decode cX11_isFitting 26 = .ok (.aload_n 3, 1) := by decide +kernel
theorem dX11_isFitting_27 : decode cX11_isFitting 27 = .ok (.invokevirtual 388, 3) := by decide +kernel
theorem dX11_isFitting_30 : decode cX11_isFitting 30 = .ok (.ifCond .eq 7, 3) := by decide +kernel
theorem dX11_isFitting_33 : decode cX11_isFitting 33 = .ok (.iconst 1, 1) := by decide +kernel
theorem dX11_isFitting_34 : decode cX11_isFitting 34 = .ok (.goto 4, 3) := by decide +kernel
theorem dX11_isFitting_37 : decode cX11_isFitting 37 = .ok (.iconst 0, 1) := by decide +kernel
theorem dX11_isFitting_38 : decode cX11_isFitting 38 = .ok (.ireturn, 1) := by decide +kernel
set_option maxRecDepth 20000 in
theorem b_X11_isFitting_0 {k n : Nat} {x : Wx} {Z : Zt} {Q : Option Value → Wx → Zt → Prop} {a0 : Nat} {v1 : Int} {v2 : Int} (o_a0 : Is11 x a0)
    (h : KS x ∧ KW x Z ∧ (0 ≤ (1 : Int) ∧ (1 : Int) < 3) ∧ Rg v2 ∧ (0 ≤ Z ((a0 + 1) + 2) (Int.toNat (1 : Int)) ∧ Z ((a0 + 1) + 2) (Int.toNat (1 : Int)) ≤ mstr (1 : Int)) ∧ (((rowQ (a0 + 1) (1 : Int) v2 (Z ((a0 + 1) + 2) (Int.toNat (1 : Int))) = none → (V mX11_isFitting k n 37 [none, none, none, none] [] x Z Q)) ∧ (∀ b1, rowQ (a0 + 1) (1 : Int) v2 (Z ((a0 + 1) + 2) (Int.toNat (1 : Int))) = some b1 → (x.1 b1 = some (100, 26) ∧ (∃ g1 : Ab, (OI x Z a0 g1 ∧ Rg v1 ∧ (∀ (x'1 : Wx) (Z'1 : Zt) (r'1 : Int), (OI x'1 Z'1 a0 g1 ∧ Fx a0 x x'1 Z Z'1 ∧ r'1 = bI (decide (0 ≤ v1 ∧ v1 < g1.nw.ct 0)) ∧ ((0 ≤ v1 ∧ v1 < g1.nw.ct 0) → Z'1 a0 14 = v1)) → (Is11 x'1 a0 ∧ x'1.1 b1 = some (100, 26) ∧ (Rg r'1 ∧ (((r'1 = 0) → (V mX11_isFitting k n 37 [none, none, none, none] [] x'1 Z'1 Q)) ∧ ((r'1 ≠ 0) → (∃ g2 : List (Int × Int), (PtA Z'1 (a0 + 40) g2 ∧ PtR g2 ∧ (0 ≤ Z'1 b1 0 ∧ Z'1 b1 0 ≤ 8) ∧ (∀ i : Nat, i < 26 → Rg (Z'1 b1 i)) ∧ (Rg (bI (carr g2 (Z'1 b1))) ∧ (((bI (carr g2 (Z'1 b1)) = 0) → (V mX11_isFitting k n 37 [none, none, none, none] [] x'1 Z'1 Q)) ∧ ((bI (carr g2 (Z'1 b1)) ≠ 0) → (Q (some (i_ 1)) x'1 Z'1)))))))))))))))))) :
    V mX11_isFitting k n 0 [some (r_ a0), some (i_ v1), some (i_ v2), none] [] x Z Q :=
  V_aload_n dX11_isFitting_0 rfl (G_11_0 o_a0.1 o_a0.qR0 lf_11_10 dX11_isFitting_1 (V_iconst dX11_isFitting_4 (V_iload_n dX11_isFitting_5 rfl (V_callV (k' := 0) (n' := 0) (t := 10) (q := (RX10, TX10, 6)) [i_ 1, i_ v2] [] okX10_row o_a0.qK0.1 rfl rfl lm_11_129 liX10_row lqX10_row (Nat.le_of_ble_eq_true rfl) (Nat.le_of_ble_eq_true rfl) (Nat.le_of_ble_eq_true rfl) (cat_of rfl) (Nat.le_of_ble_eq_true rfl) (Nat.zero_le _) (Nat.zero_le _) rfl dX11_isFitting_6 (sp_X10_row2 o_a0.qK0 h.1 h.2.1 h.2.2.1 h.2.2.2.1 h.2.2.2.2.1 (V_q (fun c1 => V_astoreq_n (r := none) (lv' := [some (r_ a0), some (i_ v1), some (i_ v2), some (Value.null)]) dX11_isFitting_9 (Nat.le_of_ble_eq_true rfl) rfl (V_aloadq_n (r := none) dX11_isFitting_10 rfl (V_ifnull_n (tgt := 37) dX11_isFitting_11 rfl (V_msk [false, false, false, false] rfl (h.2.2.2.2.2.1 c1))))) (fun b1 c2 => have s1 := (h.2.2.2.2.2.2 b1 c2).1; V_astore_n (lv' := [some (r_ a0), some (i_ v1), some (i_ v2), some (r_ b1)]) dX11_isFitting_9 (Nat.le_of_ble_eq_true rfl) rfl (V_aload_n dX11_isFitting_10 rfl (V_ifnull_r dX11_isFitting_11 (V_aload_n dX11_isFitting_14 rfl (V_iload_n dX11_isFitting_15 rfl (Exists.elim (h.2.2.2.2.2.2 b1 c2).2 (fun g1 w1 => V_callV (k' := 0) (n' := 0) (t := 11) (q := (RX11, TX11, 17)) [i_ v1] [] okX11_isReady o_a0.1 rfl rfl lm_11_152 liX11_isReady lqX11_isReady (Nat.le_of_ble_eq_true rfl) (Nat.le_of_ble_eq_true rfl) (Nat.le_of_ble_eq_true rfl) (cat_of rfl) (Nat.le_of_ble_eq_true rfl) (Nat.zero_le _) (Nat.zero_le _) rfl dX11_isFitting_16 (sp_X11_isReady o_a0 w1.1 w1.2.1 (fun x'1 Z'1 r'1 p1 => V_if_eq (tgt := 37) dX11_isFitting_19 rfl (w1.2.2 x'1 Z'1 r'1 p1).2.2.1 (fun c3 => V_msk [false, false, false, false] rfl ((w1.2.2 x'1 Z'1 r'1 p1).2.2.2.1 c3)) (fun c3 => V_aload_n dX11_isFitting_22 rfl (G_11_7 (w1.2.2 x'1 Z'1 r'1 p1).1.1 (w1.2.2 x'1 Z'1 r'1 p1).1.qR7 lf_11_60 dX11_isFitting_23 (V_aload_n dX11_isFitting_26 rfl (Exists.elim ((w1.2.2 x'1 Z'1 r'1 p1).2.2.2.2 c3) (fun g2 w2 => V_callV (k' := 0) (n' := 0) (t := 2) (q := (RX2, TX2, 17)) [r_ b1] [] okX2_carries (w1.2.2 x'1 Z'1 r'1 p1).1.qK7.1 rfl rfl lm_11_388 liX2_carries lqX2_carries (Nat.le_of_ble_eq_true rfl) (Nat.le_of_ble_eq_true rfl) (Nat.le_of_ble_eq_true rfl) (cat_of rfl) (Nat.le_of_ble_eq_true rfl) (Nat.zero_le _) (Nat.zero_le _) rfl dX11_isFitting_27 (sp_X2_carries (w1.2.2 x'1 Z'1 r'1 p1).1.qK7 (w1.2.2 x'1 Z'1 r'1 p1).2.1 w2.1 w2.2.1 w2.2.2.1 w2.2.2.2.1 (V_if_eq (tgt := 37) dX11_isFitting_30 rfl w2.2.2.2.2.1 (fun c4 => V_msk [false, false, false, false] rfl (w2.2.2.2.2.2.1 c4)) (fun c4 => V_iconst dX11_isFitting_33 (V_goto (tgt := 38) dX11_isFitting_34 rfl (V_iret (ty := .boolean) dX11_isFitting_38 rfl rfl (w2.2.2.2.2.2.2 c4))))))))))))))))))))))))))
set_option maxRecDepth 20000 in
theorem b_X11_isFitting_37 {k n : Nat} {x : Wx} {Z : Zt} {Q : Option Value → Wx → Zt → Prop}  
    (h : Q (some (i_ 0)) x Z) :
    V mX11_isFitting k n 37 [none, none, none, none] [] x Z Q :=
  V_iconst dX11_isFitting_37 (V_iret (ty := .boolean) dX11_isFitting_38 rfl rfl h)
def fitB (T : Td) (c s : Int) : Bool := decide ((0 ≤ c ∧ c < T.ct 0) ∧ (0 ≤ s ∧ s < T.ct 1)) && carr (T.L c.toNat) (T.rw (2 + s.toNat))
theorem fitB_t {T : Td} {c s : Int} (h : fitB T c s = true) : (0 ≤ c ∧ c < T.ct 0) ∧ (0 ≤ s ∧ s < T.ct 1) ∧ carr (T.L c.toNat) (T.rw (2 + s.toNat)) = true := by
  unfold fitB at h
  rw [Bool.and_eq_true, decide_eq_true_eq] at h
  exact ⟨h.1.1, h.1.2, h.2⟩
theorem sp_X11_isFitting {k n : Nat} {x : Wx} {Z : Zt} {Q : Option Value → Wx → Zt → Prop} {a : Nat} {v s : Int} (o : Is11 x a) {S : Ab} (hI : OI x Z a S) (hv : Rg v) (hs : Rg s) (h : ∀ (x' : Wx) (Z' : Zt) (r : Int), (OI x' Z' a S ∧ Fx a x x' Z Z' ∧ r = bI (fitB S.nw v s) ∧ (fitB S.nw v s = true → Z' a 14 = v)) → Q (some (i_ r)) x' Z') : V mX11_isFitting k n 0 [some (r_ a), some (i_ v), some (i_ s), none] [] x Z Q := by
  obtain ⟨_, hk, hr, ht, hi, hV, _⟩ := id hI
  have hct := hI.ct
  have hcr := hV.1.2.2.2.2.2.1
  have no : ∀ (x' : Wx) (Z' : Zt), OI x' Z' a S → Fx a x x' Z Z' → fitB S.nw v s = false → V mX11_isFitting k n 37 [none, none, none, none] [] x' Z' Q := fun x' Z' h1 h2 h3 => b_X11_isFitting_37 (h x' Z' 0 ⟨h1, h2, by rw [h3]; rfl, fun hh => by rw [h3] at hh; cases hh⟩)
  refine b_X11_isFitting_0 o ?_
  rw [show Z (a + 1 + 2) (Int.toNat (1 : Int)) = S.nw.ct 1 from hct.2.1]
  refine ⟨hk.1, hk.2.1, by decide, hs, ⟨by omega, by show S.nw.ct 1 ≤ 3; omega⟩, fun hn => ?_, fun b hb => ?_⟩
  · have hn' := rqn hn
    refine no x Z hI Fx.rf ?_
    unfold fitB
    rw [decide_eq_false (fun e => hn' e.2)]; rfl
  · obtain ⟨hc1, hb1⟩ := rqs hb
    obtain ⟨t, ht'⟩ : ∃ t : Nat, s = (t : Int) := ⟨s.toNat, by omega⟩
    have hbe : b = a + 1 + 4 + (2 + t) := by rw [hb1, ht']; show a + 1 + 4 + (2 + (t : Int)).toNat = _; omega
    have hrow := hI.row (r := 2 + t) (by omega)
    rw [hbe]
    refine ⟨hrow.1, S, hI, hv, fun x1 Z1 r1 hq => ⟨hq.1.1, by rw [hq.2.1.1]; exact hrow.1, ?_, fun c3 => no x1 Z1 hq.1 hq.2.1 ?_, fun c3 => ?_⟩⟩
    · rw [hq.2.2.1]; exact bI_rg _
    · have := bI_0 (hq.2.2.1 ▸ c3)
      rw [decide_eq_false_iff_not] at this
      unfold fitB
      rw [decide_eq_false (fun e => this e.1)]; rfl
    · have hc2 := bI_1 (hq.2.2.1 ▸ c3)
      rw [decide_eq_true_eq] at hc2
      obtain ⟨c, hcv⟩ : ∃ c : Nat, v = (c : Int) := ⟨v.toNat, by omega⟩
      have h14 : Z1 a 14 = (c : Int) := by rw [hq.2.2.2 hc2, hcv]
      obtain ⟨g1, g2, g3, g4, g5, g6⟩ := hq.1.cv h14
      have hrow1 := (hq.1.row (r := 2 + t) (by omega)).2
      have hsr := hV.1.2.2.2.2.2.2.2.2.1 t (by omega)
      rw [hrow1]
      have hfit : fitB S.nw v s = carr (S.nw.L c) (S.nw.rw (2 + t)) := by
        unfold fitB
        rw [decide_eq_true ⟨hc2, hc1⟩, hcv, ht']; rfl
      refine ⟨S.nw.L c, g4.2.2.1, pall_rg g3 _, hsr.1.1, hsr.2, bI_rg _, fun c4 => no x1 Z1 hq.1 hq.2.1 ?_, fun c4 => h x1 Z1 1 ⟨hq.1, hq.2.1, ?_, fun _ => by rw [h14, hcv]⟩⟩
      · rw [hfit]; exact bI_0 c4
      · rw [hfit, bI_1 c4]; rfl
