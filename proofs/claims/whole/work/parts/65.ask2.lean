theorem dX11_isMeasured_0 : decode cX11_isMeasured 0 = .ok (.aload_n 0, 1) := by decide +kernel
theorem dX11_isMeasured_1 : decode cX11_isMeasured 1 = .ok (.getfield 10, 3) := by decide +kernel
theorem dX11_isMeasured_4 : decode cX11_isMeasured 4 = .ok (.iconst 2, 1) := by decide +kernel
theorem dX11_isMeasured_5 : decode cX11_isMeasured 5 = .ok (.iload_n 2, 1) := by decide +kernel
theorem dX11_isMeasured_6 : decode cX11_isMeasured 6 = .ok (.invokevirtual 129, 3) := by decide +kernel
theorem dX11_isMeasured_9 : decode cX11_isMeasured 9 = .ok (.astore_n 3, 1) := by decide +kernel
theorem dX11_isMeasured_10 : decode cX11_isMeasured 10 = .ok (.aload_n 3, 1) := by decide +kernel
theorem dX11_isMeasured_11 : decode cX11_isMeasured 11 = .ok (.ifnull 11, 3) := by decide +kernel
theorem dX11_isMeasured_14 : decode cX11_isMeasured 14 = .ok (.aload_n 0, 1) := by decide +kernel
theorem dX11_isMeasured_15 : decode cX11_isMeasured 15 = .ok (.iload_n 1, 1) := by decide +kernel
theorem dX11_isMeasured_16 : decode cX11_isMeasured 16 = .ok (.invokevirtual 152, 3) := by decide +kernel
theorem dX11_isMeasured_19 : decode cX11_isMeasured 19 = .ok (.ifCond .ne 5, 3) := by decide +kernel
theorem dX11_isMeasured_22 : decode cX11_isMeasured 22 = .ok (.iconst 0, 1) := by decide +kernel
theorem dX11_isMeasured_23 : decode cX11_isMeasured 23 = .ok (.ireturn, 1) := by decide +kernel
theorem dX11_isMeasured_24 : decode cX11_isMeasured 24 = .ok (.aload_n 0, 1) := by decide +kernel
theorem dX11_isMeasured_25 : decode cX11_isMeasured 25 = .ok (.getfield 67, 3) := by decide +kernel
theorem dX11_isMeasured_28 : decode cX11_isMeasured 28 = .ok (.aload_n 0, 1) := by decide +kernel
theorem dX11_isMeasured_29 : decode cX11_isMeasured 29 = .ok (.getfield 60, 3) := by decide +kernel
theorem dX11_isMeasured_32 : decode cX11_isMeasured 32 = .ok (.aload_n 3, 1) := by decide +kernel
theorem dX11_isMeasured_33 : decode cX11_isMeasured 33 = .ok (.invokevirtual 385, 3) := by decide +kernel
theorem dX11_isMeasured_36 : decode cX11_isMeasured 36 = .ok (.aload_n 0, 1) := by decide +kernel
theorem dX11_isMeasured_37 : decode cX11_isMeasured 37 = .ok (.getfield 67, 3) := by decide +kernel
theorem dX11_isMeasured_40 : decode cX11_isMeasured 40 = .ok (.getfield 217, 3) := by decide +kernel
theorem dX11_isMeasured_43 : decode cX11_isMeasured 43 = .ok (.getfield 165, 3) := by decide +kernel
theorem dX11_isMeasured_46 : decode cX11_isMeasured 46 = .ok (.ifCond .lt 7, 3) := by decide +kernel
theorem dX11_isMeasured_49 : decode cX11_isMeasured 49 = .ok (.iconst 1, 1) := by decide +kernel
theorem dX11_isMeasured_50 : decode cX11_isMeasured 50 = .ok (.goto 4, 3) := by decide +kernel
theorem dX11_isMeasured_53 : decode cX11_isMeasured 53 = .ok (.iconst 0, 1) := by decide +kernel
theorem dX11_isMeasured_54 : decode cX11_isMeasured 54 = .ok (.ireturn, 1) := by decide +kernel
set_option maxRecDepth 20000 in
theorem b_X11_isMeasured_0 {k n : Nat} {x : Wx} {Z : Zt} {Q : Option Value → Wx → Zt → Prop} {a0 : Nat} {v1 : Int} {v2 : Int} (o_a0 : Is11 x a0)
    (h : KS x ∧ KW x Z ∧ (0 ≤ (2 : Int) ∧ (2 : Int) < 3) ∧ Rg v2 ∧ (0 ≤ Z ((a0 + 1) + 2) (Int.toNat (2 : Int)) ∧ Z ((a0 + 1) + 2) (Int.toNat (2 : Int)) ≤ mstr (2 : Int)) ∧ (((rowQ (a0 + 1) (2 : Int) v2 (Z ((a0 + 1) + 2) (Int.toNat (2 : Int))) = none → (V mX11_isMeasured k n 22 [none, none, none, none] [] x Z Q)) ∧ (∀ b1, rowQ (a0 + 1) (2 : Int) v2 (Z ((a0 + 1) + 2) (Int.toNat (2 : Int))) = some b1 → (x.1 b1 = some (100, 26) ∧ (∃ g1 : Ab, (OI x Z a0 g1 ∧ Rg v1 ∧ (∀ (x'1 : Wx) (Z'1 : Zt) (r'1 : Int), (OI x'1 Z'1 a0 g1 ∧ Fx a0 x x'1 Z Z'1 ∧ r'1 = bI (decide (0 ≤ v1 ∧ v1 < g1.nw.ct 0)) ∧ ((0 ≤ v1 ∧ v1 < g1.nw.ct 0) → Z'1 a0 14 = v1)) → (Is11 x'1 a0 ∧ x'1.1 b1 = some (100, 26) ∧ (Rg r'1 ∧ (((r'1 ≠ 0) → (∃ g2 : Int, (∃ g3 : Nat → Int, (IsP g2 ∧ FA Z'1 ((a0 + 40) + 1) g2 ∧ PA Z'1 ((a0 + 40) + 4) g2 g3 ∧ dg g3 10 ≤ 5 ∧ (∀ i : Nat, i < 26 → Rg (Z'1 b1 i)) ∧ (b1 < (a0 + 56) ∨ (a0 + 56) + 12 ≤ b1) ∧ ((a0 + 40) + 16 ≤ (a0 + 56) ∨ (a0 + 56) + 12 ≤ (a0 + 40)) ∧ (∀ (Z'2 : Zt), (MsA Z'2 (a0 + 56) g2 g3 (fnA g2 (Z'1 b1)) (fnB g2 (Z'1 b1)) ∧ Oth Z'1 Z'2 (fun b => (a0 + 56) ≤ b ∧ b < (a0 + 56) + 12)) → (Rg (Z'2 (a0 + 57) 0) ∧ (((Z'2 (a0 + 57) 0 < 0) → (Q (some (i_ 0)) x'1 Z'2)) ∧ ((0 ≤ Z'2 (a0 + 57) 0) → (Q (some (i_ 1)) x'1 Z'2))))))))) ∧ ((r'1 = 0) → (V mX11_isMeasured k n 22 [none, none, none, none] [] x'1 Z'1 Q))))))))))))) :
    V mX11_isMeasured k n 0 [some (r_ a0), some (i_ v1), some (i_ v2), none] [] x Z Q :=
  V_aload_n dX11_isMeasured_0 rfl (G_11_0 o_a0.1 o_a0.qR0 lf_11_10 dX11_isMeasured_1 (V_iconst dX11_isMeasured_4 (V_iload_n dX11_isMeasured_5 rfl (V_callV (k' := 0) (n' := 0) (t := 10) (q := (RX10, TX10, 6)) [i_ 2, i_ v2] [] okX10_row o_a0.qK0.1 rfl rfl lm_11_129 liX10_row lqX10_row (Nat.le_of_ble_eq_true rfl) (Nat.le_of_ble_eq_true rfl) (Nat.le_of_ble_eq_true rfl) (cat_of rfl) (Nat.le_of_ble_eq_true rfl) (Nat.zero_le _) (Nat.zero_le _) rfl dX11_isMeasured_6 (sp_X10_row2 o_a0.qK0 h.1 h.2.1 h.2.2.1 h.2.2.2.1 h.2.2.2.2.1 (V_q (fun c1 => V_astoreq_n (r := none) (lv' := [some (r_ a0), some (i_ v1), some (i_ v2), some (Value.null)]) dX11_isMeasured_9 (Nat.le_of_ble_eq_true rfl) rfl (V_aloadq_n (r := none) dX11_isMeasured_10 rfl (V_ifnull_n (tgt := 22) dX11_isMeasured_11 rfl (V_msk [false, false, false, false] rfl (h.2.2.2.2.2.1 c1))))) (fun b1 c2 => have s1 := (h.2.2.2.2.2.2 b1 c2).1; V_astore_n (lv' := [some (r_ a0), some (i_ v1), some (i_ v2), some (r_ b1)]) dX11_isMeasured_9 (Nat.le_of_ble_eq_true rfl) rfl (V_aload_n dX11_isMeasured_10 rfl (V_ifnull_r dX11_isMeasured_11 (V_aload_n dX11_isMeasured_14 rfl (V_iload_n dX11_isMeasured_15 rfl (Exists.elim (h.2.2.2.2.2.2 b1 c2).2 (fun g1 w1 => V_callV (k' := 0) (n' := 0) (t := 11) (q := (RX11, TX11, 17)) [i_ v1] [] okX11_isReady o_a0.1 rfl rfl lm_11_152 liX11_isReady lqX11_isReady (Nat.le_of_ble_eq_true rfl) (Nat.le_of_ble_eq_true rfl) (Nat.le_of_ble_eq_true rfl) (cat_of rfl) (Nat.le_of_ble_eq_true rfl) (Nat.zero_le _) (Nat.zero_le _) rfl dX11_isMeasured_16 (sp_X11_isReady o_a0 w1.1 w1.2.1 (fun x'1 Z'1 r'1 p1 => V_if_ne (tgt := 24) dX11_isMeasured_19 rfl (w1.2.2 x'1 Z'1 r'1 p1).2.2.1 (fun c3 => V_aload_n dX11_isMeasured_24 rfl (G_11_8 (w1.2.2 x'1 Z'1 r'1 p1).1.1 (w1.2.2 x'1 Z'1 r'1 p1).1.qR8 lf_11_67 dX11_isMeasured_25 (V_aload_n dX11_isMeasured_28 rfl (G_11_7 (w1.2.2 x'1 Z'1 r'1 p1).1.1 (w1.2.2 x'1 Z'1 r'1 p1).1.qR7 lf_11_60 dX11_isMeasured_29 (V_aload_n dX11_isMeasured_32 rfl (Exists.elim ((w1.2.2 x'1 Z'1 r'1 p1).2.2.2.1 c3) (fun g2 w2 => Exists.elim w2 (fun g3 w3 => V_callV (k' := 0) (n' := 0) (t := 5) (q := (RX5, TX5, 6)) [r_ (a0 + 40), r_ b1] [] okX5_load (w1.2.2 x'1 Z'1 r'1 p1).1.qK8.1 rfl rfl lm_11_385 liX5_load lqX5_load (Nat.le_of_ble_eq_true rfl) (Nat.le_of_ble_eq_true rfl) (Nat.le_of_ble_eq_true rfl) (cat_of rfl) (Nat.le_of_ble_eq_true rfl) (Nat.zero_le _) (Nat.zero_le _) rfl dX11_isMeasured_33 (sp_X5_load (w1.2.2 x'1 Z'1 r'1 p1).1.qK8 (w1.2.2 x'1 Z'1 r'1 p1).1.qK7 (w1.2.2 x'1 Z'1 r'1 p1).2.1 w3.1 w3.2.1 w3.2.2.1 w3.2.2.2.1 w3.2.2.2.2.1 w3.2.2.2.2.2.1 w3.2.2.2.2.2.2.1 (fun Z'2 p2 => V_aload_n dX11_isMeasured_36 rfl (G_11_8 (w1.2.2 x'1 Z'1 r'1 p1).1.1 (w1.2.2 x'1 Z'1 r'1 p1).1.qR8 lf_11_67 dX11_isMeasured_37 (G_5_0 (w1.2.2 x'1 Z'1 r'1 p1).1.qK8.1 (w1.2.2 x'1 Z'1 r'1 p1).1.qK8.2.1 lf_11_217 dX11_isMeasured_40 (G_7_0 (w1.2.2 x'1 Z'1 r'1 p1).1.qK8.2.2.1.1 lf_11_165 dX11_isMeasured_43 (V_if_lt (tgt := 53) dX11_isMeasured_46 rfl (w3.2.2.2.2.2.2.2 Z'2 p2).1 (fun c4 => V_iconst dX11_isMeasured_53 (V_iret (ty := .boolean) dX11_isMeasured_54 rfl rfl ((w3.2.2.2.2.2.2.2 Z'2 p2).2.1 c4))) (fun c4 => V_iconst dX11_isMeasured_49 (V_goto (tgt := 54) dX11_isMeasured_50 rfl (V_iret (ty := .boolean) dX11_isMeasured_54 rfl rfl ((w3.2.2.2.2.2.2.2 Z'2 p2).2.2 c4)))))))))))))))))) (fun c3 => V_msk [false, false, false, false] rfl ((w1.2.2 x'1 Z'1 r'1 p1).2.2.2.2 c3)))))))))))))))))
set_option maxRecDepth 20000 in
theorem b_X11_isMeasured_22 {k n : Nat} {x : Wx} {Z : Zt} {Q : Option Value → Wx → Zt → Prop}  
    (h : Q (some (i_ 0)) x Z) :
    V mX11_isMeasured k n 22 [none, none, none, none] [] x Z Q :=
  V_iconst dX11_isMeasured_22 (V_iret (ty := .boolean) dX11_isMeasured_23 rfl rfl h)
def Td.A (T : Td) (c f : Nat) : Nat → Int := fnA (T.p c) (T.rw (5 + f))
def Td.B (T : Td) (c f : Nat) : Nat → Int := fnB (T.p c) (T.rw (5 + f))
def Td.N (T : Td) (c f : Nat) : Nat → Int := nrm (T.p c) (T.F c) (T.A c f) (T.B c f)
def mesB (T : Td) (c f : Int) : Bool := decide (((0 ≤ c ∧ c < T.ct 0) ∧ (0 ≤ f ∧ f < T.ct 2)) ∧ 0 ≤ pd (T.N c.toNat f.toNat))
theorem sp_X11_isMeasured {k n : Nat} {x : Wx} {Z : Zt} {Q : Option Value → Wx → Zt → Prop} {a : Nat} {v f : Int} (o : Is11 x a) {S : Ab} (hI : OI x Z a S) (hv : Rg v) (hf : Rg f) (h : ∀ (x' : Wx) (Z' : Zt) (r : Int), (OI x' Z' a S ∧ Fx a x x' Z Z' ∧ r = bI (mesB S.nw v f) ∧ (mesB S.nw v f = true → Z' a 14 = v ∧ MsA Z' (a + 56) (S.nw.p (Int.toNat v)) (S.nw.F (Int.toNat v)) (S.nw.A (Int.toNat v) (Int.toNat f)) (S.nw.B (Int.toNat v) (Int.toNat f)))) → Q (some (i_ r)) x' Z') : V mX11_isMeasured k n 0 [some (r_ a), some (i_ v), some (i_ f), none] [] x Z Q := by
  obtain ⟨_, hk, hr, ht, hi, hV, _⟩ := id hI
  have hct := hI.ct
  have hcr := hV.1.2.2.2.2.2.2.1
  have no : ∀ (x' : Wx) (Z' : Zt), OI x' Z' a S → Fx a x x' Z Z' → mesB S.nw v f = false → V mX11_isMeasured k n 22 [none, none, none, none] [] x' Z' Q := fun x' Z' h1 h2 h3 => b_X11_isMeasured_22 (h x' Z' 0 ⟨h1, h2, by rw [h3]; rfl, fun hh => by rw [h3] at hh; cases hh⟩)
  refine b_X11_isMeasured_0 o ?_
  rw [show Z (a + 1 + 2) (Int.toNat (2 : Int)) = S.nw.ct 2 from hct.2.2]
  refine ⟨hk.1, hk.2.1, by decide, hf, ⟨by omega, by show S.nw.ct 2 ≤ 3; omega⟩, fun hn => ?_, fun b hb => ?_⟩
  · exact no x Z hI Fx.rf (decide_eq_false (fun e => rqn hn e.1.2))
  · obtain ⟨hc1, hb1⟩ := rqs hb
    obtain ⟨t, ht'⟩ : ∃ t : Nat, f = (t : Int) := ⟨f.toNat, by omega⟩
    have hbe : b = a + 1 + 4 + (5 + t) := by rw [hb1, ht']; show a + 1 + 4 + (5 + (t : Int)).toNat = _; omega
    have hrow := hI.row (r := 5 + t) (by omega)
    rw [hbe]
    refine ⟨hrow.1, S, hI, hv, fun x1 Z1 r1 hq => ?_⟩
    obtain ⟨q1, q2, q3, q4⟩ := hq
    subst q3
    refine ⟨q1.1, by rw [q2.1]; exact hrow.1, bI_rg _, fun c1 => ?_, fun c1 => no x1 Z1 q1 q2 (decide_eq_false (fun e => of_decide_eq_false (bI_0 c1) e.1.1))⟩
    have hc := of_decide_eq_true (bI_1 c1)
    obtain ⟨d, hd⟩ : ∃ d : Nat, v = (d : Int) := ⟨v.toNat, by omega⟩
    have h14 : Z1 a 14 = (d : Int) := by rw [q4 hc, hd]
    obtain ⟨g1, g2, g3, g4, g5, g6⟩ := q1.cv h14
    have hfr := hV.1.2.2.2.2.2.2.2.2.2 t (by omega)
    have hpd := (crvR_pd g2).2
    have hdg := g2.2.1
    have hrow1 := (q1.row (r := 5 + t) (by omega)).2
    rw [hrow1]
    refine ⟨S.nw.p d, S.nw.F d, g3, g4.1, g4.2.1, ?_, fun i hi => ?_, Or.inl (by omega), Or.inl (by omega), fun Z2 hz2 => ?_⟩
    · rw [dg_pd (by decide) g4.2.1.2.1]
      have : pd (S.nw.F d) = S.nw.rw d 1 := hpd
      omega
    · have := hfr i hi; exact ⟨by omega, by omega⟩
    · obtain ⟨m1, m2⟩ := hz2
      have m1' : MsA Z2 (a + 56) (S.nw.p d) (S.nw.F d) (S.nw.A d t) (S.nw.B d t) := m1
      have hI2 := q1.scr (Z' := Z2) (fun b hb h1 h2 => m2 b (fun e => hb (by unfold Scr; omega))) (fun i _ => by rw [m2 _ (by omega)]) (fun i _ _ => by rw [m2 _ (by omega)])
      have e57 : Z2 (a + 57) 0 = pd (S.nw.N d t) := m1'.2.2.deg
      have hge := pd_ge (S.nw.N d t)
      have hlt := pd_lt (S.nw.N d t)
      rw [e57]
      refine ⟨⟨by omega, by omega⟩, fun c2 => h x1 Z2 0 ⟨hI2.1, q2.tr hI2.2, ?_, fun hh => ?_⟩, fun c2 => h x1 Z2 1 ⟨hI2.1, q2.tr hI2.2, ?_, fun hh => ⟨?_, ?_⟩⟩⟩
      · rw [show mesB S.nw v f = false from decide_eq_false (fun e => by rw [hd, ht', Int.toNat_natCast, Int.toNat_natCast] at e; omega)]; rfl
      · have := of_decide_eq_true hh
        rw [hd, ht', Int.toNat_natCast, Int.toNat_natCast] at this
        omega
      · rw [show mesB S.nw v f = true from decide_eq_true ⟨⟨hc, hc1⟩, by rw [hd, ht', Int.toNat_natCast, Int.toNat_natCast]; exact c2⟩]; rfl
      · rw [m2 a (by omega), h14, hd]
      · rw [hd, ht', Int.toNat_natCast, Int.toNat_natCast]; exact m1'
