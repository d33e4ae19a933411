/-! ===== Classes: two classes together (Cantor) ===== -/
abbrev UV : Type := (Nat → Int) × (Nat → Int)
def cG1 (p : Int) (a b : UV) : Nat → Int := eG p a.1 b.1
def cW (p : Int) (a b : UV) : Nat → Int := padd p a.2 b.2 1
def cG (p : Int) (a b : UV) : Nat → Int := eG p (cG1 p a b) (cW p a b)
def cS (p : Int) (a b : UV) : Nat → Int := eS p (cG1 p a b) (cW p a b)
def cT (p : Int) (a b : UV) : Nat → Int := eT p (cG1 p a b) (cW p a b)
def cN (p : Int) (F : Nat → Int) (a b : UV) : Nat → Int := padd p (pmul p a.2 b.2) F 1
def cM1 (p : Int) (a b : UV) : Nat → Int := pmul p (pmul p (pmul p (eS p a.1 b.1) (cS p a b)) a.1) b.2
def cM2 (p : Int) (a b : UV) : Nat → Int := pmul p (pmul p (pmul p (eT p a.1 b.1) (cS p a b)) b.1) a.2
def cV (p : Int) (F : Nat → Int) (a b : UV) : Nat → Int := padd p (padd p (pmul p (cN p F a b) (cT p a b)) (cM1 p a b) 1) (cM2 p a b) 1
def cU3 (p : Int) (a b : UV) : Nat → Int := dvQ p (dvQ p (pmul p a.1 b.1) (cG p a b)) (cG p a b)
def cV3 (p : Int) (F : Nat → Int) (a b : UV) : Nat → Int := dvR p (dvQ p (cV p F a b) (cG p a b)) (cU3 p a b)
/-- both together, U too long as it may be -/
def ccomp (p : Int) (F : Nat → Int) (a b : UV) : UV := (cU3 p a b, cV3 p F a b)
def rstep (p : Int) (F : Nat → Int) (a : UV) : UV := (dvQ p (padd p F (pmul p a.2 a.2) (-1)) a.1, dvR p (pscl p a.2 (-1)) (dvQ p (padd p F (pmul p a.2 a.2) (-1)) a.1))
def rdn (p : Int) (F : Nat → Int) (g : Int) : Nat → UV → UV
  | 0, a => a
  | m + 1, a => if pd a.1 ≤ g then a else rdn p F g m (rstep p F a)
def mnc (p : Int) (a : UV) : UV := (pscl p a.1 (inv p (a.1 (pd a.1).toNat)), a.2)
/-- the sum of two classes -/
def cplus (p : Int) (F : Nat → Int) (g : Int) (a b : UV) : UV := mnc p (rdn p F g 4 (ccomp p F a b))
/-- a curve's numbers -/
def CF (p g : Int) (F : Nat → Int) : Prop := IsP p ∧ InP p F ∧ Fin F ∧ pd F = 2 * g + 1 ∧ (g = 1 ∨ g = 2)
/-- a class as it is told, by its degrees -/
def RP (p g : Int) (a : UV) : Prop := (InP p a.1 ∧ Fin a.1) ∧ (InP p a.2 ∧ Fin a.2) ∧ 0 ≤ pd a.1 ∧ pd a.1 ≤ g ∧ pd a.2 < pd a.1 ∧ a.1 (pd a.1).toNat = 1
section CD
variable {p g : Int} {F : Nat → Int} {a b : UV}
theorem cG1_ok (hC : CF p g F) (ha : RP p g a) (hb : RP p g b) : (InP p (cG1 p a b) ∧ Fin (cG1 p a b)) ∧ 0 ≤ pd (cG1 p a b) ∧ pd (cG1 p a b) ≤ pd a.1 ∧ pd (cG1 p a b) ≤ pd b.1 ∧ (InP p (eS p a.1 b.1) ∧ Fin (eS p a.1 b.1) ∧ pd (eS p a.1 b.1) ≤ 3) ∧ (InP p (eT p a.1 b.1) ∧ Fin (eT p a.1 b.1) ∧ pd (eT p a.1 b.1) ≤ 3) := by
  obtain ⟨hp, -, -, -, hg⟩ := hC
  obtain ⟨⟨a1, a2⟩, -, a3, a4, -, -⟩ := ha
  obtain ⟨⟨b1, b2⟩, -, b3, b4, -, -⟩ := hb
  obtain ⟨h1, h2, h3⟩ := eG_ok hp a1 a2 b1 b2 a3 (by omega) (by omega)
  exact ⟨⟨h1.1, h1.2.1⟩, h1.2.2.1, h1.2.2.2.1, h1.2.2.2.2.1 b3, ⟨h2.1, h2.2.1, by omega⟩, ⟨h3.1, h3.2.1, by omega⟩⟩
theorem cW_ok (hC : CF p g F) (ha : RP p g a) (hb : RP p g b) : (InP p (cW p a b) ∧ Fin (cW p a b)) ∧ pd (cW p a b) ≤ 1 := by
  obtain ⟨hp, -, -, -, hg⟩ := hC
  obtain ⟨-, ⟨a1, a2⟩, a3, a4, a5, -⟩ := ha
  obtain ⟨-, ⟨b1, b2⟩, b3, b4, b5, -⟩ := hb
  have hp0 := hp.rg
  have := pd_padd (p := p) (c := 1) a2 b2
  exact ⟨⟨padd_in (by omega), padd_fin a2 b2⟩, by show pd (padd p a.2 b.2 1) ≤ 1; omega⟩
theorem cG_ok (hC : CF p g F) (ha : RP p g a) (hb : RP p g b) : (InP p (cG p a b) ∧ Fin (cG p a b)) ∧ 0 ≤ pd (cG p a b) ∧ pd (cG p a b) ≤ pd a.1 ∧ pd (cG p a b) ≤ pd b.1 ∧ (InP p (cS p a b) ∧ Fin (cS p a b) ∧ pd (cS p a b) ≤ 2) ∧ (InP p (cT p a b) ∧ Fin (cT p a b) ∧ pd (cT p a b) ≤ 3) := by
  obtain ⟨g1, g2, g3, g4, -, -⟩ := cG1_ok hC ha hb
  obtain ⟨w1, w2⟩ := cW_ok hC ha hb
  obtain ⟨hp, -, -, -, hg⟩ := hC
  have ha4 := ha.2.2.2.1
  obtain ⟨h1, h2, h3⟩ := eG_ok hp g1.1 g1.2 w1.1 w1.2 g2 (by omega) (by omega)
  have e1 : pd (cG p a b) ≤ pd (cG1 p a b) := h1.2.2.2.1
  have e2 : pd (cS p a b) ≤ max (pd (cW p a b)) (pd (cG1 p a b) - 1) + 1 := h2.2.2
  have e3 : pd (cT p a b) ≤ max (pd (cG1 p a b)) (pd (cW p a b) - 1) + 1 := h3.2.2
  exact ⟨⟨h1.1, h1.2.1⟩, h1.2.2.1, by omega, by omega, ⟨h2.1, h2.2.1, by omega⟩, ⟨h3.1, h3.2.1, by omega⟩⟩
theorem cN_ok (hC : CF p g F) (ha : RP p g a) (hb : RP p g b) : Fin (cN p F a b) ∧ pd (cN p F a b) ≤ 5 ∧ pd a.2 + pd b.2 ≤ 9 := by
  obtain ⟨hp, h1, h2, h3, hg⟩ := hC
  obtain ⟨-, ⟨a1, a2⟩, a3, a4, a5, -⟩ := ha
  obtain ⟨-, ⟨b1, b2⟩, b3, b4, b5, -⟩ := hb
  have m := pd_pmul (p := p) a2 b2
  have mf : Fin (pmul p a.2 b.2) := pmul_fin a2 b2 (by omega)
  have q := pd_padd (p := p) (c := 1) mf h2
  exact ⟨padd_fin mf h2, by show pd (padd p (pmul p a.2 b.2) F 1) ≤ 5; omega, by omega⟩
theorem cU3_ok (hC : CF p g F) (ha : RP p g a) (hb : RP p g b) : (InP p (cU3 p a b) ∧ Fin (cU3 p a b)) ∧ 0 ≤ pd (cU3 p a b) ∧ pd (cU3 p a b) ≤ 2 * g ∧ pd a.1 + pd b.1 ≤ 9 ∧ pd (cU3 p a b) = pd a.1 + pd b.1 - 2 * pd (cG p a b) := by
  obtain ⟨g1, g2, g3, g4, -, -⟩ := cG_ok hC ha hb
  obtain ⟨hp, h1, h2, h3, hg⟩ := hC
  obtain ⟨⟨a1, a2⟩, -, a3, a4, a5, -⟩ := ha
  obtain ⟨⟨b1, b2⟩, -, b3, b4, b5, -⟩ := hb
  have hp0 := hp.rg
  have m := pd_pmul_eq hp a2 b2 a1 b1 a3 b3 (by omega)
  have q1 := pd_dvQ_eq hp (f := pmul p a.1 b.1) (pmul_in (by omega)) g1.1 g2 (by omega)
  have q2 := pd_dvQ_eq hp (f := dvQ p (pmul p a.1 b.1) (cG p a b)) (dvQ_in (by omega)) g1.1 g2 (by omega)
  have e : pd (cU3 p a b) = pd a.1 + pd b.1 - 2 * pd (cG p a b) := by show pd (dvQ p (dvQ p (pmul p a.1 b.1) (cG p a b)) (cG p a b)) = _; omega
  exact ⟨⟨dvQ_in (by omega), dvq_fin g2⟩, by omega, by omega, by omega, e⟩
theorem cV3_ok (hC : CF p g F) (ha : RP p g a) (hb : RP p g b) : (InP p (cV3 p F a b) ∧ Fin (cV3 p F a b)) ∧ pd (cV3 p F a b) < pd (cU3 p a b) := by
  obtain ⟨u1, u2, -, -, -⟩ := cU3_ok hC ha hb
  have g2 := (cG_ok hC ha hb).2.1
  obtain ⟨hp, -⟩ := hC
  have hp0 := hp.rg
  exact ⟨⟨dvR_in (by omega) (dvQ_in (by omega)), dvr_fin (dvq_fin g2) u2⟩, pd_dvR_lt hp (dvq_fin g2) u1.1 u2⟩
end CD
theorem dX0_addShare_0 : decode cX0_addShare 0 = .ok (.aload_n 0, 1) := by decide +kernel
theorem dX0_addShare_1 : decode cX0_addShare 1 = .ok (.getfield 45, 3) := by decide +kernel
theorem dX0_addShare_4 : decode cX0_addShare 4 = .ok (.aload_n 0, 1) := by decide +kernel
theorem dX0_addShare_5 : decode cX0_addShare 5 = .ok (.getfield 12, 3) := by decide +kernel
theorem dX0_addShare_8 : decode cX0_addShare 8 = .ok (.aload_n 1, 1) := by decide +kernel
theorem dX0_addShare_9 : decode cX0_addShare 9 = .ok (.aload_n 0, 1) := by decide +kernel
theorem dX0_addShare_10 : decode cX0_addShare 10 = .ok (.getfield 32, 3) := by decide +kernel
theorem dX0_addShare_13 : decode cX0_addShare 13 = .ok (.getfield 161, 3) := by decide +kernel
theorem dX0_addShare_16 : decode cX0_addShare 16 = .ok (.invokevirtual 136, 3) := by decide +kernel
theorem dX0_addShare_19 : decode cX0_addShare 19 = .ok (.aload_n 0, 1) := by decide +kernel
theorem dX0_addShare_20 : decode cX0_addShare 20 = .ok (.getfield 48, 3) := by decide +kernel
theorem dX0_addShare_23 : decode cX0_addShare 23 = .ok (.aload_n 0, 1) := by decide +kernel
theorem dX0_addShare_24 : decode cX0_addShare 24 = .ok (.getfield 12, 3) := by decide +kernel
theorem dX0_addShare_27 : decode cX0_addShare 27 = .ok (.aload_n 0, 1) := by decide +kernel
theorem dX0_addShare_28 : decode cX0_addShare 28 = .ok (.getfield 45, 3) := by decide +kernel
theorem dX0_addShare_31 : decode cX0_addShare 31 = .ok (.aload_n 2, 1) := by decide +kernel
theorem dX0_addShare_32 : decode cX0_addShare 32 = .ok (.invokevirtual 136, 3) := by decide +kernel
theorem dX0_addShare_35 : decode cX0_addShare 35 = .ok (.aload_n 0, 1) := by decide +kernel
theorem dX0_addShare_36 : decode cX0_addShare 36 = .ok (.getfield 45, 3) := by decide +kernel
theorem dX0_addShare_39 : decode cX0_addShare 39 = .ok (.aload_n 0, 1) := by decide +kernel
theorem dX0_addShare_40 : decode cX0_addShare 40 = .ok (.getfield 12, 3) := by decide +kernel
theorem dX0_addShare_43 : decode cX0_addShare 43 = .ok (.aload_n 0, 1) := by decide +kernel
theorem dX0_addShare_44 : decode cX0_addShare 44 = .ok (.getfield 48, 3) := by decide +kernel
theorem dX0_addShare_47 : decode cX0_addShare 47 = .ok (.aload_n 3, 1) := by decide +kernel
theorem dX0_addShare_48 : decode cX0_addShare 48 = .ok (.invokevirtual 136, 3) := by decide +kernel
theorem dX0_addShare_51 : decode cX0_addShare 51 = .ok (.aload_n 0, 1) := by decide +kernel
theorem dX0_addShare_52 : decode cX0_addShare 52 = .ok (.getfield 57, 3) := by decide +kernel
theorem dX0_addShare_55 : decode cX0_addShare 55 = .ok (.getfield 111, 3) := by decide +kernel
theorem dX0_addShare_58 : decode cX0_addShare 58 = .ok (.aload_n 0, 1) := by decide +kernel
theorem dX0_addShare_59 : decode cX0_addShare 59 = .ok (.getfield 12, 3) := by decide +kernel
theorem dX0_addShare_62 : decode cX0_addShare 62 = .ok (.aload_n 0, 1) := by decide +kernel
theorem dX0_addShare_63 : decode cX0_addShare 63 = .ok (.getfield 45, 3) := by decide +kernel
theorem dX0_addShare_66 : decode cX0_addShare 66 = .ok (.iconst 1, 1) := by decide +kernel
theorem dX0_addShare_67 : decode cX0_addShare 67 = .ok (.invokevirtual 142, 3) := by decide +kernel
theorem dX0_addShare_70 : decode cX0_addShare 70 = .ok (.return_, 1) := by decide +kernel
set_option maxRecDepth 20000 in
theorem b_X0_addShare_0 {k n : Nat} {x : Wx} {Z : Zt} {Q : Option Value → Wx → Zt → Prop} {a0 : Nat} {a1 : Nat} {a2 : Nat} {a3 : Nat} {a0_field : Nat} (r_a0_field : x.2.1 a0 1 = some a0_field) (o_a0 : Is0 x a0) (o_a0_field : Is4 x a0_field) (o_a1 : Is7 x a1) (o_a2 : Is7 x a2) (o_a3 : Is7 x a3)
    (h : ∃ g1 : Int, (∃ g2 : Nat → Int, (∃ g3 : Nat → Int, ((a0 + 29) ≠ a1 ∧ (a0 + 29) ≠ (a0 + 9) ∧ PA Z a1 g1 g2 ∧ PA Z (a0 + 9) g1 g3 ∧ Z a0_field 0 = g1 ∧ (2 ≤ g1 ∧ g1 ≤ 13) ∧ dg g2 10 + dg g3 10 ≤ 9 ∧ (∀ (Z'1 : Zt), (PA Z'1 (a0 + 29) g1 (pmul g1 g2 g3) ∧ Oth Z Z'1 (At2 (a0 + 29))) → (∃ g4 : Int, (∃ g5 : Nat → Int, (∃ g6 : Nat → Int, ((a0 + 31) ≠ (a0 + 29) ∧ (a0 + 31) ≠ a2 ∧ PA Z'1 (a0 + 29) g4 g5 ∧ PA Z'1 a2 g4 g6 ∧ Z'1 a0_field 0 = g4 ∧ (2 ≤ g4 ∧ g4 ≤ 13) ∧ dg g5 10 + dg g6 10 ≤ 9 ∧ (∀ (Z'2 : Zt), (PA Z'2 (a0 + 31) g4 (pmul g4 g5 g6) ∧ Oth Z'1 Z'2 (At2 (a0 + 31))) → (∃ g7 : Int, (∃ g8 : Nat → Int, (∃ g9 : Nat → Int, ((a0 + 29) ≠ (a0 + 31) ∧ (a0 + 29) ≠ a3 ∧ PA Z'2 (a0 + 31) g7 g8 ∧ PA Z'2 a3 g7 g9 ∧ Z'2 a0_field 0 = g7 ∧ (2 ≤ g7 ∧ g7 ≤ 13) ∧ dg g8 10 + dg g9 10 ≤ 9 ∧ (∀ (Z'3 : Zt), (PA Z'3 (a0 + 29) g7 (pmul g7 g8 g9) ∧ Oth Z'2 Z'3 (At2 (a0 + 29))) → (∃ g10 : Int, (∃ g11 : Nat → Int, (∃ g12 : Nat → Int, ((a0 + 38) ≠ (a0 + 29) ∧ PA Z'3 (a0 + 38) g10 g11 ∧ PA Z'3 (a0 + 29) g10 g12 ∧ Z'3 a0_field 0 = g10 ∧ (2 ≤ g10 ∧ g10 ≤ 13) ∧ ((-1000) ≤ (1 : Int) ∧ (1 : Int) ≤ 1000) ∧ (∀ (Z'4 : Zt), (PA Z'4 (a0 + 38) g10 (padd g10 g11 g12 (1 : Int)) ∧ Oth Z'3 Z'4 (At2 (a0 + 38))) → (Q none x Z'4))))))))))))))))))))) :
    V mX0_addShare k n 0 [some (r_ a0), some (r_ a1), some (r_ a2), some (r_ a3)] [] x Z Q :=
  V_aload_n dX0_addShare_0 rfl (G_0_8 o_a0.1 o_a0.2.2.2.2.2.2.2.2.2.1 lf_0_45 dX0_addShare_1 (V_aload_n dX0_addShare_4 rfl (G_0_1 o_a0.1 r_a0_field lf_0_12 dX0_addShare_5 (V_aload_n dX0_addShare_8 rfl (V_aload_n dX0_addShare_9 rfl (G_0_4 o_a0.1 o_a0.2.1 lf_0_32 dX0_addShare_10 (G_3_1 o_a0.2.2.1.1 o_a0.2.2.1.2.2.2.1 lf_0_161 dX0_addShare_13 (Exists.elim h (fun g1 w1 => Exists.elim w1 (fun g2 w2 => Exists.elim w2 (fun g3 w3 => V_callV (k' := 0) (n' := 0) (t := 7) (q := (RX7, TX7, 2)) [r_ a0_field, r_ a1, r_ (a0 + 9)] [] okX7_product o_a0.2.2.2.2.2.2.2.2.2.2.1.1 rfl rfl lm_0_136 liX7_product lqX7_product (Nat.le_of_ble_eq_true rfl) (Nat.le_of_ble_eq_true rfl) (Nat.le_of_ble_eq_true rfl) (cat_of rfl) (Nat.le_of_ble_eq_true rfl) (Nat.zero_le _) (Nat.zero_le _) rfl dX0_addShare_16 (sp_X7_product o_a0.2.2.2.2.2.2.2.2.2.2.1 o_a0_field o_a1 o_a0.2.2.1.2.2.2.2.1 w3.1 w3.2.1 w3.2.2.1 w3.2.2.2.1 w3.2.2.2.2.1 w3.2.2.2.2.2.1 w3.2.2.2.2.2.2.1 (fun Z'1 p1 => V_aload_n dX0_addShare_19 rfl (G_0_9 o_a0.1 o_a0.2.2.2.2.2.2.2.2.2.2.2.1 lf_0_48 dX0_addShare_20 (V_aload_n dX0_addShare_23 rfl (G_0_1 o_a0.1 r_a0_field lf_0_12 dX0_addShare_24 (V_aload_n dX0_addShare_27 rfl (G_0_8 o_a0.1 o_a0.2.2.2.2.2.2.2.2.2.1 lf_0_45 dX0_addShare_28 (V_aload_n dX0_addShare_31 rfl (Exists.elim (w3.2.2.2.2.2.2.2 Z'1 p1) (fun g4 w4 => Exists.elim w4 (fun g5 w5 => Exists.elim w5 (fun g6 w6 => V_callV (k' := 0) (n' := 0) (t := 7) (q := (RX7, TX7, 2)) [r_ a0_field, r_ (a0 + 29), r_ a2] [] okX7_product o_a0.2.2.2.2.2.2.2.2.2.2.2.2.1.1 rfl rfl lm_0_136 liX7_product lqX7_product (Nat.le_of_ble_eq_true rfl) (Nat.le_of_ble_eq_true rfl) (Nat.le_of_ble_eq_true rfl) (cat_of rfl) (Nat.le_of_ble_eq_true rfl) (Nat.zero_le _) (Nat.zero_le _) rfl dX0_addShare_32 (sp_X7_product o_a0.2.2.2.2.2.2.2.2.2.2.2.2.1 o_a0_field o_a0.2.2.2.2.2.2.2.2.2.2.1 o_a2 w6.1 w6.2.1 w6.2.2.1 w6.2.2.2.1 w6.2.2.2.2.1 w6.2.2.2.2.2.1 w6.2.2.2.2.2.2.1 (fun Z'2 p2 => V_aload_n dX0_addShare_35 rfl (G_0_8 o_a0.1 o_a0.2.2.2.2.2.2.2.2.2.1 lf_0_45 dX0_addShare_36 (V_aload_n dX0_addShare_39 rfl (G_0_1 o_a0.1 r_a0_field lf_0_12 dX0_addShare_40 (V_aload_n dX0_addShare_43 rfl (G_0_9 o_a0.1 o_a0.2.2.2.2.2.2.2.2.2.2.2.1 lf_0_48 dX0_addShare_44 (V_aload_n dX0_addShare_47 rfl (Exists.elim (w6.2.2.2.2.2.2.2 Z'2 p2) (fun g7 w7 => Exists.elim w7 (fun g8 w8 => Exists.elim w8 (fun g9 w9 => V_callV (k' := 0) (n' := 0) (t := 7) (q := (RX7, TX7, 2)) [r_ a0_field, r_ (a0 + 31), r_ a3] [] okX7_product o_a0.2.2.2.2.2.2.2.2.2.2.1.1 rfl rfl lm_0_136 liX7_product lqX7_product (Nat.le_of_ble_eq_true rfl) (Nat.le_of_ble_eq_true rfl) (Nat.le_of_ble_eq_true rfl) (cat_of rfl) (Nat.le_of_ble_eq_true rfl) (Nat.zero_le _) (Nat.zero_le _) rfl dX0_addShare_48 (sp_X7_product o_a0.2.2.2.2.2.2.2.2.2.2.1 o_a0_field o_a0.2.2.2.2.2.2.2.2.2.2.2.2.1 o_a3 w9.1 w9.2.1 w9.2.2.1 w9.2.2.2.1 w9.2.2.2.2.1 w9.2.2.2.2.2.1 w9.2.2.2.2.2.2.1 (fun Z'3 p3 => V_aload_n dX0_addShare_51 rfl (G_0_11 o_a0.1 o_a0.2.2.2.2.2.2.2.2.2.2.2.2.2.2.2.1 lf_0_57 dX0_addShare_52 (G_6_1 o_a0.2.2.2.2.2.2.2.2.2.2.2.2.2.2.2.2.1.1 o_a0.2.2.2.2.2.2.2.2.2.2.2.2.2.2.2.2.1.2.2.2.1 lf_0_111 dX0_addShare_55 (V_aload_n dX0_addShare_58 rfl (G_0_1 o_a0.1 r_a0_field lf_0_12 dX0_addShare_59 (V_aload_n dX0_addShare_62 rfl (G_0_8 o_a0.1 o_a0.2.2.2.2.2.2.2.2.2.1 lf_0_45 dX0_addShare_63 (V_iconst dX0_addShare_66 (Exists.elim (w9.2.2.2.2.2.2.2 Z'3 p3) (fun g10 w10 => Exists.elim w10 (fun g11 w11 => Exists.elim w11 (fun g12 w12 => V_callV (k' := 0) (n' := 0) (t := 7) (q := (RX7, TX7, 2)) [r_ a0_field, r_ (a0 + 29), i_ 1] [] okX7_add o_a0.2.2.2.2.2.2.2.2.2.2.2.2.2.2.2.2.1.2.2.2.2.1 rfl rfl lm_0_142 liX7_add lqX7_add (Nat.le_of_ble_eq_true rfl) (Nat.le_of_ble_eq_true rfl) (Nat.le_of_ble_eq_true rfl) (cat_of rfl) (Nat.le_of_ble_eq_true rfl) (Nat.zero_le _) (Nat.zero_le _) rfl dX0_addShare_67 (sp_X7_add o_a0.2.2.2.2.2.2.2.2.2.2.2.2.2.2.2.2.1.2.2.2.2 o_a0_field o_a0.2.2.2.2.2.2.2.2.2.2.1 w12.1 w12.2.1 w12.2.2.1 w12.2.2.2.1 w12.2.2.2.2.1 w12.2.2.2.2.2.1 (fun Z'4 p4 => V_ret dX0_addShare_70 rfl (w12.2.2.2.2.2.2 Z'4 p4)))))))))))))))))))))))))))))))))))))))))))))))))))
theorem sp_X0_addShare {k n : Nat} {x : Wx} {Z : Zt} {Q : Option Value → Wx → Zt → Prop} {a b c d fl : Nat} (r_fl : x.2.1 a 1 = some fl) (o : Is0 x a) (ofl : Is4 x fl) (ob : Is7 x b) (oc : Is7 x c) (od : Is7 x d) {p : Int} {F1 S U W V0 : Nat → Int} (hb : PA Z b p F1) (h9 : PA Z (a + 9) p S) (hc : PA Z c p U) (hd : PA Z d p W) (h38 : PA Z (a + 38) p V0) (hF : FA Z fl p) (hp : 3 ≤ p ∧ p ≤ 13) (hfl : fl + 2 < a) (hb2 : a + 25 ≤ b ∧ b ≤ a + 27) (hc2 : a + 41 ≤ c) (hd2 : a + 41 ≤ d) (D1 : pd F1 + pd S ≤ 9) (D2 : pd (pmul p F1 S) + pd U ≤ 9) (D3 : pd (pmul p (pmul p F1 S) U) + pd W ≤ 9) (h : ∀ Z' : Zt, (PA Z' (a + 38) p (padd p V0 (pmul p (pmul p (pmul p F1 S) U) W) 1) ∧ Oth Z Z' (fun q => a + 29 ≤ q ∧ q ≤ a + 39)) → Q none x Z') : V mX0_addShare k n 0 [some (r_ a), some (r_ b), some (r_ c), some (r_ d)] [] x Z Q := by
  have hO : Oth Z Z (fun q => a + 29 ≤ q ∧ q ≤ a + 39) := Oth.rf
  refine b_X0_addShare_0 r_fl o ofl ob oc od ?_
  refine ⟨p, _, _, by omega, by omega, hb, h9, hF.1, ⟨by omega, by omega⟩, (by rw [hb.dg10, h9.dg10]; exact D1), fun Zn hh => ?_⟩
  obtain ⟨n_h29, ho⟩ := hh
  replace hb := hb.kept ho (by first | omega | (unfold At2; omega)) (by first | omega | (unfold At2; omega))
  replace h9 := h9.kept ho (by first | omega | (unfold At2; omega)) (by first | omega | (unfold At2; omega))
  replace hc := hc.kept ho (by first | omega | (unfold At2; omega)) (by first | omega | (unfold At2; omega))
  replace hd := hd.kept ho (by first | omega | (unfold At2; omega)) (by first | omega | (unfold At2; omega))
  replace h38 := h38.kept ho (by first | omega | (unfold At2; omega)) (by first | omega | (unfold At2; omega))
  replace hF := hF.kept ho (by first | omega | (unfold At2; omega)) (by first | omega | (unfold At2; omega)) (by first | omega | (unfold At2; omega))
  have h29 := n_h29
  replace hO := hO.tr (ho.wk (by first | (intro q; omega) | (unfold At2; intro q; omega)))
  refine ⟨p, _, _, by omega, by omega, h29, hc, hF.1, ⟨by omega, by omega⟩, (by rw [h29.dg10, hc.dg10]; exact D2), fun Zn hh => ?_⟩
  obtain ⟨n_h31, ho⟩ := hh
  replace hb := hb.kept ho (by first | omega | (unfold At2; omega)) (by first | omega | (unfold At2; omega))
  replace h9 := h9.kept ho (by first | omega | (unfold At2; omega)) (by first | omega | (unfold At2; omega))
  replace hc := hc.kept ho (by first | omega | (unfold At2; omega)) (by first | omega | (unfold At2; omega))
  replace hd := hd.kept ho (by first | omega | (unfold At2; omega)) (by first | omega | (unfold At2; omega))
  replace h38 := h38.kept ho (by first | omega | (unfold At2; omega)) (by first | omega | (unfold At2; omega))
  replace h29 := h29.kept ho (by first | omega | (unfold At2; omega)) (by first | omega | (unfold At2; omega))
  replace hF := hF.kept ho (by first | omega | (unfold At2; omega)) (by first | omega | (unfold At2; omega)) (by first | omega | (unfold At2; omega))
  have h31 := n_h31
  replace hO := hO.tr (ho.wk (by first | (intro q; omega) | (unfold At2; intro q; omega)))
  refine ⟨p, _, _, by omega, by omega, h31, hd, hF.1, ⟨by omega, by omega⟩, (by rw [h31.dg10, hd.dg10]; exact D3), fun Zn hh => ?_⟩
  obtain ⟨n_h29, ho⟩ := hh
  replace hb := hb.kept ho (by first | omega | (unfold At2; omega)) (by first | omega | (unfold At2; omega))
  replace h9 := h9.kept ho (by first | omega | (unfold At2; omega)) (by first | omega | (unfold At2; omega))
  replace hc := hc.kept ho (by first | omega | (unfold At2; omega)) (by first | omega | (unfold At2; omega))
  replace hd := hd.kept ho (by first | omega | (unfold At2; omega)) (by first | omega | (unfold At2; omega))
  replace h38 := h38.kept ho (by first | omega | (unfold At2; omega)) (by first | omega | (unfold At2; omega))
  replace h31 := h31.kept ho (by first | omega | (unfold At2; omega)) (by first | omega | (unfold At2; omega))
  replace hF := hF.kept ho (by first | omega | (unfold At2; omega)) (by first | omega | (unfold At2; omega)) (by first | omega | (unfold At2; omega))
  replace h29 := n_h29
  replace hO := hO.tr (ho.wk (by first | (intro q; omega) | (unfold At2; intro q; omega)))
  refine ⟨p, _, _, by omega, h38, h29, hF.1, ⟨by omega, by omega⟩, ⟨by omega, by omega⟩, fun Zn hh => ?_⟩
  obtain ⟨n_h38, ho⟩ := hh
  replace hb := hb.kept ho (by first | omega | (unfold At2; omega)) (by first | omega | (unfold At2; omega))
  replace h9 := h9.kept ho (by first | omega | (unfold At2; omega)) (by first | omega | (unfold At2; omega))
  replace hc := hc.kept ho (by first | omega | (unfold At2; omega)) (by first | omega | (unfold At2; omega))
  replace hd := hd.kept ho (by first | omega | (unfold At2; omega)) (by first | omega | (unfold At2; omega))
  replace h29 := h29.kept ho (by first | omega | (unfold At2; omega)) (by first | omega | (unfold At2; omega))
  replace h31 := h31.kept ho (by first | omega | (unfold At2; omega)) (by first | omega | (unfold At2; omega))
  replace hF := hF.kept ho (by first | omega | (unfold At2; omega)) (by first | omega | (unfold At2; omega)) (by first | omega | (unfold At2; omega))
  replace h38 := n_h38
  replace hO := hO.tr (ho.wk (by first | (intro q; omega) | (unfold At2; intro q; omega)))
  exact h _ ⟨h38, hO⟩
theorem dX0_compose_0 : decode cX0_compose 0 = .ok (.aload_n 0, 1) := by decide +kernel
theorem dX0_compose_1 : decode cX0_compose 1 = .ok (.getfield 32, 3) := by decide +kernel
theorem dX0_compose_4 : decode cX0_compose 4 = .ok (.aload_n 0, 1) := by decide +kernel
theorem dX0_compose_5 : decode cX0_compose 5 = .ok (.getfield 12, 3) := by decide +kernel
theorem dX0_compose_8 : decode cX0_compose 8 = .ok (.aload_n 1, 1) := by decide +kernel
theorem dX0_compose_9 : decode cX0_compose 9 = .ok (.getfield 130, 3) := by decide +kernel
theorem dX0_compose_12 : decode cX0_compose 12 = .ok (.aload_n 2, 1) := by decide +kernel
theorem dX0_compose_13 : decode cX0_compose 13 = .ok (.getfield 130, 3) := by decide +kernel
theorem dX0_compose_16 : decode cX0_compose 16 = .ok (.invokevirtual 155, 3) := by decide +kernel
theorem dX0_compose_19 : decode cX0_compose 19 = .ok (.aload_n 0, 1) := by decide +kernel
theorem dX0_compose_20 : decode cX0_compose 20 = .ok (.getfield 36, 3) := by decide +kernel
theorem dX0_compose_23 : decode cX0_compose 23 = .ok (.aload_n 0, 1) := by decide +kernel
theorem dX0_compose_24 : decode cX0_compose 24 = .ok (.getfield 32, 3) := by decide +kernel
theorem dX0_compose_27 : decode cX0_compose 27 = .ok (.getfield 158, 3) := by decide +kernel
theorem dX0_compose_30 : decode cX0_compose 30 = .ok (.invokevirtual 139, 3) := by decide +kernel
theorem dX0_compose_33 : decode cX0_compose 33 = .ok (.aload_n 0, 1) := by decide +kernel
theorem dX0_compose_34 : decode cX0_compose 34 = .ok (.getfield 39, 3) := by decide +kernel
theorem dX0_compose_37 : decode cX0_compose 37 = .ok (.aload_n 0, 1) := by decide +kernel
theorem dX0_compose_38 : decode cX0_compose 38 = .ok (.getfield 32, 3) := by decide +kernel
theorem dX0_compose_41 : decode cX0_compose 41 = .ok (.getfield 161, 3) := by decide +kernel
theorem dX0_compose_44 : decode cX0_compose 44 = .ok (.invokevirtual 139, 3) := by decide +kernel
theorem dX0_compose_47 : decode cX0_compose 47 = .ok (.aload_n 0, 1) := by decide +kernel
theorem dX0_compose_48 : decode cX0_compose 48 = .ok (.getfield 42, 3) := by decide +kernel
theorem dX0_compose_51 : decode cX0_compose 51 = .ok (.aload_n 0, 1) := by decide +kernel
theorem dX0_compose_52 : decode cX0_compose 52 = .ok (.getfield 32, 3) := by decide +kernel
theorem dX0_compose_55 : decode cX0_compose 55 = .ok (.getfield 164, 3) := by decide +kernel
theorem dX0_compose_58 : decode cX0_compose 58 = .ok (.invokevirtual 139, 3) := by decide +kernel
theorem dX0_compose_61 : decode cX0_compose 61 = .ok (.aload_n 0, 1) := by decide +kernel
theorem dX0_compose_62 : decode cX0_compose 62 = .ok (.getfield 45, 3) := by decide +kernel
theorem dX0_compose_65 : decode cX0_compose 65 = .ok (.aload_n 1, 1) := by decide +kernel
theorem dX0_compose_66 : decode cX0_compose 66 = .ok (.getfield 111, 3) := by decide +kernel
theorem dX0_compose_69 : decode cX0_compose 69 = .ok (.invokevirtual 139, 3) := by decide +kernel
theorem dX0_compose_72 : decode cX0_compose 72 = .ok (.aload_n 0, 1) := by decide +kernel
theorem dX0_compose_73 : decode cX0_compose 73 = .ok (.getfield 45, 3) := by decide +kernel
theorem dX0_compose_76 : decode cX0_compose 76 = .ok (.aload_n 0, 1) := by decide +kernel
theorem dX0_compose_77 : decode cX0_compose 77 = .ok (.getfield 12, 3) := by decide +kernel
theorem dX0_compose_80 : decode cX0_compose 80 = .ok (.aload_n 2, 1) := by decide +kernel
theorem dX0_compose_81 : decode cX0_compose 81 = .ok (.getfield 111, 3) := by decide +kernel
theorem dX0_compose_84 : decode cX0_compose 84 = .ok (.iconst 1, 1) := by decide +kernel
theorem dX0_compose_85 : decode cX0_compose 85 = .ok (.invokevirtual 142, 3) := by decide +kernel
theorem dX0_compose_88 : decode cX0_compose 88 = .ok (.aload_n 0, 1) := by decide +kernel
theorem dX0_compose_89 : decode cX0_compose 89 = .ok (.getfield 32, 3) := by decide +kernel
theorem dX0_compose_92 : decode cX0_compose 92 = .ok (.aload_n 0, 1) := by decide +kernel
theorem dX0_compose_93 : decode cX0_compose 93 = .ok (.getfield 12, 3) := by decide +kernel
theorem dX0_compose_96 : decode cX0_compose 96 = .ok (.aload_n 0, 1) := by decide +kernel
theorem dX0_compose_97 : decode cX0_compose 97 = .ok (.getfield 36, 3) := by decide +kernel
theorem dX0_compose_100 : decode cX0_compose 100 = .ok (.aload_n 0, 1) := by decide +kernel
theorem dX0_compose_101 : decode cX0_compose 101 = .ok (.getfield 45, 3) := by decide +kernel
theorem dX0_compose_104 : decode cX0_compose 104 = .ok (.invokevirtual 155, 3) := by decide +kernel
theorem dX0_compose_107 : decode cX0_compose 107 = .ok (.aload_n 0, 1) := by decide +kernel
theorem dX0_compose_108 : decode cX0_compose 108 = .ok (.getfield 57, 3) := by decide +kernel
theorem dX0_compose_111 : decode cX0_compose 111 = .ok (.getfield 111, 3) := by decide +kernel
theorem dX0_compose_114 : decode cX0_compose 114 = .ok (.aload_n 0, 1) := by decide +kernel
theorem dX0_compose_115 : decode cX0_compose 115 = .ok (.getfield 12, 3) := by decide +kernel
theorem dX0_compose_118 : decode cX0_compose 118 = .ok (.aload_n 1, 1) := by decide +kernel
theorem dX0_compose_119 : decode cX0_compose 119 = .ok (.getfield 111, 3) := by decide +kernel
theorem dX0_compose_122 : decode cX0_compose 122 = .ok (.aload_n 2, 1) := by decide +kernel
theorem dX0_compose_123 : decode cX0_compose 123 = .ok (.getfield 111, 3) := by decide +kernel
theorem dX0_compose_126 : decode cX0_compose 126 = .ok (.invokevirtual 136, 3) := by decide +kernel
theorem dX0_compose_129 : decode cX0_compose 129 = .ok (.aload_n 0, 1) := by decide +kernel
theorem dX0_compose_130 : decode cX0_compose 130 = .ok (.getfield 57, 3) := by decide +kernel
theorem dX0_compose_133 : decode cX0_compose 133 = .ok (.getfield 111, 3) := by decide +kernel
theorem dX0_compose_136 : decode cX0_compose 136 = .ok (.aload_n 0, 1) := by decide +kernel
theorem dX0_compose_137 : decode cX0_compose 137 = .ok (.getfield 12, 3) := by decide +kernel
theorem dX0_compose_140 : decode cX0_compose 140 = .ok (.aload_n 0, 1) := by decide +kernel
theorem dX0_compose_141 : decode cX0_compose 141 = .ok (.getfield 21, 3) := by decide +kernel
theorem dX0_compose_144 : decode cX0_compose 144 = .ok (.iconst 1, 1) := by decide +kernel
theorem dX0_compose_145 : decode cX0_compose 145 = .ok (.invokevirtual 142, 3) := by decide +kernel
theorem dX0_compose_148 : decode cX0_compose 148 = .ok (.aload_n 0, 1) := by decide +kernel
theorem dX0_compose_149 : decode cX0_compose 149 = .ok (.getfield 48, 3) := by decide +kernel
theorem dX0_compose_152 : decode cX0_compose 152 = .ok (.aload_n 0, 1) := by decide +kernel
theorem dX0_compose_153 : decode cX0_compose 153 = .ok (.getfield 12, 3) := by decide +kernel
theorem dX0_compose_156 : decode cX0_compose 156 = .ok (.aload_n 0, 1) := by decide +kernel
theorem dX0_compose_157 : decode cX0_compose 157 = .ok (.getfield 57, 3) := by decide +kernel
theorem dX0_compose_160 : decode cX0_compose 160 = .ok (.getfield 111, 3) := by decide +kernel
theorem dX0_compose_163 : decode cX0_compose 163 = .ok (.aload_n 0, 1) := by decide +kernel
theorem dX0_compose_164 : decode cX0_compose 164 = .ok (.getfield 32, 3) := by decide +kernel
theorem dX0_compose_167 : decode cX0_compose 167 = .ok (.getfield 164, 3) := by decide +kernel
theorem dX0_compose_170 : decode cX0_compose 170 = .ok (.invokevirtual 136, 3) := by decide +kernel
theorem dX0_compose_173 : decode cX0_compose 173 = .ok (.aload_n 0, 1) := by decide +kernel
theorem dX0_compose_174 : decode cX0_compose 174 = .ok (.getfield 57, 3) := by decide +kernel
theorem dX0_compose_177 : decode cX0_compose 177 = .ok (.getfield 111, 3) := by decide +kernel
theorem dX0_compose_180 : decode cX0_compose 180 = .ok (.aload_n 0, 1) := by decide +kernel
theorem dX0_compose_181 : decode cX0_compose 181 = .ok (.getfield 48, 3) := by decide +kernel
theorem dX0_compose_184 : decode cX0_compose 184 = .ok (.invokevirtual 139, 3) := by decide +kernel
theorem dX0_compose_187 : decode cX0_compose 187 = .ok (.aload_n 0, 1) := by decide +kernel
theorem dX0_compose_188 : decode cX0_compose 188 = .ok (.aload_n 0, 1) := by decide +kernel
theorem dX0_compose_189 : decode cX0_compose 189 = .ok (.getfield 39, 3) := by decide +kernel
theorem dX0_compose_192 : decode cX0_compose 192 = .ok (.aload_n 1, 1) := by decide +kernel
theorem dX0_compose_193 : decode cX0_compose 193 = .ok (.getfield 130, 3) := by decide +kernel
theorem dX0_compose_196 : decode cX0_compose 196 = .ok (.aload_n 2, 1) := by decide +kernel
theorem dX0_compose_197 : decode cX0_compose 197 = .ok (.getfield 111, 3) := by decide +kernel
theorem dX0_compose_200 : decode cX0_compose 200 = .ok (.invokevirtual 167, 3) := by decide +kernel
theorem dX0_compose_203 : decode cX0_compose 203 = .ok (.aload_n 0, 1) := by decide +kernel
theorem dX0_compose_204 : decode cX0_compose 204 = .ok (.aload_n 0, 1) := by decide +kernel
theorem dX0_compose_205 : decode cX0_compose 205 = .ok (.getfield 42, 3) := by decide +kernel
theorem dX0_compose_208 : decode cX0_compose 208 = .ok (.aload_n 2, 1) := by decide +kernel
theorem dX0_compose_209 : decode cX0_compose 209 = .ok (.getfield 130, 3) := by decide +kernel
theorem dX0_compose_212 : decode cX0_compose 212 = .ok (.aload_n 1, 1) := by decide +kernel
theorem dX0_compose_213 : decode cX0_compose 213 = .ok (.getfield 111, 3) := by decide +kernel
theorem dX0_compose_216 : decode cX0_compose 216 = .ok (.invokevirtual 167, 3) := by decide +kernel
theorem dX0_compose_219 : decode cX0_compose 219 = .ok (.aload_n 0, 1) := by decide +kernel
theorem dX0_compose_220 : decode cX0_compose 220 = .ok (.getfield 57, 3) := by decide +kernel
theorem dX0_compose_223 : decode cX0_compose 223 = .ok (.getfield 111, 3) := by decide +kernel
theorem dX0_compose_226 : decode cX0_compose 226 = .ok (.aload_n 0, 1) := by decide +kernel
theorem dX0_compose_227 : decode cX0_compose 227 = .ok (.getfield 12, 3) := by decide +kernel
theorem dX0_compose_230 : decode cX0_compose 230 = .ok (.aload_n 0, 1) := by decide +kernel
theorem dX0_compose_231 : decode cX0_compose 231 = .ok (.getfield 32, 3) := by decide +kernel
theorem dX0_compose_234 : decode cX0_compose 234 = .ok (.getfield 158, 3) := by decide +kernel
theorem dX0_compose_237 : decode cX0_compose 237 = .ok (.aload_n 0, 1) := by decide +kernel
theorem dX0_compose_238 : decode cX0_compose 238 = .ok (.getfield 51, 3) := by decide +kernel
theorem dX0_compose_241 : decode cX0_compose 241 = .ok (.invokevirtual 146, 3) := by decide +kernel
theorem dX0_compose_244 : decode cX0_compose 244 = .ok (.aload_n 0, 1) := by decide +kernel
theorem dX0_compose_245 : decode cX0_compose 245 = .ok (.getfield 57, 3) := by decide +kernel
theorem dX0_compose_248 : decode cX0_compose 248 = .ok (.getfield 111, 3) := by decide +kernel
theorem dX0_compose_251 : decode cX0_compose 251 = .ok (.aload_n 0, 1) := by decide +kernel
theorem dX0_compose_252 : decode cX0_compose 252 = .ok (.getfield 51, 3) := by decide +kernel
theorem dX0_compose_255 : decode cX0_compose 255 = .ok (.invokevirtual 139, 3) := by decide +kernel
theorem dX0_compose_258 : decode cX0_compose 258 = .ok (.aload_n 0, 1) := by decide +kernel
theorem dX0_compose_259 : decode cX0_compose 259 = .ok (.getfield 57, 3) := by decide +kernel
theorem dX0_compose_262 : decode cX0_compose 262 = .ok (.getfield 130, 3) := by decide +kernel
theorem dX0_compose_265 : decode cX0_compose 265 = .ok (.aload_n 0, 1) := by decide +kernel
theorem dX0_compose_266 : decode cX0_compose 266 = .ok (.getfield 12, 3) := by decide +kernel
theorem dX0_compose_269 : decode cX0_compose 269 = .ok (.aload_n 1, 1) := by decide +kernel
theorem dX0_compose_270 : decode cX0_compose 270 = .ok (.getfield 130, 3) := by decide +kernel
theorem dX0_compose_273 : decode cX0_compose 273 = .ok (.aload_n 2, 1) := by decide +kernel
theorem dX0_compose_274 : decode cX0_compose 274 = .ok (.getfield 130, 3) := by decide +kernel
theorem dX0_compose_277 : decode cX0_compose 277 = .ok (.invokevirtual 136, 3) := by decide +kernel
theorem dX0_compose_280 : decode cX0_compose 280 = .ok (.iconst 0, 1) := by decide +kernel
theorem dX0_compose_281 : decode cX0_compose 281 = .ok (.istore_n 3, 1) := by decide +kernel
theorem dX0_compose_282 : decode cX0_compose 282 = .ok (.iload_n 3, 1) := by decide +kernel
theorem dX0_compose_283 : decode cX0_compose 283 = .ok (.iconst 2, 1) := by decide +kernel
theorem dX0_compose_284 : decode cX0_compose 284 = .ok (.if_icmp .ge 48, 3) := by decide +kernel
theorem dX0_compose_287 : decode cX0_compose 287 = .ok (.aload_n 0, 1) := by decide +kernel
theorem dX0_compose_288 : decode cX0_compose 288 = .ok (.getfield 57, 3) := by decide +kernel
theorem dX0_compose_291 : decode cX0_compose 291 = .ok (.getfield 130, 3) := by decide +kernel
theorem dX0_compose_294 : decode cX0_compose 294 = .ok (.aload_n 0, 1) := by decide +kernel
theorem dX0_compose_295 : decode cX0_compose 295 = .ok (.getfield 12, 3) := by decide +kernel
theorem dX0_compose_298 : decode cX0_compose 298 = .ok (.aload_n 0, 1) := by decide +kernel
theorem dX0_compose_299 : decode cX0_compose 299 = .ok (.getfield 32, 3) := by decide +kernel
theorem dX0_compose_302 : decode cX0_compose 302 = .ok (.getfield 158, 3) := by decide +kernel
theorem dX0_compose_305 : decode cX0_compose 305 = .ok (.aload_n 0, 1) := by decide +kernel
theorem dX0_compose_306 : decode cX0_compose 306 = .ok (.getfield 51, 3) := by decide +kernel
theorem dX0_compose_309 : decode cX0_compose 309 = .ok (.invokevirtual 146, 3) := by decide +kernel
theorem dX0_compose_312 : decode cX0_compose 312 = .ok (.aload_n 0, 1) := by decide +kernel
theorem dX0_compose_313 : decode cX0_compose 313 = .ok (.getfield 57, 3) := by decide +kernel
theorem dX0_compose_316 : decode cX0_compose 316 = .ok (.getfield 130, 3) := by decide +kernel
theorem dX0_compose_319 : decode cX0_compose 319 = .ok (.aload_n 0, 1) := by decide +kernel
theorem dX0_compose_320 : decode cX0_compose 320 = .ok (.getfield 51, 3) := by decide +kernel
theorem dX0_compose_323 : decode cX0_compose 323 = .ok (.invokevirtual 139, 3) := by decide +kernel
theorem dX0_compose_326 : decode cX0_compose 326 = .ok (.iinc 3 1, 3) := by decide +kernel
theorem dX0_compose_329 : decode cX0_compose 329 = .ok (.goto (-47), 3) := by decide +kernel
theorem dX0_compose_332 : decode cX0_compose 332 = .ok (.aload_n 0, 1) := by decide +kernel
theorem dX0_compose_333 : decode cX0_compose 333 = .ok (.getfield 57, 3) := by decide +kernel
theorem dX0_compose_336 : decode cX0_compose 336 = .ok (.getfield 111, 3) := by decide +kernel
theorem dX0_compose_339 : decode cX0_compose 339 = .ok (.aload_n 0, 1) := by decide +kernel
theorem dX0_compose_340 : decode cX0_compose 340 = .ok (.getfield 12, 3) := by decide +kernel
theorem dX0_compose_343 : decode cX0_compose 343 = .ok (.aload_n 0, 1) := by decide +kernel
theorem dX0_compose_344 : decode cX0_compose 344 = .ok (.getfield 57, 3) := by decide +kernel
theorem dX0_compose_347 : decode cX0_compose 347 = .ok (.getfield 130, 3) := by decide +kernel
theorem dX0_compose_350 : decode cX0_compose 350 = .ok (.aload_n 0, 1) := by decide +kernel
theorem dX0_compose_351 : decode cX0_compose 351 = .ok (.getfield 51, 3) := by decide +kernel
theorem dX0_compose_354 : decode cX0_compose 354 = .ok (.invokevirtual 146, 3) := by decide +kernel
theorem dX0_compose_357 : decode cX0_compose 357 = .ok (.return_, 1) := by decide +kernel
set_option maxRecDepth 20000 in
theorem b_X0_compose_0 {k n : Nat} {x : Wx} {Z : Zt} {Q : Option Value → Wx → Zt → Prop} {a0 : Nat} {a1 : Nat} {a2 : Nat} {a0_field : Nat} {a0_f : Nat} (r_a0_field : x.2.1 a0 1 = some a0_field) (r_a0_f : x.2.1 a0 2 = some a0_f) (o_a0 : Is0 x a0) (o_a1 : Is6 x a1) (o_a2 : Is6 x a2) (o_a0_field : Is4 x a0_field) (o_a0_f : Is7 x a0_f)
    (h : ∃ g1 : Int, (∃ g2 : Nat → Int, (∃ g3 : Nat → Int, (PA Z (a1 + 1) g1 g2 ∧ PA Z (a2 + 1) g1 g3 ∧ FA Z a0_field g1 ∧ (3 ≤ g1 ∧ g1 ≤ 13) ∧ (a0_field + 2 < (a0 + 6) ∨ (a0 + 6) + 16 < a0_field) ∧ ((a2 + 1) + 1 < (a0 + 6) ∨ (a0 + 6) + 16 < (a2 + 1)) ∧ 0 ≤ pd g2 ∧ (∀ (Z'1 : Zt), (PA Z'1 ((a0 + 6) + 1) g1 (eG g1 g2 g3) ∧ PA Z'1 ((a0 + 6) + 3) g1 (eS g1 g2 g3) ∧ PA Z'1 ((a0 + 6) + 5) g1 (eT g1 g2 g3) ∧ Oth Z Z'1 (fun q => (a0 + 6) < q ∧ q ≤ (a0 + 6) + 16)) → (∃ g4 : Int, (∃ g5 : Nat → Int, (PA Z'1 (a0 + 7) g4 g5 ∧ (∀ (Z'2 : Zt), (PA Z'2 (a0 + 23) g4 g5 ∧ Oth Z'1 Z'2 (At2 (a0 + 23))) → (∃ g6 : Int, (∃ g7 : Nat → Int, (PA Z'2 (a0 + 9) g6 g7 ∧ (∀ (Z'3 : Zt), (PA Z'3 (a0 + 25) g6 g7 ∧ Oth Z'2 Z'3 (At2 (a0 + 25))) → (∃ g8 : Int, (∃ g9 : Nat → Int, (PA Z'3 (a0 + 11) g8 g9 ∧ (∀ (Z'4 : Zt), (PA Z'4 (a0 + 27) g8 g9 ∧ Oth Z'3 Z'4 (At2 (a0 + 27))) → (∃ g10 : Int, (∃ g11 : Nat → Int, (PA Z'4 (a1 + 3) g10 g11 ∧ (∀ (Z'5 : Zt), (PA Z'5 (a0 + 29) g10 g11 ∧ Oth Z'4 Z'5 (At2 (a0 + 29))) → (∃ g12 : Int, (∃ g13 : Nat → Int, (∃ g14 : Nat → Int, ((a0 + 29) ≠ (a2 + 3) ∧ PA Z'5 (a0 + 29) g12 g13 ∧ PA Z'5 (a2 + 3) g12 g14 ∧ Z'5 a0_field 0 = g12 ∧ (2 ≤ g12 ∧ g12 ≤ 13) ∧ ((-1000) ≤ (1 : Int) ∧ (1 : Int) ≤ 1000) ∧ (∀ (Z'6 : Zt), (PA Z'6 (a0 + 29) g12 (padd g12 g13 g14 (1 : Int)) ∧ Oth Z'5 Z'6 (At2 (a0 + 29))) → (∃ g15 : Int, (∃ g16 : Nat → Int, (∃ g17 : Nat → Int, (PA Z'6 (a0 + 23) g15 g16 ∧ PA Z'6 (a0 + 29) g15 g17 ∧ FA Z'6 a0_field g15 ∧ (3 ≤ g15 ∧ g15 ≤ 13) ∧ (a0_field + 2 < (a0 + 6) ∨ (a0 + 6) + 16 < a0_field) ∧ ((a0 + 29) + 1 < (a0 + 6) ∨ (a0 + 6) + 16 < (a0 + 29)) ∧ 0 ≤ pd g16 ∧ (∀ (Z'7 : Zt), (PA Z'7 ((a0 + 6) + 1) g15 (eG g15 g16 g17) ∧ PA Z'7 ((a0 + 6) + 3) g15 (eS g15 g16 g17) ∧ PA Z'7 ((a0 + 6) + 5) g15 (eT g15 g16 g17) ∧ Oth Z'6 Z'7 (fun q => (a0 + 6) < q ∧ q ≤ (a0 + 6) + 16)) → (∃ g18 : Int, (∃ g19 : Nat → Int, (∃ g20 : Nat → Int, ((a0 + 38) ≠ (a1 + 3) ∧ (a0 + 38) ≠ (a2 + 3) ∧ PA Z'7 (a1 + 3) g18 g19 ∧ PA Z'7 (a2 + 3) g18 g20 ∧ Z'7 a0_field 0 = g18 ∧ (2 ≤ g18 ∧ g18 ≤ 13) ∧ dg g19 10 + dg g20 10 ≤ 9 ∧ (∀ (Z'8 : Zt), (PA Z'8 (a0 + 38) g18 (pmul g18 g19 g20) ∧ Oth Z'7 Z'8 (At2 (a0 + 38))) → (∃ g21 : Int, (∃ g22 : Nat → Int, (∃ g23 : Nat → Int, ((a0 + 38) ≠ a0_f ∧ PA Z'8 (a0 + 38) g21 g22 ∧ PA Z'8 a0_f g21 g23 ∧ Z'8 a0_field 0 = g21 ∧ (2 ≤ g21 ∧ g21 ≤ 13) ∧ ((-1000) ≤ (1 : Int) ∧ (1 : Int) ≤ 1000) ∧ (∀ (Z'9 : Zt), (PA Z'9 (a0 + 38) g21 (padd g21 g22 g23 (1 : Int)) ∧ Oth Z'8 Z'9 (At2 (a0 + 38))) → (∃ g24 : Int, (∃ g25 : Nat → Int, (∃ g26 : Nat → Int, ((a0 + 31) ≠ (a0 + 38) ∧ (a0 + 31) ≠ (a0 + 11) ∧ PA Z'9 (a0 + 38) g24 g25 ∧ PA Z'9 (a0 + 11) g24 g26 ∧ Z'9 a0_field 0 = g24 ∧ (2 ≤ g24 ∧ g24 ≤ 13) ∧ dg g25 10 + dg g26 10 ≤ 9 ∧ (∀ (Z'10 : Zt), (PA Z'10 (a0 + 31) g24 (pmul g24 g25 g26) ∧ Oth Z'9 Z'10 (At2 (a0 + 31))) → (∃ g27 : Int, (∃ g28 : Nat → Int, (PA Z'10 (a0 + 31) g27 g28 ∧ (∀ (Z'11 : Zt), (PA Z'11 (a0 + 38) g27 g28 ∧ Oth Z'10 Z'11 (At2 (a0 + 38))) → (∃ g29 : Int, (∃ g30 : Nat → Int, (∃ g31 : Nat → Int, (∃ g32 : Nat → Int, (∃ g33 : Nat → Int, (∃ g34 : Nat → Int, (PA Z'11 (a0 + 25) g29 g30 ∧ PA Z'11 (a0 + 9) g29 g31 ∧ PA Z'11 (a1 + 1) g29 g32 ∧ PA Z'11 (a2 + 3) g29 g33 ∧ PA Z'11 (a0 + 38) g29 g34 ∧ FA Z'11 a0_field g29 ∧ (3 ≤ g29 ∧ g29 ≤ 13) ∧ a0_field + 2 < a0 ∧ (a0 + 25 ≤ (a0 + 25) ∧ (a0 + 25) ≤ a0 + 27) ∧ a0 + 41 ≤ (a1 + 1) ∧ a0 + 41 ≤ (a2 + 3) ∧ pd g30 + pd g31 ≤ 9 ∧ pd (pmul g29 g30 g31) + pd g32 ≤ 9 ∧ pd (pmul g29 (pmul g29 g30 g31) g32) + pd g33 ≤ 9 ∧ (∀ (Z'12 : Zt), (PA Z'12 (a0 + 38) g29 (padd g29 g34 (pmul g29 (pmul g29 (pmul g29 g30 g31) g32) g33) 1) ∧ Oth Z'11 Z'12 (fun q => a0 + 29 ≤ q ∧ q ≤ a0 + 39)) → (∃ g35 : Int, (∃ g36 : Nat → Int, (∃ g37 : Nat → Int, (∃ g38 : Nat → Int, (∃ g39 : Nat → Int, (∃ g40 : Nat → Int, (PA Z'12 (a0 + 27) g35 g36 ∧ PA Z'12 (a0 + 9) g35 g37 ∧ PA Z'12 (a2 + 1) g35 g38 ∧ PA Z'12 (a1 + 3) g35 g39 ∧ PA Z'12 (a0 + 38) g35 g40 ∧ FA Z'12 a0_field g35 ∧ (3 ≤ g35 ∧ g35 ≤ 13) ∧ a0_field + 2 < a0 ∧ (a0 + 25 ≤ (a0 + 27) ∧ (a0 + 27) ≤ a0 + 27) ∧ a0 + 41 ≤ (a2 + 1) ∧ a0 + 41 ≤ (a1 + 3) ∧ pd g36 + pd g37 ≤ 9 ∧ pd (pmul g35 g36 g37) + pd g38 ≤ 9 ∧ pd (pmul g35 (pmul g35 g36 g37) g38) + pd g39 ≤ 9 ∧ (∀ (Z'13 : Zt), (PA Z'13 (a0 + 38) g35 (padd g35 g40 (pmul g35 (pmul g35 (pmul g35 g36 g37) g38) g39) 1) ∧ Oth Z'12 Z'13 (fun q => a0 + 29 ≤ q ∧ q ≤ a0 + 39)) → (∃ g41 : Int, (∃ g42 : Nat → Int, (∃ g43 : Nat → Int, ((a0 + 38) ≠ (a0 + 7) ∧ (a0 + 38) ≠ (a0 + 33) ∧ (a0 + 7) ≠ (a0 + 33) ∧ PA Z'13 (a0 + 38) g41 g42 ∧ PA Z'13 (a0 + 7) g41 g43 ∧ FA Z'13 a0_field g41 ∧ (3 ≤ g41 ∧ g41 ≤ 13) ∧ 0 ≤ pd g43 ∧ (∀ (Z'14 : Zt), (PA Z'14 (a0 + 38) g41 (dvR g41 g42 g43) ∧ PA Z'14 (a0 + 33) g41 (dvQ g41 g42 g43) ∧ Oth Z'13 Z'14 (fun q => At2 (a0 + 38) q ∨ At2 (a0 + 33) q)) → (∃ g44 : Int, (∃ g45 : Nat → Int, (PA Z'14 (a0 + 33) g44 g45 ∧ (∀ (Z'15 : Zt), (PA Z'15 (a0 + 38) g44 g45 ∧ Oth Z'14 Z'15 (At2 (a0 + 38))) → (∃ g46 : Int, (∃ g47 : Nat → Int, (∃ g48 : Nat → Int, ((a0 + 36) ≠ (a1 + 1) ∧ (a0 + 36) ≠ (a2 + 1) ∧ PA Z'15 (a1 + 1) g46 g47 ∧ PA Z'15 (a2 + 1) g46 g48 ∧ Z'15 a0_field 0 = g46 ∧ (2 ≤ g46 ∧ g46 ≤ 13) ∧ dg g47 10 + dg g48 10 ≤ 9 ∧ (∀ (Z'16 : Zt), (PA Z'16 (a0 + 36) g46 (pmul g46 g47 g48) ∧ Oth Z'15 Z'16 (At2 (a0 + 36))) → (V mX0_compose k n 282 [some (r_ a0), none, none, some (i_ 0)] [] x Z'16 Q))))))))))))))))))))))))))))))))))))))))))))))))))))))))))))))))))))))))))))))))) :
    V mX0_compose k n 0 [some (r_ a0), some (r_ a1), some (r_ a2), none] [] x Z Q :=
  V_aload_n dX0_compose_0 rfl (G_0_4 o_a0.1 o_a0.2.1 lf_0_32 dX0_compose_1 (V_aload_n dX0_compose_4 rfl (G_0_1 o_a0.1 r_a0_field lf_0_12 dX0_compose_5 (V_aload_n dX0_compose_8 rfl (G_6_0 o_a1.1 o_a1.2.1 lf_0_130 dX0_compose_9 (V_aload_n dX0_compose_12 rfl (G_6_0 o_a2.1 o_a2.2.1 lf_0_130 dX0_compose_13 (Exists.elim h (fun g1 w1 => Exists.elim w1 (fun g2 w2 => Exists.elim w2 (fun g3 w3 => V_callV (k' := 0) (n' := 0) (t := 3) (q := (RX3, TX3, 8)) [r_ a0_field, r_ (a1 + 1), r_ (a2 + 1)] [] okX3_run o_a0.2.2.1.1 rfl rfl lm_0_155 liX3_run lqX3_run (Nat.le_of_ble_eq_true rfl) (Nat.le_of_ble_eq_true rfl) (Nat.le_of_ble_eq_true rfl) (cat_of rfl) (Nat.le_of_ble_eq_true rfl) (Nat.zero_le _) (Nat.zero_le _) rfl dX0_compose_16 (sp_X3_run o_a0.2.2.1 o_a0_field o_a1.2.2.1 o_a2.2.2.1 w3.1 w3.2.1 w3.2.2.1 w3.2.2.2.1 w3.2.2.2.2.1 w3.2.2.2.2.2.1 w3.2.2.2.2.2.2.1 (fun Z'1 p1 => V_aload_n dX0_compose_19 rfl (G_0_5 o_a0.1 o_a0.2.2.2.1 lf_0_36 dX0_compose_20 (V_aload_n dX0_compose_23 rfl (G_0_4 o_a0.1 o_a0.2.1 lf_0_32 dX0_compose_24 (G_3_0 o_a0.2.2.1.1 o_a0.2.2.1.2.1 lf_0_158 dX0_compose_27 (Exists.elim (w3.2.2.2.2.2.2.2 Z'1 p1) (fun g4 w4 => Exists.elim w4 (fun g5 w5 => V_callV (k' := 0) (n' := 0) (t := 7) (q := (RX7, TX7, 2)) [r_ (a0 + 7)] [] okX7_copy o_a0.2.2.2.2.1.1 rfl rfl lm_0_139 liX7_copy lqX7_copy (Nat.le_of_ble_eq_true rfl) (Nat.le_of_ble_eq_true rfl) (Nat.le_of_ble_eq_true rfl) (cat_of rfl) (Nat.le_of_ble_eq_true rfl) (Nat.zero_le _) (Nat.zero_le _) rfl dX0_compose_30 (sp_X7_copy o_a0.2.2.2.2.1 o_a0.2.2.1.2.2.1 w5.1 (fun Z'2 p2 => V_aload_n dX0_compose_33 rfl (G_0_6 o_a0.1 o_a0.2.2.2.2.2.1 lf_0_39 dX0_compose_34 (V_aload_n dX0_compose_37 rfl (G_0_4 o_a0.1 o_a0.2.1 lf_0_32 dX0_compose_38 (G_3_1 o_a0.2.2.1.1 o_a0.2.2.1.2.2.2.1 lf_0_161 dX0_compose_41 (Exists.elim (w5.2 Z'2 p2) (fun g6 w6 => Exists.elim w6 (fun g7 w7 => V_callV (k' := 0) (n' := 0) (t := 7) (q := (RX7, TX7, 2)) [r_ (a0 + 9)] [] okX7_copy o_a0.2.2.2.2.2.2.1.1 rfl rfl lm_0_139 liX7_copy lqX7_copy (Nat.le_of_ble_eq_true rfl) (Nat.le_of_ble_eq_true rfl) (Nat.le_of_ble_eq_true rfl) (cat_of rfl) (Nat.le_of_ble_eq_true rfl) (Nat.zero_le _) (Nat.zero_le _) rfl dX0_compose_44 (sp_X7_copy o_a0.2.2.2.2.2.2.1 o_a0.2.2.1.2.2.2.2.1 w7.1 (fun Z'3 p3 => V_aload_n dX0_compose_47 rfl (G_0_7 o_a0.1 o_a0.2.2.2.2.2.2.2.1 lf_0_42 dX0_compose_48 (V_aload_n dX0_compose_51 rfl (G_0_4 o_a0.1 o_a0.2.1 lf_0_32 dX0_compose_52 (G_3_2 o_a0.2.2.1.1 o_a0.2.2.1.2.2.2.2.2.1 lf_0_164 dX0_compose_55 (Exists.elim (w7.2 Z'3 p3) (fun g8 w8 => Exists.elim w8 (fun g9 w9 => V_callV (k' := 0) (n' := 0) (t := 7) (q := (RX7, TX7, 2)) [r_ (a0 + 11)] [] okX7_copy o_a0.2.2.2.2.2.2.2.2.1.1 rfl rfl lm_0_139 liX7_copy lqX7_copy (Nat.le_of_ble_eq_true rfl) (Nat.le_of_ble_eq_true rfl) (Nat.le_of_ble_eq_true rfl) (cat_of rfl) (Nat.le_of_ble_eq_true rfl) (Nat.zero_le _) (Nat.zero_le _) rfl dX0_compose_58 (sp_X7_copy o_a0.2.2.2.2.2.2.2.2.1 o_a0.2.2.1.2.2.2.2.2.2.1 w9.1 (fun Z'4 p4 => V_aload_n dX0_compose_61 rfl (G_0_8 o_a0.1 o_a0.2.2.2.2.2.2.2.2.2.1 lf_0_45 dX0_compose_62 (V_aload_n dX0_compose_65 rfl (G_6_1 o_a1.1 o_a1.2.2.2.1 lf_0_111 dX0_compose_66 (Exists.elim (w9.2 Z'4 p4) (fun g10 w10 => Exists.elim w10 (fun g11 w11 => V_callV (k' := 0) (n' := 0) (t := 7) (q := (RX7, TX7, 2)) [r_ (a1 + 3)] [] okX7_copy o_a0.2.2.2.2.2.2.2.2.2.2.1.1 rfl rfl lm_0_139 liX7_copy lqX7_copy (Nat.le_of_ble_eq_true rfl) (Nat.le_of_ble_eq_true rfl) (Nat.le_of_ble_eq_true rfl) (cat_of rfl) (Nat.le_of_ble_eq_true rfl) (Nat.zero_le _) (Nat.zero_le _) rfl dX0_compose_69 (sp_X7_copy o_a0.2.2.2.2.2.2.2.2.2.2.1 o_a1.2.2.2.2 w11.1 (fun Z'5 p5 => V_aload_n dX0_compose_72 rfl (G_0_8 o_a0.1 o_a0.2.2.2.2.2.2.2.2.2.1 lf_0_45 dX0_compose_73 (V_aload_n dX0_compose_76 rfl (G_0_1 o_a0.1 r_a0_field lf_0_12 dX0_compose_77 (V_aload_n dX0_compose_80 rfl (G_6_1 o_a2.1 o_a2.2.2.2.1 lf_0_111 dX0_compose_81 (V_iconst dX0_compose_84 (Exists.elim (w11.2 Z'5 p5) (fun g12 w12 => Exists.elim w12 (fun g13 w13 => Exists.elim w13 (fun g14 w14 => V_callV (k' := 0) (n' := 0) (t := 7) (q := (RX7, TX7, 2)) [r_ a0_field, r_ (a2 + 3), i_ 1] [] okX7_add o_a0.2.2.2.2.2.2.2.2.2.2.1.1 rfl rfl lm_0_142 liX7_add lqX7_add (Nat.le_of_ble_eq_true rfl) (Nat.le_of_ble_eq_true rfl) (Nat.le_of_ble_eq_true rfl) (cat_of rfl) (Nat.le_of_ble_eq_true rfl) (Nat.zero_le _) (Nat.zero_le _) rfl dX0_compose_85 (sp_X7_add o_a0.2.2.2.2.2.2.2.2.2.2.1 o_a0_field o_a2.2.2.2.2 w14.1 w14.2.1 w14.2.2.1 w14.2.2.2.1 w14.2.2.2.2.1 w14.2.2.2.2.2.1 (fun Z'6 p6 => V_aload_n dX0_compose_88 rfl (G_0_4 o_a0.1 o_a0.2.1 lf_0_32 dX0_compose_89 (V_aload_n dX0_compose_92 rfl (G_0_1 o_a0.1 r_a0_field lf_0_12 dX0_compose_93 (V_aload_n dX0_compose_96 rfl (G_0_5 o_a0.1 o_a0.2.2.2.1 lf_0_36 dX0_compose_97 (V_aload_n dX0_compose_100 rfl (G_0_8 o_a0.1 o_a0.2.2.2.2.2.2.2.2.2.1 lf_0_45 dX0_compose_101 (Exists.elim (w14.2.2.2.2.2.2 Z'6 p6) (fun g15 w15 => Exists.elim w15 (fun g16 w16 => Exists.elim w16 (fun g17 w17 => V_callV (k' := 0) (n' := 0) (t := 3) (q := (RX3, TX3, 8)) [r_ a0_field, r_ (a0 + 23), r_ (a0 + 29)] [] okX3_run o_a0.2.2.1.1 rfl rfl lm_0_155 liX3_run lqX3_run (Nat.le_of_ble_eq_true rfl) (Nat.le_of_ble_eq_true rfl) (Nat.le_of_ble_eq_true rfl) (cat_of rfl) (Nat.le_of_ble_eq_true rfl) (Nat.zero_le _) (Nat.zero_le _) rfl dX0_compose_104 (sp_X3_run o_a0.2.2.1 o_a0_field o_a0.2.2.2.2.1 o_a0.2.2.2.2.2.2.2.2.2.2.1 w17.1 w17.2.1 w17.2.2.1 w17.2.2.2.1 w17.2.2.2.2.1 w17.2.2.2.2.2.1 w17.2.2.2.2.2.2.1 (fun Z'7 p7 => V_aload_n dX0_compose_107 rfl (G_0_11 o_a0.1 o_a0.2.2.2.2.2.2.2.2.2.2.2.2.2.2.2.1 lf_0_57 dX0_compose_108 (G_6_1 o_a0.2.2.2.2.2.2.2.2.2.2.2.2.2.2.2.2.1.1 o_a0.2.2.2.2.2.2.2.2.2.2.2.2.2.2.2.2.1.2.2.2.1 lf_0_111 dX0_compose_111 (V_aload_n dX0_compose_114 rfl (G_0_1 o_a0.1 r_a0_field lf_0_12 dX0_compose_115 (V_aload_n dX0_compose_118 rfl (G_6_1 o_a1.1 o_a1.2.2.2.1 lf_0_111 dX0_compose_119 (V_aload_n dX0_compose_122 rfl (G_6_1 o_a2.1 o_a2.2.2.2.1 lf_0_111 dX0_compose_123 (Exists.elim (w17.2.2.2.2.2.2.2 Z'7 p7) (fun g18 w18 => Exists.elim w18 (fun g19 w19 => Exists.elim w19 (fun g20 w20 => V_callV (k' := 0) (n' := 0) (t := 7) (q := (RX7, TX7, 2)) [r_ a0_field, r_ (a1 + 3), r_ (a2 + 3)] [] okX7_product o_a0.2.2.2.2.2.2.2.2.2.2.2.2.2.2.2.2.1.2.2.2.2.1 rfl rfl lm_0_136 liX7_product lqX7_product (Nat.le_of_ble_eq_true rfl) (Nat.le_of_ble_eq_true rfl) (Nat.le_of_ble_eq_true rfl) (cat_of rfl) (Nat.le_of_ble_eq_true rfl) (Nat.zero_le _) (Nat.zero_le _) rfl dX0_compose_126 (sp_X7_product o_a0.2.2.2.2.2.2.2.2.2.2.2.2.2.2.2.2.1.2.2.2.2 o_a0_field o_a1.2.2.2.2 o_a2.2.2.2.2 w20.1 w20.2.1 w20.2.2.1 w20.2.2.2.1 w20.2.2.2.2.1 w20.2.2.2.2.2.1 w20.2.2.2.2.2.2.1 (fun Z'8 p8 => V_aload_n dX0_compose_129 rfl (G_0_11 o_a0.1 o_a0.2.2.2.2.2.2.2.2.2.2.2.2.2.2.2.1 lf_0_57 dX0_compose_130 (G_6_1 o_a0.2.2.2.2.2.2.2.2.2.2.2.2.2.2.2.2.1.1 o_a0.2.2.2.2.2.2.2.2.2.2.2.2.2.2.2.2.1.2.2.2.1 lf_0_111 dX0_compose_133 (V_aload_n dX0_compose_136 rfl (G_0_1 o_a0.1 r_a0_field lf_0_12 dX0_compose_137 (V_aload_n dX0_compose_140 rfl (G_0_2 o_a0.1 r_a0_f lf_0_21 dX0_compose_141 (V_iconst dX0_compose_144 (Exists.elim (w20.2.2.2.2.2.2.2 Z'8 p8) (fun g21 w21 => Exists.elim w21 (fun g22 w22 => Exists.elim w22 (fun g23 w23 => V_callV (k' := 0) (n' := 0) (t := 7) (q := (RX7, TX7, 2)) [r_ a0_field, r_ a0_f, i_ 1] [] okX7_add o_a0.2.2.2.2.2.2.2.2.2.2.2.2.2.2.2.2.1.2.2.2.2.1 rfl rfl lm_0_142 liX7_add lqX7_add (Nat.le_of_ble_eq_true rfl) (Nat.le_of_ble_eq_true rfl) (Nat.le_of_ble_eq_true rfl) (cat_of rfl) (Nat.le_of_ble_eq_true rfl) (Nat.zero_le _) (Nat.zero_le _) rfl dX0_compose_145 (sp_X7_add o_a0.2.2.2.2.2.2.2.2.2.2.2.2.2.2.2.2.1.2.2.2.2 o_a0_field o_a0_f w23.1 w23.2.1 w23.2.2.1 w23.2.2.2.1 w23.2.2.2.2.1 w23.2.2.2.2.2.1 (fun Z'9 p9 => V_aload_n dX0_compose_148 rfl (G_0_9 o_a0.1 o_a0.2.2.2.2.2.2.2.2.2.2.2.1 lf_0_48 dX0_compose_149 (V_aload_n dX0_compose_152 rfl (G_0_1 o_a0.1 r_a0_field lf_0_12 dX0_compose_153 (V_aload_n dX0_compose_156 rfl (G_0_11 o_a0.1 o_a0.2.2.2.2.2.2.2.2.2.2.2.2.2.2.2.1 lf_0_57 dX0_compose_157 (G_6_1 o_a0.2.2.2.2.2.2.2.2.2.2.2.2.2.2.2.2.1.1 o_a0.2.2.2.2.2.2.2.2.2.2.2.2.2.2.2.2.1.2.2.2.1 lf_0_111 dX0_compose_160 (V_aload_n dX0_compose_163 rfl (G_0_4 o_a0.1 o_a0.2.1 lf_0_32 dX0_compose_164 (G_3_2 o_a0.2.2.1.1 o_a0.2.2.1.2.2.2.2.2.1 lf_0_164 dX0_compose_167 (Exists.elim (w23.2.2.2.2.2.2 Z'9 p9) (fun g24 w24 => Exists.elim w24 (fun g25 w25 => Exists.elim w25 (fun g26 w26 => V_callV (k' := 0) (n' := 0) (t := 7) (q := (RX7, TX7, 2)) [r_ a0_field, r_ (a0 + 38), r_ (a0 + 11)] [] okX7_product o_a0.2.2.2.2.2.2.2.2.2.2.2.2.1.1 rfl rfl lm_0_136 liX7_product lqX7_product (Nat.le_of_ble_eq_true rfl) (Nat.le_of_ble_eq_true rfl) (Nat.le_of_ble_eq_true rfl) (cat_of rfl) (Nat.le_of_ble_eq_true rfl) (Nat.zero_le _) (Nat.zero_le _) rfl dX0_compose_170 (sp_X7_product o_a0.2.2.2.2.2.2.2.2.2.2.2.2.1 o_a0_field o_a0.2.2.2.2.2.2.2.2.2.2.2.2.2.2.2.2.1.2.2.2.2 o_a0.2.2.1.2.2.2.2.2.2.1 w26.1 w26.2.1 w26.2.2.1 w26.2.2.2.1 w26.2.2.2.2.1 w26.2.2.2.2.2.1 w26.2.2.2.2.2.2.1 (fun Z'10 p10 => V_aload_n dX0_compose_173 rfl (G_0_11 o_a0.1 o_a0.2.2.2.2.2.2.2.2.2.2.2.2.2.2.2.1 lf_0_57 dX0_compose_174 (G_6_1 o_a0.2.2.2.2.2.2.2.2.2.2.2.2.2.2.2.2.1.1 o_a0.2.2.2.2.2.2.2.2.2.2.2.2.2.2.2.2.1.2.2.2.1 lf_0_111 dX0_compose_177 (V_aload_n dX0_compose_180 rfl (G_0_9 o_a0.1 o_a0.2.2.2.2.2.2.2.2.2.2.2.1 lf_0_48 dX0_compose_181 (Exists.elim (w26.2.2.2.2.2.2.2 Z'10 p10) (fun g27 w27 => Exists.elim w27 (fun g28 w28 => V_callV (k' := 0) (n' := 0) (t := 7) (q := (RX7, TX7, 2)) [r_ (a0 + 31)] [] okX7_copy o_a0.2.2.2.2.2.2.2.2.2.2.2.2.2.2.2.2.1.2.2.2.2.1 rfl rfl lm_0_139 liX7_copy lqX7_copy (Nat.le_of_ble_eq_true rfl) (Nat.le_of_ble_eq_true rfl) (Nat.le_of_ble_eq_true rfl) (cat_of rfl) (Nat.le_of_ble_eq_true rfl) (Nat.zero_le _) (Nat.zero_le _) rfl dX0_compose_184 (sp_X7_copy o_a0.2.2.2.2.2.2.2.2.2.2.2.2.2.2.2.2.1.2.2.2.2 o_a0.2.2.2.2.2.2.2.2.2.2.2.2.1 w28.1 (fun Z'11 p11 => V_aload_n dX0_compose_187 rfl (V_aload_n dX0_compose_188 rfl (G_0_6 o_a0.1 o_a0.2.2.2.2.2.1 lf_0_39 dX0_compose_189 (V_aload_n dX0_compose_192 rfl (G_6_0 o_a1.1 o_a1.2.1 lf_0_130 dX0_compose_193 (V_aload_n dX0_compose_196 rfl (G_6_1 o_a2.1 o_a2.2.2.2.1 lf_0_111 dX0_compose_197 (Exists.elim (w28.2 Z'11 p11) (fun g29 w29 => Exists.elim w29 (fun g30 w30 => Exists.elim w30 (fun g31 w31 => Exists.elim w31 (fun g32 w32 => Exists.elim w32 (fun g33 w33 => Exists.elim w33 (fun g34 w34 => V_callV (k' := 0) (n' := 0) (t := 0) (q := (RX0, TX0, 18)) [r_ (a0 + 25), r_ (a1 + 1), r_ (a2 + 3)] [] okX0_addShare o_a0.1 rfl rfl lm_0_167 liX0_addShare lqX0_addShare (Nat.le_of_ble_eq_true rfl) (Nat.le_of_ble_eq_true rfl) (Nat.le_of_ble_eq_true rfl) (cat_of rfl) (Nat.le_of_ble_eq_true rfl) (Nat.zero_le _) (Nat.zero_le _) rfl dX0_compose_200 (sp_X0_addShare r_a0_field o_a0 o_a0_field o_a0.2.2.2.2.2.2.1 o_a1.2.2.1 o_a2.2.2.2.2 w34.1 w34.2.1 w34.2.2.1 w34.2.2.2.1 w34.2.2.2.2.1 w34.2.2.2.2.2.1 w34.2.2.2.2.2.2.1 w34.2.2.2.2.2.2.2.1 w34.2.2.2.2.2.2.2.2.1 w34.2.2.2.2.2.2.2.2.2.1 w34.2.2.2.2.2.2.2.2.2.2.1 w34.2.2.2.2.2.2.2.2.2.2.2.1 w34.2.2.2.2.2.2.2.2.2.2.2.2.1 w34.2.2.2.2.2.2.2.2.2.2.2.2.2.1 (fun Z'12 p12 => V_aload_n dX0_compose_203 rfl (V_aload_n dX0_compose_204 rfl (G_0_7 o_a0.1 o_a0.2.2.2.2.2.2.2.1 lf_0_42 dX0_compose_205 (V_aload_n dX0_compose_208 rfl (G_6_0 o_a2.1 o_a2.2.1 lf_0_130 dX0_compose_209 (V_aload_n dX0_compose_212 rfl (G_6_1 o_a1.1 o_a1.2.2.2.1 lf_0_111 dX0_compose_213 (Exists.elim (w34.2.2.2.2.2.2.2.2.2.2.2.2.2.2 Z'12 p12) (fun g35 w35 => Exists.elim w35 (fun g36 w36 => Exists.elim w36 (fun g37 w37 => Exists.elim w37 (fun g38 w38 => Exists.elim w38 (fun g39 w39 => Exists.elim w39 (fun g40 w40 => V_callV (k' := 0) (n' := 0) (t := 0) (q := (RX0, TX0, 18)) [r_ (a0 + 27), r_ (a2 + 1), r_ (a1 + 3)] [] okX0_addShare o_a0.1 rfl rfl lm_0_167 liX0_addShare lqX0_addShare (Nat.le_of_ble_eq_true rfl) (Nat.le_of_ble_eq_true rfl) (Nat.le_of_ble_eq_true rfl) (cat_of rfl) (Nat.le_of_ble_eq_true rfl) (Nat.zero_le _) (Nat.zero_le _) rfl dX0_compose_216 (sp_X0_addShare r_a0_field o_a0 o_a0_field o_a0.2.2.2.2.2.2.2.2.1 o_a2.2.2.1 o_a1.2.2.2.2 w40.1 w40.2.1 w40.2.2.1 w40.2.2.2.1 w40.2.2.2.2.1 w40.2.2.2.2.2.1 w40.2.2.2.2.2.2.1 w40.2.2.2.2.2.2.2.1 w40.2.2.2.2.2.2.2.2.1 w40.2.2.2.2.2.2.2.2.2.1 w40.2.2.2.2.2.2.2.2.2.2.1 w40.2.2.2.2.2.2.2.2.2.2.2.1 w40.2.2.2.2.2.2.2.2.2.2.2.2.1 w40.2.2.2.2.2.2.2.2.2.2.2.2.2.1 (fun Z'13 p13 => V_aload_n dX0_compose_219 rfl (G_0_11 o_a0.1 o_a0.2.2.2.2.2.2.2.2.2.2.2.2.2.2.2.1 lf_0_57 dX0_compose_220 (G_6_1 o_a0.2.2.2.2.2.2.2.2.2.2.2.2.2.2.2.2.1.1 o_a0.2.2.2.2.2.2.2.2.2.2.2.2.2.2.2.2.1.2.2.2.1 lf_0_111 dX0_compose_223 (V_aload_n dX0_compose_226 rfl (G_0_1 o_a0.1 r_a0_field lf_0_12 dX0_compose_227 (V_aload_n dX0_compose_230 rfl (G_0_4 o_a0.1 o_a0.2.1 lf_0_32 dX0_compose_231 (G_3_0 o_a0.2.2.1.1 o_a0.2.2.1.2.1 lf_0_158 dX0_compose_234 (V_aload_n dX0_compose_237 rfl (G_0_10 o_a0.1 o_a0.2.2.2.2.2.2.2.2.2.2.2.2.2.1 lf_0_51 dX0_compose_238 (Exists.elim (w40.2.2.2.2.2.2.2.2.2.2.2.2.2.2 Z'13 p13) (fun g41 w41 => Exists.elim w41 (fun g42 w42 => Exists.elim w42 (fun g43 w43 => V_callV (k' := 0) (n' := 0) (t := 7) (q := (RX7, TX7, 2)) [r_ a0_field, r_ (a0 + 7), r_ (a0 + 33)] [] okX7_divide o_a0.2.2.2.2.2.2.2.2.2.2.2.2.2.2.2.2.1.2.2.2.2.1 rfl rfl lm_0_146 liX7_divide lqX7_divide (Nat.le_of_ble_eq_true rfl) (Nat.le_of_ble_eq_true rfl) (Nat.le_of_ble_eq_true rfl) (cat_of rfl) (Nat.le_of_ble_eq_true rfl) (Nat.zero_le _) (Nat.zero_le _) rfl dX0_compose_241 (sp_X7_divide o_a0.2.2.2.2.2.2.2.2.2.2.2.2.2.2.2.2.1.2.2.2.2 o_a0_field o_a0.2.2.1.2.2.1 o_a0.2.2.2.2.2.2.2.2.2.2.2.2.2.2.1 w43.1 w43.2.1 w43.2.2.1 w43.2.2.2.1 w43.2.2.2.2.1 w43.2.2.2.2.2.1 w43.2.2.2.2.2.2.1 w43.2.2.2.2.2.2.2.1 (fun Z'14 p14 => V_aload_n dX0_compose_244 rfl (G_0_11 o_a0.1 o_a0.2.2.2.2.2.2.2.2.2.2.2.2.2.2.2.1 lf_0_57 dX0_compose_245 (G_6_1 o_a0.2.2.2.2.2.2.2.2.2.2.2.2.2.2.2.2.1.1 o_a0.2.2.2.2.2.2.2.2.2.2.2.2.2.2.2.2.1.2.2.2.1 lf_0_111 dX0_compose_248 (V_aload_n dX0_compose_251 rfl (G_0_10 o_a0.1 o_a0.2.2.2.2.2.2.2.2.2.2.2.2.2.1 lf_0_51 dX0_compose_252 (Exists.elim (w43.2.2.2.2.2.2.2.2 Z'14 p14) (fun g44 w44 => Exists.elim w44 (fun g45 w45 => V_callV (k' := 0) (n' := 0) (t := 7) (q := (RX7, TX7, 2)) [r_ (a0 + 33)] [] okX7_copy o_a0.2.2.2.2.2.2.2.2.2.2.2.2.2.2.2.2.1.2.2.2.2.1 rfl rfl lm_0_139 liX7_copy lqX7_copy (Nat.le_of_ble_eq_true rfl) (Nat.le_of_ble_eq_true rfl) (Nat.le_of_ble_eq_true rfl) (cat_of rfl) (Nat.le_of_ble_eq_true rfl) (Nat.zero_le _) (Nat.zero_le _) rfl dX0_compose_255 (sp_X7_copy o_a0.2.2.2.2.2.2.2.2.2.2.2.2.2.2.2.2.1.2.2.2.2 o_a0.2.2.2.2.2.2.2.2.2.2.2.2.2.2.1 w45.1 (fun Z'15 p15 => V_aload_n dX0_compose_258 rfl (G_0_11 o_a0.1 o_a0.2.2.2.2.2.2.2.2.2.2.2.2.2.2.2.1 lf_0_57 dX0_compose_259 (G_6_0 o_a0.2.2.2.2.2.2.2.2.2.2.2.2.2.2.2.2.1.1 o_a0.2.2.2.2.2.2.2.2.2.2.2.2.2.2.2.2.1.2.1 lf_0_130 dX0_compose_262 (V_aload_n dX0_compose_265 rfl (G_0_1 o_a0.1 r_a0_field lf_0_12 dX0_compose_266 (V_aload_n dX0_compose_269 rfl (G_6_0 o_a1.1 o_a1.2.1 lf_0_130 dX0_compose_270 (V_aload_n dX0_compose_273 rfl (G_6_0 o_a2.1 o_a2.2.1 lf_0_130 dX0_compose_274 (Exists.elim (w45.2 Z'15 p15) (fun g46 w46 => Exists.elim w46 (fun g47 w47 => Exists.elim w47 (fun g48 w48 => V_callV (k' := 0) (n' := 0) (t := 7) (q := (RX7, TX7, 2)) [r_ a0_field, r_ (a1 + 1), r_ (a2 + 1)] [] okX7_product o_a0.2.2.2.2.2.2.2.2.2.2.2.2.2.2.2.2.1.2.2.1.1 rfl rfl lm_0_136 liX7_product lqX7_product (Nat.le_of_ble_eq_true rfl) (Nat.le_of_ble_eq_true rfl) (Nat.le_of_ble_eq_true rfl) (cat_of rfl) (Nat.le_of_ble_eq_true rfl) (Nat.zero_le _) (Nat.zero_le _) rfl dX0_compose_277 (sp_X7_product o_a0.2.2.2.2.2.2.2.2.2.2.2.2.2.2.2.2.1.2.2.1 o_a0_field o_a1.2.2.1 o_a2.2.2.1 w48.1 w48.2.1 w48.2.2.1 w48.2.2.2.1 w48.2.2.2.2.1 w48.2.2.2.2.2.1 w48.2.2.2.2.2.2.1 (fun Z'16 p16 => V_iconst dX0_compose_280 (V_istore_n (lv' := [some (r_ a0), some (r_ a1), some (r_ a2), some (i_ 0)]) dX0_compose_281 (Nat.le_of_ble_eq_true rfl) rfl (V_msk [true, false, false, true] rfl (w48.2.2.2.2.2.2.2 Z'16 p16)))))))))))))))))))))))))))))))))))))))))))))))))))))))))))))))))))))))))))))))))))))))))))))))))))))))))))))))))))))))))))))))))))))))))))))))))))))))))))))))))))))))))))))))))))))))))))))))))))
set_option maxRecDepth 20000 in
theorem b_X0_compose_282 {k n : Nat} {x : Wx} {Z : Zt} {Q : Option Value → Wx → Zt → Prop} {a0 : Nat} {v3 : Int} {a0_field : Nat} (r_a0_field : x.2.1 a0 1 = some a0_field) (o_a0 : Is0 x a0) (o_a0_field : Is4 x a0_field)
    (h : Rg v3 ∧ (((2 ≤ v3) → (∃ g1 : Int, (∃ g2 : Nat → Int, (∃ g3 : Nat → Int, ((a0 + 38) ≠ (a0 + 36) ∧ (a0 + 38) ≠ (a0 + 33) ∧ (a0 + 36) ≠ (a0 + 33) ∧ PA Z (a0 + 38) g1 g2 ∧ PA Z (a0 + 36) g1 g3 ∧ FA Z a0_field g1 ∧ (3 ≤ g1 ∧ g1 ≤ 13) ∧ 0 ≤ pd g3 ∧ (∀ (Z'1 : Zt), (PA Z'1 (a0 + 38) g1 (dvR g1 g2 g3) ∧ PA Z'1 (a0 + 33) g1 (dvQ g1 g2 g3) ∧ Oth Z Z'1 (fun q => At2 (a0 + 38) q ∨ At2 (a0 + 33) q)) → (Q none x Z'1))))))) ∧ ((v3 < 2) → (∃ g4 : Int, (∃ g5 : Nat → Int, (∃ g6 : Nat → Int, ((a0 + 36) ≠ (a0 + 7) ∧ (a0 + 36) ≠ (a0 + 33) ∧ (a0 + 7) ≠ (a0 + 33) ∧ PA Z (a0 + 36) g4 g5 ∧ PA Z (a0 + 7) g4 g6 ∧ FA Z a0_field g4 ∧ (3 ≤ g4 ∧ g4 ≤ 13) ∧ 0 ≤ pd g6 ∧ (∀ (Z'2 : Zt), (PA Z'2 (a0 + 36) g4 (dvR g4 g5 g6) ∧ PA Z'2 (a0 + 33) g4 (dvQ g4 g5 g6) ∧ Oth Z Z'2 (fun q => At2 (a0 + 36) q ∨ At2 (a0 + 33) q)) → (∃ g7 : Int, (∃ g8 : Nat → Int, (PA Z'2 (a0 + 33) g7 g8 ∧ (∀ (Z'3 : Zt), (PA Z'3 (a0 + 36) g7 g8 ∧ Oth Z'2 Z'3 (At2 (a0 + 36))) → (V mX0_compose k n 282 [some (r_ a0), none, none, some (i_ (v3 + 1))] [] x Z'3 Q))))))))))))) :
    V mX0_compose k n 282 [some (r_ a0), none, none, some (i_ v3)] [] x Z Q :=
  V_iload_n dX0_compose_282 rfl (V_iconst dX0_compose_283 (V_icmp_ge (tgt := 332) dX0_compose_284 rfl h.1 (rg_c rfl) (fun c1 => V_aload_n dX0_compose_332 rfl (G_0_11 o_a0.1 o_a0.2.2.2.2.2.2.2.2.2.2.2.2.2.2.2.1 lf_0_57 dX0_compose_333 (G_6_1 o_a0.2.2.2.2.2.2.2.2.2.2.2.2.2.2.2.2.1.1 o_a0.2.2.2.2.2.2.2.2.2.2.2.2.2.2.2.2.1.2.2.2.1 lf_0_111 dX0_compose_336 (V_aload_n dX0_compose_339 rfl (G_0_1 o_a0.1 r_a0_field lf_0_12 dX0_compose_340 (V_aload_n dX0_compose_343 rfl (G_0_11 o_a0.1 o_a0.2.2.2.2.2.2.2.2.2.2.2.2.2.2.2.1 lf_0_57 dX0_compose_344 (G_6_0 o_a0.2.2.2.2.2.2.2.2.2.2.2.2.2.2.2.2.1.1 o_a0.2.2.2.2.2.2.2.2.2.2.2.2.2.2.2.2.1.2.1 lf_0_130 dX0_compose_347 (V_aload_n dX0_compose_350 rfl (G_0_10 o_a0.1 o_a0.2.2.2.2.2.2.2.2.2.2.2.2.2.1 lf_0_51 dX0_compose_351 (Exists.elim (h.2.1 c1) (fun g1 w1 => Exists.elim w1 (fun g2 w2 => Exists.elim w2 (fun g3 w3 => V_callV (k' := 0) (n' := 0) (t := 7) (q := (RX7, TX7, 2)) [r_ a0_field, r_ (a0 + 36), r_ (a0 + 33)] [] okX7_divide o_a0.2.2.2.2.2.2.2.2.2.2.2.2.2.2.2.2.1.2.2.2.2.1 rfl rfl lm_0_146 liX7_divide lqX7_divide (Nat.le_of_ble_eq_true rfl) (Nat.le_of_ble_eq_true rfl) (Nat.le_of_ble_eq_true rfl) (cat_of rfl) (Nat.le_of_ble_eq_true rfl) (Nat.zero_le _) (Nat.zero_le _) rfl dX0_compose_354 (sp_X7_divide o_a0.2.2.2.2.2.2.2.2.2.2.2.2.2.2.2.2.1.2.2.2.2 o_a0_field o_a0.2.2.2.2.2.2.2.2.2.2.2.2.2.2.2.2.1.2.2.1 o_a0.2.2.2.2.2.2.2.2.2.2.2.2.2.2.1 w3.1 w3.2.1 w3.2.2.1 w3.2.2.2.1 w3.2.2.2.2.1 w3.2.2.2.2.2.1 w3.2.2.2.2.2.2.1 w3.2.2.2.2.2.2.2.1 (fun Z'1 p1 => V_ret dX0_compose_357 rfl (w3.2.2.2.2.2.2.2.2 Z'1 p1))))))))))))))))) (fun c1 => V_aload_n dX0_compose_287 rfl (G_0_11 o_a0.1 o_a0.2.2.2.2.2.2.2.2.2.2.2.2.2.2.2.1 lf_0_57 dX0_compose_288 (G_6_0 o_a0.2.2.2.2.2.2.2.2.2.2.2.2.2.2.2.2.1.1 o_a0.2.2.2.2.2.2.2.2.2.2.2.2.2.2.2.2.1.2.1 lf_0_130 dX0_compose_291 (V_aload_n dX0_compose_294 rfl (G_0_1 o_a0.1 r_a0_field lf_0_12 dX0_compose_295 (V_aload_n dX0_compose_298 rfl (G_0_4 o_a0.1 o_a0.2.1 lf_0_32 dX0_compose_299 (G_3_0 o_a0.2.2.1.1 o_a0.2.2.1.2.1 lf_0_158 dX0_compose_302 (V_aload_n dX0_compose_305 rfl (G_0_10 o_a0.1 o_a0.2.2.2.2.2.2.2.2.2.2.2.2.2.1 lf_0_51 dX0_compose_306 (Exists.elim (h.2.2 c1) (fun g4 w4 => Exists.elim w4 (fun g5 w5 => Exists.elim w5 (fun g6 w6 => V_callV (k' := 0) (n' := 0) (t := 7) (q := (RX7, TX7, 2)) [r_ a0_field, r_ (a0 + 7), r_ (a0 + 33)] [] okX7_divide o_a0.2.2.2.2.2.2.2.2.2.2.2.2.2.2.2.2.1.2.2.1.1 rfl rfl lm_0_146 liX7_divide lqX7_divide (Nat.le_of_ble_eq_true rfl) (Nat.le_of_ble_eq_true rfl) (Nat.le_of_ble_eq_true rfl) (cat_of rfl) (Nat.le_of_ble_eq_true rfl) (Nat.zero_le _) (Nat.zero_le _) rfl dX0_compose_309 (sp_X7_divide o_a0.2.2.2.2.2.2.2.2.2.2.2.2.2.2.2.2.1.2.2.1 o_a0_field o_a0.2.2.1.2.2.1 o_a0.2.2.2.2.2.2.2.2.2.2.2.2.2.2.1 w6.1 w6.2.1 w6.2.2.1 w6.2.2.2.1 w6.2.2.2.2.1 w6.2.2.2.2.2.1 w6.2.2.2.2.2.2.1 w6.2.2.2.2.2.2.2.1 (fun Z'2 p2 => V_aload_n dX0_compose_312 rfl (G_0_11 o_a0.1 o_a0.2.2.2.2.2.2.2.2.2.2.2.2.2.2.2.1 lf_0_57 dX0_compose_313 (G_6_0 o_a0.2.2.2.2.2.2.2.2.2.2.2.2.2.2.2.2.1.1 o_a0.2.2.2.2.2.2.2.2.2.2.2.2.2.2.2.2.1.2.1 lf_0_130 dX0_compose_316 (V_aload_n dX0_compose_319 rfl (G_0_10 o_a0.1 o_a0.2.2.2.2.2.2.2.2.2.2.2.2.2.1 lf_0_51 dX0_compose_320 (Exists.elim (w6.2.2.2.2.2.2.2.2 Z'2 p2) (fun g7 w7 => Exists.elim w7 (fun g8 w8 => V_callV (k' := 0) (n' := 0) (t := 7) (q := (RX7, TX7, 2)) [r_ (a0 + 33)] [] okX7_copy o_a0.2.2.2.2.2.2.2.2.2.2.2.2.2.2.2.2.1.2.2.1.1 rfl rfl lm_0_139 liX7_copy lqX7_copy (Nat.le_of_ble_eq_true rfl) (Nat.le_of_ble_eq_true rfl) (Nat.le_of_ble_eq_true rfl) (cat_of rfl) (Nat.le_of_ble_eq_true rfl) (Nat.zero_le _) (Nat.zero_le _) rfl dX0_compose_323 (sp_X7_copy o_a0.2.2.2.2.2.2.2.2.2.2.2.2.2.2.2.2.1.2.2.1 o_a0.2.2.2.2.2.2.2.2.2.2.2.2.2.2.1 w8.1 (fun Z'3 p3 => V_iinc (lv' := [some (r_ a0), none, none, some (i_ (v3 + 1))]) dX0_compose_326 rfl (Nat.le_of_ble_eq_true rfl) rfl (V_goto (tgt := 282) dX0_compose_329 rfl (V_msk [true, false, false, true] rfl (w8.2 Z'3 p3))))))))))))))))))))))))))))))
theorem sp_X0_compose {k n : Nat} {x : Wx} {Z : Zt} {Q : Option Value → Wx → Zt → Prop} {a b c fl ff : Nat} (r_fl : x.2.1 a 1 = some fl) (r_ff : x.2.1 a 2 = some ff) (o : Is0 x a) (ob : Is6 x b) (oc : Is6 x c) (ofl : Is4 x fl) (off : Is7 x ff) {p g : Int} {F : Nat → Int} {A B : UV} (hC : CF p g F) (hA : RP p g A) (hB : RP p g B) (hPA : PrA Z b p A.1 A.2) (hPB : PrA Z c p B.1 B.2) (hf : PA Z ff p F) (hF : FA Z fl p) (hfl : fl + 2 < a) (hff : ff + 1 < a) (hb2 : a + 40 ≤ b) (hc2 : a + 40 ≤ c) (h : ∀ Z' : Zt, (PrA Z' (a + 35) p (ccomp p F A B).1 (ccomp p F A B).2 ∧ Oth Z Z' (fun q => a + 6 < q ∧ q ≤ a + 39)) → Q none x Z') : V mX0_compose k n 0 [some (r_ a), some (r_ b), some (r_ c), none] [] x Z Q := by
  have hO : Oth Z Z (fun q => a + 6 < q ∧ q ≤ a + 39) := Oth.rf
  have hp := hC.1.rg
  have hg := hC.2.2.2.2
  obtain ⟨c1, c2, c3, c4, c5, c6⟩ := cG1_ok hC hA hB
  obtain ⟨w1, w2⟩ := cW_ok hC hA hB
  obtain ⟨d1, d2, d3, d4, d5, d6⟩ := cG_ok hC hA hB
  obtain ⟨n1, n2, D0⟩ := cN_ok hC hA hB
  obtain ⟨u1, u2, u3, D2, u5⟩ := cU3_ok hC hA hB
  have a4 := hA.2.2.2.1
  have a5 := hA.2.2.2.2.1
  have b4 := hB.2.2.2.1
  have b5 := hB.2.2.2.2.1
  have k1 : 0 ≤ pd (eG p A.1 B.1) := c2
  have k2 : 0 ≤ pd (cG p A B) := d2
  have k3 : 0 ≤ pd (cU3 p A B) := u2
  have D1 : pd (cN p F A B) + pd (cT p A B) ≤ 9 := by omega
  have m1 := pd_pmul (p := p) c5.2.1 d5.2.1
  have m1f : Fin (pmul p (eS p A.1 B.1) (cS p A B)) := pmul_fin c5.2.1 d5.2.1 (by omega)
  have m2 := pd_pmul (p := p) m1f hA.1.2
  have m3 := pd_pmul (p := p) c6.2.1 d5.2.1
  have m3f : Fin (pmul p (eT p A.1 B.1) (cS p A B)) := pmul_fin c6.2.1 d5.2.1 (by omega)
  have m4 := pd_pmul (p := p) m3f hB.1.2
  have E1 : pd (eS p A.1 B.1) + pd (cS p A B) ≤ 9 ∧ pd (pmul p (eS p A.1 B.1) (cS p A B)) + pd A.1 ≤ 9 ∧ pd (pmul p (pmul p (eS p A.1 B.1) (cS p A B)) A.1) + pd B.2 ≤ 9 := ⟨by omega, by omega, by omega⟩
  have E2 : pd (eT p A.1 B.1) + pd (cS p A B) ≤ 9 ∧ pd (pmul p (eT p A.1 B.1) (cS p A B)) + pd B.1 ≤ 9 ∧ pd (pmul p (pmul p (eT p A.1 B.1) (cS p A B)) B.1) + pd A.2 ≤ 9 := ⟨by omega, by omega, by omega⟩
  obtain ⟨hb1, hb3⟩ := hPA
  obtain ⟨hc1, hc3⟩ := hPB
  refine b_X0_compose_0 r_fl r_ff o ob oc ofl off ?_
  refine ⟨p, _, _, hb1, hc1, hF, ⟨by omega, by omega⟩, by omega, by omega, hA.2.2.1, fun Zn hh => ?_⟩
  obtain ⟨n_h7, n_h9, n_h11, ho⟩ := hh
  replace hb1 := hb1.kept ho (by first | omega | (unfold At2; omega)) (by first | omega | (unfold At2; omega))
  replace hb3 := hb3.kept ho (by first | omega | (unfold At2; omega)) (by first | omega | (unfold At2; omega))
  replace hc1 := hc1.kept ho (by first | omega | (unfold At2; omega)) (by first | omega | (unfold At2; omega))
  replace hc3 := hc3.kept ho (by first | omega | (unfold At2; omega)) (by first | omega | (unfold At2; omega))
  replace hf := hf.kept ho (by first | omega | (unfold At2; omega)) (by first | omega | (unfold At2; omega))
  replace hF := hF.kept ho (by first | omega | (unfold At2; omega)) (by first | omega | (unfold At2; omega)) (by first | omega | (unfold At2; omega))
  have h7 := n_h7
  have h9 := n_h9
  have h11 := n_h11
  replace hO := hO.tr (ho.wk (by first | (intro q; omega) | (unfold At2; intro q; omega)))
  refine ⟨p, _, h7, fun Zn hh => ?_⟩
  obtain ⟨n_h23, ho⟩ := hh
  replace hb1 := hb1.kept ho (by first | omega | (unfold At2; omega)) (by first | omega | (unfold At2; omega))
  replace hb3 := hb3.kept ho (by first | omega | (unfold At2; omega)) (by first | omega | (unfold At2; omega))
  replace hc1 := hc1.kept ho (by first | omega | (unfold At2; omega)) (by first | omega | (unfold At2; omega))
  replace hc3 := hc3.kept ho (by first | omega | (unfold At2; omega)) (by first | omega | (unfold At2; omega))
  replace hf := hf.kept ho (by first | omega | (unfold At2; omega)) (by first | omega | (unfold At2; omega))
  replace h7 := h7.kept ho (by first | omega | (unfold At2; omega)) (by first | omega | (unfold At2; omega))
  replace h9 := h9.kept ho (by first | omega | (unfold At2; omega)) (by first | omega | (unfold At2; omega))
  replace h11 := h11.kept ho (by first | omega | (unfold At2; omega)) (by first | omega | (unfold At2; omega))
  replace hF := hF.kept ho (by first | omega | (unfold At2; omega)) (by first | omega | (unfold At2; omega)) (by first | omega | (unfold At2; omega))
  have h23 := n_h23
  replace hO := hO.tr (ho.wk (by first | (intro q; omega) | (unfold At2; intro q; omega)))
  refine ⟨p, _, h9, fun Zn hh => ?_⟩
  obtain ⟨n_h25, ho⟩ := hh
  replace hb1 := hb1.kept ho (by first | omega | (unfold At2; omega)) (by first | omega | (unfold At2; omega))
  replace hb3 := hb3.kept ho (by first | omega | (unfold At2; omega)) (by first | omega | (unfold At2; omega))
  replace hc1 := hc1.kept ho (by first | omega | (unfold At2; omega)) (by first | omega | (unfold At2; omega))
  replace hc3 := hc3.kept ho (by first | omega | (unfold At2; omega)) (by first | omega | (unfold At2; omega))
  replace hf := hf.kept ho (by first | omega | (unfold At2; omega)) (by first | omega | (unfold At2; omega))
  replace h7 := h7.kept ho (by first | omega | (unfold At2; omega)) (by first | omega | (unfold At2; omega))
  replace h9 := h9.kept ho (by first | omega | (unfold At2; omega)) (by first | omega | (unfold At2; omega))
  replace h11 := h11.kept ho (by first | omega | (unfold At2; omega)) (by first | omega | (unfold At2; omega))
  replace h23 := h23.kept ho (by first | omega | (unfold At2; omega)) (by first | omega | (unfold At2; omega))
  replace hF := hF.kept ho (by first | omega | (unfold At2; omega)) (by first | omega | (unfold At2; omega)) (by first | omega | (unfold At2; omega))
  have h25 := n_h25
  replace hO := hO.tr (ho.wk (by first | (intro q; omega) | (unfold At2; intro q; omega)))
  refine ⟨p, _, h11, fun Zn hh => ?_⟩
  obtain ⟨n_h27, ho⟩ := hh
  replace hb1 := hb1.kept ho (by first | omega | (unfold At2; omega)) (by first | omega | (unfold At2; omega))
  replace hb3 := hb3.kept ho (by first | omega | (unfold At2; omega)) (by first | omega | (unfold At2; omega))
  replace hc1 := hc1.kept ho (by first | omega | (unfold At2; omega)) (by first | omega | (unfold At2; omega))
  replace hc3 := hc3.kept ho (by first | omega | (unfold At2; omega)) (by first | omega | (unfold At2; omega))
  replace hf := hf.kept ho (by first | omega | (unfold At2; omega)) (by first | omega | (unfold At2; omega))
  replace h7 := h7.kept ho (by first | omega | (unfold At2; omega)) (by first | omega | (unfold At2; omega))
  replace h9 := h9.kept ho (by first | omega | (unfold At2; omega)) (by first | omega | (unfold At2; omega))
  replace h11 := h11.kept ho (by first | omega | (unfold At2; omega)) (by first | omega | (unfold At2; omega))
  replace h23 := h23.kept ho (by first | omega | (unfold At2; omega)) (by first | omega | (unfold At2; omega))
  replace h25 := h25.kept ho (by first | omega | (unfold At2; omega)) (by first | omega | (unfold At2; omega))
  replace hF := hF.kept ho (by first | omega | (unfold At2; omega)) (by first | omega | (unfold At2; omega)) (by first | omega | (unfold At2; omega))
  have h27 := n_h27
  replace hO := hO.tr (ho.wk (by first | (intro q; omega) | (unfold At2; intro q; omega)))
  refine ⟨p, _, hb3, fun Zn hh => ?_⟩
  obtain ⟨n_h29, ho⟩ := hh
  replace hb1 := hb1.kept ho (by first | omega | (unfold At2; omega)) (by first | omega | (unfold At2; omega))
  replace hb3 := hb3.kept ho (by first | omega | (unfold At2; omega)) (by first | omega | (unfold At2; omega))
  replace hc1 := hc1.kept ho (by first | omega | (unfold At2; omega)) (by first | omega | (unfold At2; omega))
  replace hc3 := hc3.kept ho (by first | omega | (unfold At2; omega)) (by first | omega | (unfold At2; omega))
  replace hf := hf.kept ho (by first | omega | (unfold At2; omega)) (by first | omega | (unfold At2; omega))
  replace h7 := h7.kept ho (by first | omega | (unfold At2; omega)) (by first | omega | (unfold At2; omega))
  replace h9 := h9.kept ho (by first | omega | (unfold At2; omega)) (by first | omega | (unfold At2; omega))
  replace h11 := h11.kept ho (by first | omega | (unfold At2; omega)) (by first | omega | (unfold At2; omega))
  replace h23 := h23.kept ho (by first | omega | (unfold At2; omega)) (by first | omega | (unfold At2; omega))
  replace h25 := h25.kept ho (by first | omega | (unfold At2; omega)) (by first | omega | (unfold At2; omega))
  replace h27 := h27.kept ho (by first | omega | (unfold At2; omega)) (by first | omega | (unfold At2; omega))
  replace hF := hF.kept ho (by first | omega | (unfold At2; omega)) (by first | omega | (unfold At2; omega)) (by first | omega | (unfold At2; omega))
  have h29 := n_h29
  replace hO := hO.tr (ho.wk (by first | (intro q; omega) | (unfold At2; intro q; omega)))
  refine ⟨p, _, _, by omega, h29, hc3, hF.1, ⟨by omega, by omega⟩, ⟨by omega, by omega⟩, fun Zn hh => ?_⟩
  obtain ⟨n_h29, ho⟩ := hh
  replace hb1 := hb1.kept ho (by first | omega | (unfold At2; omega)) (by first | omega | (unfold At2; omega))
  replace hb3 := hb3.kept ho (by first | omega | (unfold At2; omega)) (by first | omega | (unfold At2; omega))
  replace hc1 := hc1.kept ho (by first | omega | (unfold At2; omega)) (by first | omega | (unfold At2; omega))
  replace hc3 := hc3.kept ho (by first | omega | (unfold At2; omega)) (by first | omega | (unfold At2; omega))
  replace hf := hf.kept ho (by first | omega | (unfold At2; omega)) (by first | omega | (unfold At2; omega))
  replace h7 := h7.kept ho (by first | omega | (unfold At2; omega)) (by first | omega | (unfold At2; omega))
  replace h9 := h9.kept ho (by first | omega | (unfold At2; omega)) (by first | omega | (unfold At2; omega))
  replace h11 := h11.kept ho (by first | omega | (unfold At2; omega)) (by first | omega | (unfold At2; omega))
  replace h23 := h23.kept ho (by first | omega | (unfold At2; omega)) (by first | omega | (unfold At2; omega))
  replace h25 := h25.kept ho (by first | omega | (unfold At2; omega)) (by first | omega | (unfold At2; omega))
  replace h27 := h27.kept ho (by first | omega | (unfold At2; omega)) (by first | omega | (unfold At2; omega))
  replace hF := hF.kept ho (by first | omega | (unfold At2; omega)) (by first | omega | (unfold At2; omega)) (by first | omega | (unfold At2; omega))
  replace h29 := n_h29
  replace hO := hO.tr (ho.wk (by first | (intro q; omega) | (unfold At2; intro q; omega)))
  refine ⟨p, _, _, h23, h29, hF, ⟨by omega, by omega⟩, by omega, by omega, k1, fun Zn hh => ?_⟩
  obtain ⟨n_h7, n_h9, n_h11, ho⟩ := hh
  replace hb1 := hb1.kept ho (by first | omega | (unfold At2; omega)) (by first | omega | (unfold At2; omega))
  replace hb3 := hb3.kept ho (by first | omega | (unfold At2; omega)) (by first | omega | (unfold At2; omega))
  replace hc1 := hc1.kept ho (by first | omega | (unfold At2; omega)) (by first | omega | (unfold At2; omega))
  replace hc3 := hc3.kept ho (by first | omega | (unfold At2; omega)) (by first | omega | (unfold At2; omega))
  replace hf := hf.kept ho (by first | omega | (unfold At2; omega)) (by first | omega | (unfold At2; omega))
  replace h23 := h23.kept ho (by first | omega | (unfold At2; omega)) (by first | omega | (unfold At2; omega))
  replace h25 := h25.kept ho (by first | omega | (unfold At2; omega)) (by first | omega | (unfold At2; omega))
  replace h27 := h27.kept ho (by first | omega | (unfold At2; omega)) (by first | omega | (unfold At2; omega))
  replace h29 := h29.kept ho (by first | omega | (unfold At2; omega)) (by first | omega | (unfold At2; omega))
  replace hF := hF.kept ho (by first | omega | (unfold At2; omega)) (by first | omega | (unfold At2; omega)) (by first | omega | (unfold At2; omega))
  replace h7 := n_h7
  replace h9 := n_h9
  replace h11 := n_h11
  replace hO := hO.tr (ho.wk (by first | (intro q; omega) | (unfold At2; intro q; omega)))
  refine ⟨p, _, _, by omega, by omega, hb3, hc3, hF.1, ⟨by omega, by omega⟩, (by rw [hb3.dg10, hc3.dg10]; exact D0), fun Zn hh => ?_⟩
  obtain ⟨n_h38, ho⟩ := hh
  replace hb1 := hb1.kept ho (by first | omega | (unfold At2; omega)) (by first | omega | (unfold At2; omega))
  replace hb3 := hb3.kept ho (by first | omega | (unfold At2; omega)) (by first | omega | (unfold At2; omega))
  replace hc1 := hc1.kept ho (by first | omega | (unfold At2; omega)) (by first | omega | (unfold At2; omega))
  replace hc3 := hc3.kept ho (by first | omega | (unfold At2; omega)) (by first | omega | (unfold At2; omega))
  replace hf := hf.kept ho (by first | omega | (unfold At2; omega)) (by first | omega | (unfold At2; omega))
  replace h7 := h7.kept ho (by first | omega | (unfold At2; omega)) (by first | omega | (unfold At2; omega))
  replace h9 := h9.kept ho (by first | omega | (unfold At2; omega)) (by first | omega | (unfold At2; omega))
  replace h11 := h11.kept ho (by first | omega | (unfold At2; omega)) (by first | omega | (unfold At2; omega))
  replace h23 := h23.kept ho (by first | omega | (unfold At2; omega)) (by first | omega | (unfold At2; omega))
  replace h25 := h25.kept ho (by first | omega | (unfold At2; omega)) (by first | omega | (unfold At2; omega))
  replace h27 := h27.kept ho (by first | omega | (unfold At2; omega)) (by first | omega | (unfold At2; omega))
  replace h29 := h29.kept ho (by first | omega | (unfold At2; omega)) (by first | omega | (unfold At2; omega))
  replace hF := hF.kept ho (by first | omega | (unfold At2; omega)) (by first | omega | (unfold At2; omega)) (by first | omega | (unfold At2; omega))
  have h38 := n_h38
  replace hO := hO.tr (ho.wk (by first | (intro q; omega) | (unfold At2; intro q; omega)))
  refine ⟨p, _, _, by omega, h38, hf, hF.1, ⟨by omega, by omega⟩, ⟨by omega, by omega⟩, fun Zn hh => ?_⟩
  obtain ⟨n_h38, ho⟩ := hh
  replace hb1 := hb1.kept ho (by first | omega | (unfold At2; omega)) (by first | omega | (unfold At2; omega))
  replace hb3 := hb3.kept ho (by first | omega | (unfold At2; omega)) (by first | omega | (unfold At2; omega))
  replace hc1 := hc1.kept ho (by first | omega | (unfold At2; omega)) (by first | omega | (unfold At2; omega))
  replace hc3 := hc3.kept ho (by first | omega | (unfold At2; omega)) (by first | omega | (unfold At2; omega))
  replace hf := hf.kept ho (by first | omega | (unfold At2; omega)) (by first | omega | (unfold At2; omega))
  replace h7 := h7.kept ho (by first | omega | (unfold At2; omega)) (by first | omega | (unfold At2; omega))
  replace h9 := h9.kept ho (by first | omega | (unfold At2; omega)) (by first | omega | (unfold At2; omega))
  replace h11 := h11.kept ho (by first | omega | (unfold At2; omega)) (by first | omega | (unfold At2; omega))
  replace h23 := h23.kept ho (by first | omega | (unfold At2; omega)) (by first | omega | (unfold At2; omega))
  replace h25 := h25.kept ho (by first | omega | (unfold At2; omega)) (by first | omega | (unfold At2; omega))
  replace h27 := h27.kept ho (by first | omega | (unfold At2; omega)) (by first | omega | (unfold At2; omega))
  replace h29 := h29.kept ho (by first | omega | (unfold At2; omega)) (by first | omega | (unfold At2; omega))
  replace hF := hF.kept ho (by first | omega | (unfold At2; omega)) (by first | omega | (unfold At2; omega)) (by first | omega | (unfold At2; omega))
  replace h38 := n_h38
  replace hO := hO.tr (ho.wk (by first | (intro q; omega) | (unfold At2; intro q; omega)))
  refine ⟨p, _, _, by omega, by omega, h38, h11, hF.1, ⟨by omega, by omega⟩, (by rw [h38.dg10, h11.dg10]; exact D1), fun Zn hh => ?_⟩
  obtain ⟨n_h31, ho⟩ := hh
  replace hb1 := hb1.kept ho (by first | omega | (unfold At2; omega)) (by first | omega | (unfold At2; omega))
  replace hb3 := hb3.kept ho (by first | omega | (unfold At2; omega)) (by first | omega | (unfold At2; omega))
  replace hc1 := hc1.kept ho (by first | omega | (unfold At2; omega)) (by first | omega | (unfold At2; omega))
  replace hc3 := hc3.kept ho (by first | omega | (unfold At2; omega)) (by first | omega | (unfold At2; omega))
  replace hf := hf.kept ho (by first | omega | (unfold At2; omega)) (by first | omega | (unfold At2; omega))
  replace h7 := h7.kept ho (by first | omega | (unfold At2; omega)) (by first | omega | (unfold At2; omega))
  replace h9 := h9.kept ho (by first | omega | (unfold At2; omega)) (by first | omega | (unfold At2; omega))
  replace h11 := h11.kept ho (by first | omega | (unfold At2; omega)) (by first | omega | (unfold At2; omega))
  replace h23 := h23.kept ho (by first | omega | (unfold At2; omega)) (by first | omega | (unfold At2; omega))
  replace h25 := h25.kept ho (by first | omega | (unfold At2; omega)) (by first | omega | (unfold At2; omega))
  replace h27 := h27.kept ho (by first | omega | (unfold At2; omega)) (by first | omega | (unfold At2; omega))
  replace h29 := h29.kept ho (by first | omega | (unfold At2; omega)) (by first | omega | (unfold At2; omega))
  replace h38 := h38.kept ho (by first | omega | (unfold At2; omega)) (by first | omega | (unfold At2; omega))
  replace hF := hF.kept ho (by first | omega | (unfold At2; omega)) (by first | omega | (unfold At2; omega)) (by first | omega | (unfold At2; omega))
  have h31 := n_h31
  replace hO := hO.tr (ho.wk (by first | (intro q; omega) | (unfold At2; intro q; omega)))
  refine ⟨p, _, h31, fun Zn hh => ?_⟩
  obtain ⟨n_h38, ho⟩ := hh
  replace hb1 := hb1.kept ho (by first | omega | (unfold At2; omega)) (by first | omega | (unfold At2; omega))
  replace hb3 := hb3.kept ho (by first | omega | (unfold At2; omega)) (by first | omega | (unfold At2; omega))
  replace hc1 := hc1.kept ho (by first | omega | (unfold At2; omega)) (by first | omega | (unfold At2; omega))
  replace hc3 := hc3.kept ho (by first | omega | (unfold At2; omega)) (by first | omega | (unfold At2; omega))
  replace hf := hf.kept ho (by first | omega | (unfold At2; omega)) (by first | omega | (unfold At2; omega))
  replace h7 := h7.kept ho (by first | omega | (unfold At2; omega)) (by first | omega | (unfold At2; omega))
  replace h9 := h9.kept ho (by first | omega | (unfold At2; omega)) (by first | omega | (unfold At2; omega))
  replace h11 := h11.kept ho (by first | omega | (unfold At2; omega)) (by first | omega | (unfold At2; omega))
  replace h23 := h23.kept ho (by first | omega | (unfold At2; omega)) (by first | omega | (unfold At2; omega))
  replace h25 := h25.kept ho (by first | omega | (unfold At2; omega)) (by first | omega | (unfold At2; omega))
  replace h27 := h27.kept ho (by first | omega | (unfold At2; omega)) (by first | omega | (unfold At2; omega))
  replace h29 := h29.kept ho (by first | omega | (unfold At2; omega)) (by first | omega | (unfold At2; omega))
  replace h31 := h31.kept ho (by first | omega | (unfold At2; omega)) (by first | omega | (unfold At2; omega))
  replace hF := hF.kept ho (by first | omega | (unfold At2; omega)) (by first | omega | (unfold At2; omega)) (by first | omega | (unfold At2; omega))
  replace h38 := n_h38
  replace hO := hO.tr (ho.wk (by first | (intro q; omega) | (unfold At2; intro q; omega)))
  refine ⟨p, _, _, _, _, _, h25, h9, hb1, hc3, h38, hF, ⟨by omega, by omega⟩, by omega, ⟨by omega, by omega⟩, by omega, by omega, E1.1, E1.2.1, E1.2.2, fun Zn hh => ?_⟩
  obtain ⟨n_h38, ho⟩ := hh
  replace hb1 := hb1.kept ho (by first | omega | (unfold At2; omega)) (by first | omega | (unfold At2; omega))
  replace hb3 := hb3.kept ho (by first | omega | (unfold At2; omega)) (by first | omega | (unfold At2; omega))
  replace hc1 := hc1.kept ho (by first | omega | (unfold At2; omega)) (by first | omega | (unfold At2; omega))
  replace hc3 := hc3.kept ho (by first | omega | (unfold At2; omega)) (by first | omega | (unfold At2; omega))
  replace hf := hf.kept ho (by first | omega | (unfold At2; omega)) (by first | omega | (unfold At2; omega))
  replace h7 := h7.kept ho (by first | omega | (unfold At2; omega)) (by first | omega | (unfold At2; omega))
  replace h9 := h9.kept ho (by first | omega | (unfold At2; omega)) (by first | omega | (unfold At2; omega))
  replace h11 := h11.kept ho (by first | omega | (unfold At2; omega)) (by first | omega | (unfold At2; omega))
  replace h23 := h23.kept ho (by first | omega | (unfold At2; omega)) (by first | omega | (unfold At2; omega))
  replace h25 := h25.kept ho (by first | omega | (unfold At2; omega)) (by first | omega | (unfold At2; omega))
  replace h27 := h27.kept ho (by first | omega | (unfold At2; omega)) (by first | omega | (unfold At2; omega))
  replace hF := hF.kept ho (by first | omega | (unfold At2; omega)) (by first | omega | (unfold At2; omega)) (by first | omega | (unfold At2; omega))
  replace h38 := n_h38
  replace hO := hO.tr (ho.wk (by first | (intro q; omega) | (unfold At2; intro q; omega)))
  refine ⟨p, _, _, _, _, _, h27, h9, hc1, hb3, h38, hF, ⟨by omega, by omega⟩, by omega, ⟨by omega, by omega⟩, by omega, by omega, E2.1, E2.2.1, E2.2.2, fun Zn hh => ?_⟩
  obtain ⟨n_h38, ho⟩ := hh
  replace hb1 := hb1.kept ho (by first | omega | (unfold At2; omega)) (by first | omega | (unfold At2; omega))
  replace hb3 := hb3.kept ho (by first | omega | (unfold At2; omega)) (by first | omega | (unfold At2; omega))
  replace hc1 := hc1.kept ho (by first | omega | (unfold At2; omega)) (by first | omega | (unfold At2; omega))
  replace hc3 := hc3.kept ho (by first | omega | (unfold At2; omega)) (by first | omega | (unfold At2; omega))
  replace hf := hf.kept ho (by first | omega | (unfold At2; omega)) (by first | omega | (unfold At2; omega))
  replace h7 := h7.kept ho (by first | omega | (unfold At2; omega)) (by first | omega | (unfold At2; omega))
  replace h9 := h9.kept ho (by first | omega | (unfold At2; omega)) (by first | omega | (unfold At2; omega))
  replace h11 := h11.kept ho (by first | omega | (unfold At2; omega)) (by first | omega | (unfold At2; omega))
  replace h23 := h23.kept ho (by first | omega | (unfold At2; omega)) (by first | omega | (unfold At2; omega))
  replace h25 := h25.kept ho (by first | omega | (unfold At2; omega)) (by first | omega | (unfold At2; omega))
  replace h27 := h27.kept ho (by first | omega | (unfold At2; omega)) (by first | omega | (unfold At2; omega))
  replace hF := hF.kept ho (by first | omega | (unfold At2; omega)) (by first | omega | (unfold At2; omega)) (by first | omega | (unfold At2; omega))
  replace h38 := n_h38
  replace hO := hO.tr (ho.wk (by first | (intro q; omega) | (unfold At2; intro q; omega)))
  refine ⟨p, _, _, by omega, by omega, by omega, h38, h7, hF, ⟨by omega, by omega⟩, k2, fun Zn hh => ?_⟩
  obtain ⟨n_h38, n_h33, ho⟩ := hh
  replace hb1 := hb1.kept ho (by first | omega | (unfold At2; omega)) (by first | omega | (unfold At2; omega))
  replace hb3 := hb3.kept ho (by first | omega | (unfold At2; omega)) (by first | omega | (unfold At2; omega))
  replace hc1 := hc1.kept ho (by first | omega | (unfold At2; omega)) (by first | omega | (unfold At2; omega))
  replace hc3 := hc3.kept ho (by first | omega | (unfold At2; omega)) (by first | omega | (unfold At2; omega))
  replace hf := hf.kept ho (by first | omega | (unfold At2; omega)) (by first | omega | (unfold At2; omega))
  replace h7 := h7.kept ho (by first | omega | (unfold At2; omega)) (by first | omega | (unfold At2; omega))
  replace h9 := h9.kept ho (by first | omega | (unfold At2; omega)) (by first | omega | (unfold At2; omega))
  replace h11 := h11.kept ho (by first | omega | (unfold At2; omega)) (by first | omega | (unfold At2; omega))
  replace h23 := h23.kept ho (by first | omega | (unfold At2; omega)) (by first | omega | (unfold At2; omega))
  replace h25 := h25.kept ho (by first | omega | (unfold At2; omega)) (by first | omega | (unfold At2; omega))
  replace h27 := h27.kept ho (by first | omega | (unfold At2; omega)) (by first | omega | (unfold At2; omega))
  replace hF := hF.kept ho (by first | omega | (unfold At2; omega)) (by first | omega | (unfold At2; omega)) (by first | omega | (unfold At2; omega))
  replace h38 := n_h38
  have h33 := n_h33
  replace hO := hO.tr (ho.wk (by first | (intro q; omega) | (unfold At2; intro q; omega)))
  refine ⟨p, _, h33, fun Zn hh => ?_⟩
  obtain ⟨n_h38, ho⟩ := hh
  replace hb1 := hb1.kept ho (by first | omega | (unfold At2; omega)) (by first | omega | (unfold At2; omega))
  replace hb3 := hb3.kept ho (by first | omega | (unfold At2; omega)) (by first | omega | (unfold At2; omega))
  replace hc1 := hc1.kept ho (by first | omega | (unfold At2; omega)) (by first | omega | (unfold At2; omega))
  replace hc3 := hc3.kept ho (by first | omega | (unfold At2; omega)) (by first | omega | (unfold At2; omega))
  replace hf := hf.kept ho (by first | omega | (unfold At2; omega)) (by first | omega | (unfold At2; omega))
  replace h7 := h7.kept ho (by first | omega | (unfold At2; omega)) (by first | omega | (unfold At2; omega))
  replace h9 := h9.kept ho (by first | omega | (unfold At2; omega)) (by first | omega | (unfold At2; omega))
  replace h11 := h11.kept ho (by first | omega | (unfold At2; omega)) (by first | omega | (unfold At2; omega))
  replace h23 := h23.kept ho (by first | omega | (unfold At2; omega)) (by first | omega | (unfold At2; omega))
  replace h25 := h25.kept ho (by first | omega | (unfold At2; omega)) (by first | omega | (unfold At2; omega))
  replace h27 := h27.kept ho (by first | omega | (unfold At2; omega)) (by first | omega | (unfold At2; omega))
  replace h33 := h33.kept ho (by first | omega | (unfold At2; omega)) (by first | omega | (unfold At2; omega))
  replace hF := hF.kept ho (by first | omega | (unfold At2; omega)) (by first | omega | (unfold At2; omega)) (by first | omega | (unfold At2; omega))
  replace h38 := n_h38
  replace hO := hO.tr (ho.wk (by first | (intro q; omega) | (unfold At2; intro q; omega)))
  refine ⟨p, _, _, by omega, by omega, hb1, hc1, hF.1, ⟨by omega, by omega⟩, (by rw [hb1.dg10, hc1.dg10]; exact D2), fun Zn hh => ?_⟩
  obtain ⟨n_h36, ho⟩ := hh
  replace hb1 := hb1.kept ho (by first | omega | (unfold At2; omega)) (by first | omega | (unfold At2; omega))
  replace hb3 := hb3.kept ho (by first | omega | (unfold At2; omega)) (by first | omega | (unfold At2; omega))
  replace hc1 := hc1.kept ho (by first | omega | (unfold At2; omega)) (by first | omega | (unfold At2; omega))
  replace hc3 := hc3.kept ho (by first | omega | (unfold At2; omega)) (by first | omega | (unfold At2; omega))
  replace hf := hf.kept ho (by first | omega | (unfold At2; omega)) (by first | omega | (unfold At2; omega))
  replace h7 := h7.kept ho (by first | omega | (unfold At2; omega)) (by first | omega | (unfold At2; omega))
  replace h9 := h9.kept ho (by first | omega | (unfold At2; omega)) (by first | omega | (unfold At2; omega))
  replace h11 := h11.kept ho (by first | omega | (unfold At2; omega)) (by first | omega | (unfold At2; omega))
  replace h23 := h23.kept ho (by first | omega | (unfold At2; omega)) (by first | omega | (unfold At2; omega))
  replace h25 := h25.kept ho (by first | omega | (unfold At2; omega)) (by first | omega | (unfold At2; omega))
  replace h27 := h27.kept ho (by first | omega | (unfold At2; omega)) (by first | omega | (unfold At2; omega))
  replace h38 := h38.kept ho (by first | omega | (unfold At2; omega)) (by first | omega | (unfold At2; omega))
  replace h33 := h33.kept ho (by first | omega | (unfold At2; omega)) (by first | omega | (unfold At2; omega))
  replace hF := hF.kept ho (by first | omega | (unfold At2; omega)) (by first | omega | (unfold At2; omega)) (by first | omega | (unfold At2; omega))
  have h36 := n_h36
  replace hO := hO.tr (ho.wk (by first | (intro q; omega) | (unfold At2; intro q; omega)))
  refine b_X0_compose_282 r_fl o ofl ⟨⟨by omega, by omega⟩, fun c9 => by omega, fun _ => ?_⟩
  refine ⟨p, _, _, by omega, by omega, by omega, h36, h7, hF, ⟨by omega, by omega⟩, k2, fun Zn hh => ?_⟩
  obtain ⟨n_h36, n_h33, ho⟩ := hh
  replace hb1 := hb1.kept ho (by first | omega | (unfold At2; omega)) (by first | omega | (unfold At2; omega))
  replace hb3 := hb3.kept ho (by first | omega | (unfold At2; omega)) (by first | omega | (unfold At2; omega))
  replace hc1 := hc1.kept ho (by first | omega | (unfold At2; omega)) (by first | omega | (unfold At2; omega))
  replace hc3 := hc3.kept ho (by first | omega | (unfold At2; omega)) (by first | omega | (unfold At2; omega))
  replace hf := hf.kept ho (by first | omega | (unfold At2; omega)) (by first | omega | (unfold At2; omega))
  replace h7 := h7.kept ho (by first | omega | (unfold At2; omega)) (by first | omega | (unfold At2; omega))
  replace h9 := h9.kept ho (by first | omega | (unfold At2; omega)) (by first | omega | (unfold At2; omega))
  replace h11 := h11.kept ho (by first | omega | (unfold At2; omega)) (by first | omega | (unfold At2; omega))
  replace h23 := h23.kept ho (by first | omega | (unfold At2; omega)) (by first | omega | (unfold At2; omega))
  replace h25 := h25.kept ho (by first | omega | (unfold At2; omega)) (by first | omega | (unfold At2; omega))
  replace h27 := h27.kept ho (by first | omega | (unfold At2; omega)) (by first | omega | (unfold At2; omega))
  replace h38 := h38.kept ho (by first | omega | (unfold At2; omega)) (by first | omega | (unfold At2; omega))
  replace hF := hF.kept ho (by first | omega | (unfold At2; omega)) (by first | omega | (unfold At2; omega)) (by first | omega | (unfold At2; omega))
  replace h36 := n_h36
  replace h33 := n_h33
  replace hO := hO.tr (ho.wk (by first | (intro q; omega) | (unfold At2; intro q; omega)))
  refine ⟨p, _, h33, fun Zn hh => ?_⟩
  obtain ⟨n_h36, ho⟩ := hh
  replace hb1 := hb1.kept ho (by first | omega | (unfold At2; omega)) (by first | omega | (unfold At2; omega))
  replace hb3 := hb3.kept ho (by first | omega | (unfold At2; omega)) (by first | omega | (unfold At2; omega))
  replace hc1 := hc1.kept ho (by first | omega | (unfold At2; omega)) (by first | omega | (unfold At2; omega))
  replace hc3 := hc3.kept ho (by first | omega | (unfold At2; omega)) (by first | omega | (unfold At2; omega))
  replace hf := hf.kept ho (by first | omega | (unfold At2; omega)) (by first | omega | (unfold At2; omega))
  replace h7 := h7.kept ho (by first | omega | (unfold At2; omega)) (by first | omega | (unfold At2; omega))
  replace h9 := h9.kept ho (by first | omega | (unfold At2; omega)) (by first | omega | (unfold At2; omega))
  replace h11 := h11.kept ho (by first | omega | (unfold At2; omega)) (by first | omega | (unfold At2; omega))
  replace h23 := h23.kept ho (by first | omega | (unfold At2; omega)) (by first | omega | (unfold At2; omega))
  replace h25 := h25.kept ho (by first | omega | (unfold At2; omega)) (by first | omega | (unfold At2; omega))
  replace h27 := h27.kept ho (by first | omega | (unfold At2; omega)) (by first | omega | (unfold At2; omega))
  replace h38 := h38.kept ho (by first | omega | (unfold At2; omega)) (by first | omega | (unfold At2; omega))
  replace h33 := h33.kept ho (by first | omega | (unfold At2; omega)) (by first | omega | (unfold At2; omega))
  replace hF := hF.kept ho (by first | omega | (unfold At2; omega)) (by first | omega | (unfold At2; omega)) (by first | omega | (unfold At2; omega))
  replace h36 := n_h36
  replace hO := hO.tr (ho.wk (by first | (intro q; omega) | (unfold At2; intro q; omega)))
  refine b_X0_compose_282 r_fl o ofl ⟨⟨by omega, by omega⟩, fun c9 => by omega, fun _ => ?_⟩
  refine ⟨p, _, _, by omega, by omega, by omega, h36, h7, hF, ⟨by omega, by omega⟩, k2, fun Zn hh => ?_⟩
  obtain ⟨n_h36, n_h33, ho⟩ := hh
  replace hb1 := hb1.kept ho (by first | omega | (unfold At2; omega)) (by first | omega | (unfold At2; omega))
  replace hb3 := hb3.kept ho (by first | omega | (unfold At2; omega)) (by first | omega | (unfold At2; omega))
  replace hc1 := hc1.kept ho (by first | omega | (unfold At2; omega)) (by first | omega | (unfold At2; omega))
  replace hc3 := hc3.kept ho (by first | omega | (unfold At2; omega)) (by first | omega | (unfold At2; omega))
  replace hf := hf.kept ho (by first | omega | (unfold At2; omega)) (by first | omega | (unfold At2; omega))
  replace h7 := h7.kept ho (by first | omega | (unfold At2; omega)) (by first | omega | (unfold At2; omega))
  replace h9 := h9.kept ho (by first | omega | (unfold At2; omega)) (by first | omega | (unfold At2; omega))
  replace h11 := h11.kept ho (by first | omega | (unfold At2; omega)) (by first | omega | (unfold At2; omega))
  replace h23 := h23.kept ho (by first | omega | (unfold At2; omega)) (by first | omega | (unfold At2; omega))
  replace h25 := h25.kept ho (by first | omega | (unfold At2; omega)) (by first | omega | (unfold At2; omega))
  replace h27 := h27.kept ho (by first | omega | (unfold At2; omega)) (by first | omega | (unfold At2; omega))
  replace h38 := h38.kept ho (by first | omega | (unfold At2; omega)) (by first | omega | (unfold At2; omega))
  replace hF := hF.kept ho (by first | omega | (unfold At2; omega)) (by first | omega | (unfold At2; omega)) (by first | omega | (unfold At2; omega))
  replace h36 := n_h36
  replace h33 := n_h33
  replace hO := hO.tr (ho.wk (by first | (intro q; omega) | (unfold At2; intro q; omega)))
  refine ⟨p, _, h33, fun Zn hh => ?_⟩
  obtain ⟨n_h36, ho⟩ := hh
  replace hb1 := hb1.kept ho (by first | omega | (unfold At2; omega)) (by first | omega | (unfold At2; omega))
  replace hb3 := hb3.kept ho (by first | omega | (unfold At2; omega)) (by first | omega | (unfold At2; omega))
  replace hc1 := hc1.kept ho (by first | omega | (unfold At2; omega)) (by first | omega | (unfold At2; omega))
  replace hc3 := hc3.kept ho (by first | omega | (unfold At2; omega)) (by first | omega | (unfold At2; omega))
  replace hf := hf.kept ho (by first | omega | (unfold At2; omega)) (by first | omega | (unfold At2; omega))
  replace h7 := h7.kept ho (by first | omega | (unfold At2; omega)) (by first | omega | (unfold At2; omega))
  replace h9 := h9.kept ho (by first | omega | (unfold At2; omega)) (by first | omega | (unfold At2; omega))
  replace h11 := h11.kept ho (by first | omega | (unfold At2; omega)) (by first | omega | (unfold At2; omega))
  replace h23 := h23.kept ho (by first | omega | (unfold At2; omega)) (by first | omega | (unfold At2; omega))
  replace h25 := h25.kept ho (by first | omega | (unfold At2; omega)) (by first | omega | (unfold At2; omega))
  replace h27 := h27.kept ho (by first | omega | (unfold At2; omega)) (by first | omega | (unfold At2; omega))
  replace h38 := h38.kept ho (by first | omega | (unfold At2; omega)) (by first | omega | (unfold At2; omega))
  replace h33 := h33.kept ho (by first | omega | (unfold At2; omega)) (by first | omega | (unfold At2; omega))
  replace hF := hF.kept ho (by first | omega | (unfold At2; omega)) (by first | omega | (unfold At2; omega)) (by first | omega | (unfold At2; omega))
  replace h36 := n_h36
  replace hO := hO.tr (ho.wk (by first | (intro q; omega) | (unfold At2; intro q; omega)))
  refine b_X0_compose_282 r_fl o ofl ⟨⟨by omega, by omega⟩, fun _ => ?_, fun c9 => by omega⟩
  refine ⟨p, _, _, by omega, by omega, by omega, h38, h36, hF, ⟨by omega, by omega⟩, k3, fun Zn hh => ?_⟩
  obtain ⟨n_h38, n_h33, ho⟩ := hh
  replace hb1 := hb1.kept ho (by first | omega | (unfold At2; omega)) (by first | omega | (unfold At2; omega))
  replace hb3 := hb3.kept ho (by first | omega | (unfold At2; omega)) (by first | omega | (unfold At2; omega))
  replace hc1 := hc1.kept ho (by first | omega | (unfold At2; omega)) (by first | omega | (unfold At2; omega))
  replace hc3 := hc3.kept ho (by first | omega | (unfold At2; omega)) (by first | omega | (unfold At2; omega))
  replace hf := hf.kept ho (by first | omega | (unfold At2; omega)) (by first | omega | (unfold At2; omega))
  replace h7 := h7.kept ho (by first | omega | (unfold At2; omega)) (by first | omega | (unfold At2; omega))
  replace h9 := h9.kept ho (by first | omega | (unfold At2; omega)) (by first | omega | (unfold At2; omega))
  replace h11 := h11.kept ho (by first | omega | (unfold At2; omega)) (by first | omega | (unfold At2; omega))
  replace h23 := h23.kept ho (by first | omega | (unfold At2; omega)) (by first | omega | (unfold At2; omega))
  replace h25 := h25.kept ho (by first | omega | (unfold At2; omega)) (by first | omega | (unfold At2; omega))
  replace h27 := h27.kept ho (by first | omega | (unfold At2; omega)) (by first | omega | (unfold At2; omega))
  replace h36 := h36.kept ho (by first | omega | (unfold At2; omega)) (by first | omega | (unfold At2; omega))
  replace hF := hF.kept ho (by first | omega | (unfold At2; omega)) (by first | omega | (unfold At2; omega)) (by first | omega | (unfold At2; omega))
  replace h38 := n_h38
  replace h33 := n_h33
  replace hO := hO.tr (ho.wk (by first | (intro q; omega) | (unfold At2; intro q; omega)))
  exact h _ ⟨⟨h36, h38⟩, hO⟩
