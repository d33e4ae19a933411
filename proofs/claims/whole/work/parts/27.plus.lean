/-! ===== Classes: the sum, reduced ===== -/
theorem pd_padd_eq {p : Int} (hp : IsP p) {f g : Nat → Int} (if_ : InP p f) (ff : Fin f) (ig : InP p g) (fg : Fin g) (h : pd f ≠ pd g) : pd (padd p f g (-1)) = max (pd f) (pd g) := by
  have hp0 := hp.rg
  have f1 := pd_ge f
  have g1 := pd_ge g
  have f2 := pd_lt f
  have g2 := pd_lt g
  by_cases c : pd f < pd g
  · have hl := pd_lead ig (show 0 ≤ pd g by omega)
    have := pd_eq (f := padd p f g (-1)) (m := (pd g).toNat) (by omega) (by
      unfold padd
      rw [pd_hi ff _ (by omega)]
      intro e
      have e2 : (0 + -1 * g (pd g).toNat) = -(g (pd g).toNat) := by omega
      rw [e2] at e
      have e3 := Int.emod_emod_of_dvd
      have d : p ∣ g (pd g).toNat := by
        have := Int.dvd_of_emod_eq_zero e
        exact (Int.dvd_neg).mp this
      have := Int.le_of_dvd hl.1 d
      omega) (fun i hi => by unfold padd; rw [pd_hi ff i (by omega), pd_hi fg i (by omega)]; simp)
    omega
  · have hl := pd_lead if_ (show 0 ≤ pd f by omega)
    have := pd_eq (f := padd p f g (-1)) (m := (pd f).toNat) (by omega) (by
      unfold padd
      rw [pd_hi fg _ (by omega), Int.mul_zero, Int.add_zero, em_id ⟨by omega, hl.2⟩]
      omega) (fun i hi => by unfold padd; rw [pd_hi ff i (by omega), pd_hi fg i (by omega)]; simp)
    omega
/-- on the way: U at most twice as long -/
def RQ (p g : Int) (a : UV) : Prop := (InP p a.1 ∧ Fin a.1) ∧ (InP p a.2 ∧ Fin a.2) ∧ 0 ≤ pd a.1 ∧ pd a.1 ≤ 2 * g ∧ pd a.2 < pd a.1
theorem ccomp_rq {p g : Int} {F : Nat → Int} {a b : UV} (hC : CF p g F) (ha : RP p g a) (hb : RP p g b) : RQ p g (ccomp p F a b) := by
  obtain ⟨u1, u2, u3, -, -⟩ := cU3_ok hC ha hb
  obtain ⟨v1, v2⟩ := cV3_ok hC ha hb
  exact ⟨u1, v1, u2, u3, v2⟩
theorem rstep_ok {p g : Int} {F : Nat → Int} {a : UV} (hC : CF p g F) (ha : RQ p g a) (hgt : g < pd a.1) : (InP p (padd p F (pmul p a.2 a.2) (-1)) ∧ Fin (padd p F (pmul p a.2 a.2) (-1))) ∧ pd a.2 + pd a.2 ≤ 9 ∧ RQ p g (rstep p F a) ∧ pd (rstep p F a).1 ≤ g := by
  obtain ⟨hp, f1, f2, f3, hg⟩ := hC
  obtain ⟨u, v, a3, a4, a5⟩ := ha
  have hp0 := hp.rg
  have v1 := pd_ge a.2
  have mf : Fin (pmul p a.2 a.2) := pmul_fin v.2 v.2 (by omega)
  have hN : pd (padd p F (pmul p a.2 a.2) (-1)) = max (2 * g + 1) (if pd a.2 < 0 then -1 else 2 * pd a.2) := by
    by_cases c : pd a.2 < 0
    · have m0 := pd_pmul0 (p := p) (g := a.2) v.2 c
      have m1 := pd_ge (pmul p a.2 a.2)
      rw [pd_padd_eq hp f1 f2 (pmul_in (by omega)) mf (by omega), if_pos c]
      omega
    · have m0 := pd_pmul_eq hp v.2 v.2 v.1 v.1 (by omega) (by omega) (by omega)
      rw [pd_padd_eq hp f1 f2 (pmul_in (by omega)) mf (by omega), if_neg c]
      omega
  have nI : InP p (padd p F (pmul p a.2 a.2) (-1)) := padd_in (by omega)
  have hQ := pd_dvQ_eq hp nI u.1 a3 (by rw [hN]; split <;> omega)
  have hR := pd_dvR_lt hp (f := pscl p a.2 (-1)) (pscl_fin v.2) (g := dvQ p (padd p F (pmul p a.2 a.2) (-1)) a.1) (dvQ_in (by omega)) (by rw [hQ, hN]; split <;> omega)
  have hq0 : 0 ≤ pd (dvQ p (padd p F (pmul p a.2 a.2) (-1)) a.1) := by rw [hQ, hN]; split <;> omega
  have hqg : pd (dvQ p (padd p F (pmul p a.2 a.2) (-1)) a.1) ≤ g := by rw [hQ, hN]; split <;> omega
  exact ⟨⟨nI, padd_fin f2 mf⟩, by omega, ⟨⟨dvQ_in (by omega), dvq_fin a3⟩, ⟨dvR_in (by omega) (pscl_in (by omega)), dvr_fin (pscl_fin v.2) hq0⟩, hq0, by show pd (dvQ p _ a.1) ≤ _; omega, hR⟩, hqg⟩
theorem rdn_stop {p g : Int} {F : Nat → Int} {a : UV} (h : pd a.1 ≤ g) : ∀ m, rdn p F g m a = a
  | 0 => rfl
  | m + 1 => by unfold rdn; rw [if_pos h]
theorem rdn_ok {p g : Int} {F : Nat → Int} {a : UV} (hC : CF p g F) (ha : RQ p g a) (m : Nat) : RQ p g (rdn p F g (m + 1) a) ∧ pd (rdn p F g (m + 1) a).1 ≤ g := by
  by_cases c : pd a.1 ≤ g
  · rw [rdn_stop c]; exact ⟨ha, c⟩
  · obtain ⟨-, -, h1, h2⟩ := rstep_ok hC ha (by omega)
    unfold rdn
    rw [if_neg c, rdn_stop h2]
    exact ⟨h1, h2⟩
theorem mnc_ok {p g : Int} (hp : IsP p) {a : UV} (ha : RQ p g a) (h : pd a.1 ≤ g) : RP p g (mnc p a) := by
  obtain ⟨u, v, a3, a4, a5⟩ := ha
  have hp0 := hp.rg
  have hl := pd_lead u.1 a3
  have hd := pd_pscl hp u.1 u.2 (inv_rg hp hl)
  refine ⟨⟨pscl_in (by omega), pscl_fin u.2⟩, v, ?_, ?_, ?_, ?_⟩
  · show 0 ≤ pd (pscl p a.1 _); omega
  · show pd (pscl p a.1 _) ≤ g; omega
  · show pd a.2 < pd (pscl p a.1 _); omega
  · show pscl p a.1 _ (pd (pscl p a.1 _)).toNat = 1
    rw [hd]
    exact inv_mul hp hl
theorem cplus_ok {p g : Int} {F : Nat → Int} {a b : UV} (hC : CF p g F) (ha : RP p g a) (hb : RP p g b) : RP p g (cplus p F g a b) := by
  obtain ⟨h1, h2⟩ := rdn_ok hC (ccomp_rq hC ha hb) 3
  exact mnc_ok hC.1 h1 h2
theorem dX0_plus_0 : decode cX0_plus 0 = .ok (.aload_n 0, 1) := by decide +kernel
theorem dX0_plus_1 : decode cX0_plus 1 = .ok (.aload_n 1, 1) := by decide +kernel
theorem dX0_plus_2 : decode cX0_plus 2 = .ok (.aload_n 2, 1) := by decide +kernel
theorem dX0_plus_3 : decode cX0_plus 3 = .ok (.invokevirtual 126, 3) := by decide +kernel
theorem dX0_plus_6 : decode cX0_plus 6 = .ok (.iconst 0, 1) := by decide +kernel
theorem dX0_plus_7 : decode cX0_plus 7 = .ok (.istore 4, 2) := by decide +kernel
theorem dX0_plus_9 : decode cX0_plus 9 = .ok (.iload 4, 2) := by decide +kernel
theorem dX0_plus_11 : decode cX0_plus 11 = .ok (.iconst 4, 1) := by decide +kernel
theorem dX0_plus_12 : decode cX0_plus 12 = .ok (.if_icmp .ge 154, 3) := by decide +kernel
theorem dX0_plus_15 : decode cX0_plus 15 = .ok (.aload_n 0, 1) := by decide +kernel
theorem dX0_plus_16 : decode cX0_plus 16 = .ok (.getfield 57, 3) := by decide +kernel
theorem dX0_plus_19 : decode cX0_plus 19 = .ok (.getfield 130, 3) := by decide +kernel
theorem dX0_plus_22 : decode cX0_plus 22 = .ok (.getfield 133, 3) := by decide +kernel
theorem dX0_plus_25 : decode cX0_plus 25 = .ok (.aload_n 0, 1) := by decide +kernel
theorem dX0_plus_26 : decode cX0_plus 26 = .ok (.getfield 25, 3) := by decide +kernel
theorem dX0_plus_29 : decode cX0_plus 29 = .ok (.if_icmp .le 137, 3) := by decide +kernel
theorem dX0_plus_32 : decode cX0_plus 32 = .ok (.aload_n 0, 1) := by decide +kernel
theorem dX0_plus_33 : decode cX0_plus 33 = .ok (.getfield 45, 3) := by decide +kernel
theorem dX0_plus_36 : decode cX0_plus 36 = .ok (.aload_n 0, 1) := by decide +kernel
theorem dX0_plus_37 : decode cX0_plus 37 = .ok (.getfield 12, 3) := by decide +kernel
theorem dX0_plus_40 : decode cX0_plus 40 = .ok (.aload_n 0, 1) := by decide +kernel
theorem dX0_plus_41 : decode cX0_plus 41 = .ok (.getfield 57, 3) := by decide +kernel
theorem dX0_plus_44 : decode cX0_plus 44 = .ok (.getfield 111, 3) := by decide +kernel
theorem dX0_plus_47 : decode cX0_plus 47 = .ok (.aload_n 0, 1) := by decide +kernel
theorem dX0_plus_48 : decode cX0_plus 48 = .ok (.getfield 57, 3) := by decide +kernel
theorem dX0_plus_51 : decode cX0_plus 51 = .ok (.getfield 111, 3) := by decide +kernel
theorem dX0_plus_54 : decode cX0_plus 54 = .ok (.invokevirtual 136, 3) := by decide +kernel
theorem dX0_plus_57 : decode cX0_plus 57 = .ok (.aload_n 0, 1) := by decide +kernel
theorem dX0_plus_58 : decode cX0_plus 58 = .ok (.getfield 48, 3) := by decide +kernel
theorem dX0_plus_61 : decode cX0_plus 61 = .ok (.aload_n 0, 1) := by decide +kernel
theorem dX0_plus_62 : decode cX0_plus 62 = .ok (.getfield 21, 3) := by decide +kernel
theorem dX0_plus_65 : decode cX0_plus 65 = .ok (.invokevirtual 139, 3) := by decide +kernel
theorem dX0_plus_68 : decode cX0_plus 68 = .ok (.aload_n 0, 1) := by decide +kernel
theorem dX0_plus_69 : decode cX0_plus 69 = .ok (.getfield 48, 3) := by decide +kernel
theorem dX0_plus_72 : decode cX0_plus 72 = .ok (.aload_n 0, 1) := by decide +kernel
theorem dX0_plus_73 : decode cX0_plus 73 = .ok (.getfield 12, 3) := by decide +kernel
theorem dX0_plus_76 : decode cX0_plus 76 = .ok (.aload_n 0, 1) := by decide +kernel
theorem dX0_plus_77 : decode cX0_plus 77 = .ok (.getfield 45, 3) := by decide +kernel
theorem dX0_plus_80 : decode cX0_plus 80 = .ok (.iconst (-1), 1) := by decide +kernel
theorem dX0_plus_81 : decode cX0_plus 81 = .ok (.invokevirtual 142, 3) := by decide +kernel
theorem dX0_plus_84 : decode cX0_plus 84 = .ok (.aload_n 0, 1) := by decide +kernel
theorem dX0_plus_85 : decode cX0_plus 85 = .ok (.getfield 48, 3) := by decide +kernel
theorem dX0_plus_88 : decode cX0_plus 88 = .ok (.aload_n 0, 1) := by decide +kernel
theorem dX0_plus_89 : decode cX0_plus 89 = .ok (.getfield 12, 3) := by decide +kernel
theorem dX0_plus_92 : decode cX0_plus 92 = .ok (.aload_n 0, 1) := by decide +kernel
theorem dX0_plus_93 : decode cX0_plus 93 = .ok (.getfield 57, 3) := by decide +kernel
theorem dX0_plus_96 : decode cX0_plus 96 = .ok (.getfield 130, 3) := by decide +kernel
theorem dX0_plus_99 : decode cX0_plus 99 = .ok (.aload_n 0, 1) := by decide +kernel
theorem dX0_plus_100 : decode cX0_plus 100 = .ok (.getfield 51, 3) := by decide +kernel
theorem dX0_plus_103 : decode cX0_plus 103 = .ok (.invokevirtual 146, 3) := by decide +kernel
theorem dX0_plus_106 : decode cX0_plus 106 = .ok (.aload_n 0, 1) := by decide +kernel
theorem dX0_plus_107 : decode cX0_plus 107 = .ok (.getfield 57, 3) := by decide +kernel
theorem dX0_plus_110 : decode cX0_plus 110 = .ok (.getfield 130, 3) := by decide +kernel
theorem dX0_plus_113 : decode cX0_plus 113 = .ok (.aload_n 0, 1) := by decide +kernel
theorem dX0_plus_114 : decode cX0_plus 114 = .ok (.getfield 51, 3) := by decide +kernel
theorem dX0_plus_117 : decode cX0_plus 117 = .ok (.invokevirtual 139, 3) := by decide +kernel
theorem dX0_plus_120 : decode cX0_plus 120 = .ok (.aload_n 0, 1) := by decide +kernel
theorem dX0_plus_121 : decode cX0_plus 121 = .ok (.getfield 57, 3) := by decide +kernel
theorem dX0_plus_124 : decode cX0_plus 124 = .ok (.getfield 111, 3) := by decide +kernel
theorem dX0_plus_127 : decode cX0_plus 127 = .ok (.aload_n 0, 1) := by decide +kernel
theorem dX0_plus_128 : decode cX0_plus 128 = .ok (.getfield 12, 3) := by decide +kernel
theorem dX0_plus_131 : decode cX0_plus 131 = .ok (.iconst (-1), 1) := by decide +kernel
theorem dX0_plus_132 : decode cX0_plus 132 = .ok (.invokevirtual 114, 3) := by decide +kernel
theorem dX0_plus_135 : decode cX0_plus 135 = .ok (.aload_n 0, 1) := by decide +kernel
theorem dX0_plus_136 : decode cX0_plus 136 = .ok (.getfield 57, 3) := by decide +kernel
theorem dX0_plus_139 : decode cX0_plus 139 = .ok (.getfield 111, 3) := by decide +kernel
theorem dX0_plus_142 : decode cX0_plus 142 = .ok (.aload_n 0, 1) := by decide +kernel
theorem dX0_plus_143 : decode cX0_plus 143 = .ok (.getfield 12, 3) := by decide +kernel
theorem dX0_plus_146 : decode cX0_plus 146 = .ok (.aload_n 0, 1) := by decide +kernel
theorem dX0_plus_147 : decode cX0_plus 147 = .ok (.getfield 57, 3) := by decide +kernel
theorem dX0_plus_150 : decode cX0_plus 150 = .ok (.getfield 130, 3) := by decide +kernel
theorem dX0_plus_153 : decode cX0_plus 153 = .ok (.aload_n 0, 1) := by decide +kernel
theorem dX0_plus_154 : decode cX0_plus 154 = .ok (.getfield 51, 3) := by decide +kernel
theorem dX0_plus_157 : decode cX0_plus 157 = .ok (.invokevirtual 146, 3) := by decide +kernel
theorem dX0_plus_160 : decode cX0_plus 160 = .ok (.iinc 4 1, 3) := by decide +kernel
theorem dX0_plus_163 : decode cX0_plus 163 = .ok (.goto (-154), 3) := by decide +kernel
theorem dX0_plus_166 : decode cX0_plus 166 = .ok (.aload_n 0, 1) := by decide +kernel
theorem dX0_plus_167 : decode cX0_plus 167 = .ok (.getfield 57, 3) := by decide +kernel
theorem dX0_plus_170 : decode cX0_plus 170 = .ok (.getfield 130, 3) := by decide +kernel
theorem dX0_plus_173 : decode cX0_plus 173 = .ok (.aload_n 0, 1) := by decide +kernel
theorem dX0_plus_174 : decode cX0_plus 174 = .ok (.getfield 12, 3) := by decide +kernel
theorem dX0_plus_177 : decode cX0_plus 177 = .ok (.aload_n 0, 1) := by decide +kernel
theorem dX0_plus_178 : decode cX0_plus 178 = .ok (.getfield 12, 3) := by decide +kernel
theorem dX0_plus_181 : decode cX0_plus 181 = .ok (.aload_n 0, 1) := by decide +kernel
theorem dX0_plus_182 : decode cX0_plus 182 = .ok (.getfield 57, 3) := by decide +kernel
theorem dX0_plus_185 : decode cX0_plus 185 = .ok (.getfield 130, 3) := by decide +kernel
theorem dX0_plus_188 : decode cX0_plus 188 = .ok (.aload_n 0, 1) := by decide +kernel
theorem dX0_plus_189 : decode cX0_plus 189 = .ok (.getfield 57, 3) := by decide +kernel
theorem dX0_plus_192 : decode cX0_plus 192 = .ok (.getfield 130, 3) := by decide +kernel
theorem dX0_plus_195 : decode cX0_plus 195 = .ok (.getfield 133, 3) := by decide +kernel
theorem dX0_plus_198 : decode cX0_plus 198 = .ok (.invokevirtual 149, 3) := by decide +kernel
theorem dX0_plus_201 : decode cX0_plus 201 = .ok (.invokevirtual 152, 3) := by decide +kernel
theorem dX0_plus_204 : decode cX0_plus 204 = .ok (.invokevirtual 114, 3) := by decide +kernel
theorem dX0_plus_207 : decode cX0_plus 207 = .ok (.aload_n 3, 1) := by decide +kernel
theorem dX0_plus_208 : decode cX0_plus 208 = .ok (.aload_n 0, 1) := by decide +kernel
theorem dX0_plus_209 : decode cX0_plus 209 = .ok (.getfield 57, 3) := by decide +kernel
theorem dX0_plus_212 : decode cX0_plus 212 = .ok (.invokevirtual 107, 3) := by decide +kernel
theorem dX0_plus_215 : decode cX0_plus 215 = .ok (.return_, 1) := by decide +kernel
set_option maxRecDepth 20000 in
theorem b_X0_plus_0 {k n : Nat} {x : Wx} {Z : Zt} {Q : Option Value → Wx → Zt → Prop} {a0 : Nat} {a1 : Nat} {a2 : Nat} {a3 : Nat} {a0_field : Nat} {a0_f : Nat} (r_a0_field : x.2.1 a0 1 = some a0_field) (r_a0_f : x.2.1 a0 2 = some a0_f) (o_a0 : Is0 x a0) (o_a1 : Is6 x a1) (o_a2 : Is6 x a2) (o_a0_field : Is4 x a0_field) (o_a0_f : Is7 x a0_f)
    (h : ∃ g1 : Int, (∃ g2 : Int, (∃ g3 : Nat → Int, (∃ g4 : UV, (∃ g5 : UV, (CF g1 g2 g3 ∧ RP g1 g2 g4 ∧ RP g1 g2 g5 ∧ PrA Z a1 g1 g4.1 g4.2 ∧ PrA Z a2 g1 g5.1 g5.2 ∧ PA Z a0_f g1 g3 ∧ FA Z a0_field g1 ∧ a0_field + 2 < a0 ∧ a0_f + 1 < a0 ∧ a0 + 40 ≤ a1 ∧ a0 + 40 ≤ a2 ∧ (∀ (Z'1 : Zt), (PrA Z'1 (a0 + 35) g1 (ccomp g1 g3 g4 g5).1 (ccomp g1 g3 g4 g5).2 ∧ Oth Z Z'1 (fun q => a0 + 6 < q ∧ q ≤ a0 + 39)) → (V mX0_plus k n 9 [some (r_ a0), none, none, some (r_ a3), some (i_ 0)] [] x Z'1 Q)))))))) :
    V mX0_plus k n 0 [some (r_ a0), some (r_ a1), some (r_ a2), some (r_ a3), none] [] x Z Q :=
  V_aload_n dX0_plus_0 rfl (V_aload_n dX0_plus_1 rfl (V_aload_n dX0_plus_2 rfl (Exists.elim h (fun g1 w1 => Exists.elim w1 (fun g2 w2 => Exists.elim w2 (fun g3 w3 => Exists.elim w3 (fun g4 w4 => Exists.elim w4 (fun g5 w5 => V_callV (k' := 0) (n' := 0) (t := 0) (q := (RX0, TX0, 18)) [r_ a1, r_ a2] [] okX0_compose o_a0.1 rfl rfl lm_0_126 liX0_compose lqX0_compose (Nat.le_of_ble_eq_true rfl) (Nat.le_of_ble_eq_true rfl) (Nat.le_of_ble_eq_true rfl) (cat_of rfl) (Nat.le_of_ble_eq_true rfl) (Nat.zero_le _) (Nat.zero_le _) rfl dX0_plus_3 (sp_X0_compose r_a0_field r_a0_f o_a0 o_a1 o_a2 o_a0_field o_a0_f w5.1 w5.2.1 w5.2.2.1 w5.2.2.2.1 w5.2.2.2.2.1 w5.2.2.2.2.2.1 w5.2.2.2.2.2.2.1 w5.2.2.2.2.2.2.2.1 w5.2.2.2.2.2.2.2.2.1 w5.2.2.2.2.2.2.2.2.2.1 w5.2.2.2.2.2.2.2.2.2.2.1 (fun Z'1 p1 => V_iconst dX0_plus_6 (V_istore (lv' := [some (r_ a0), some (r_ a1), some (r_ a2), some (r_ a3), some (i_ 0)]) dX0_plus_7 (Nat.le_of_ble_eq_true rfl) rfl (V_msk [true, false, false, true, true] rfl (w5.2.2.2.2.2.2.2.2.2.2.2 Z'1 p1)))))))))))))
set_option maxRecDepth 20000 in
theorem b_X0_plus_9 {k n : Nat} {x : Wx} {Z : Zt} {Q : Option Value → Wx → Zt → Prop} {a0 : Nat} {a3 : Nat} {v4 : Int} {a0_field : Nat} {a0_f : Nat} (r_a0_field : x.2.1 a0 1 = some a0_field) (r_a0_f : x.2.1 a0 2 = some a0_f) (o_a0 : Is0 x a0) (o_a0_field : Is4 x a0_field) (o_a0_f : Is7 x a0_f)
    (h : Rg v4 ∧ (((4 ≤ v4) → (V mX0_plus k n 166 [some (r_ a0), none, none, some (r_ a3), none] [] x Z Q)) ∧ ((v4 < 4) → (Rg (Z (a0 + 36) 0) ∧ Rg (Z a0 3) ∧ (((Z (a0 + 36) 0 ≤ Z a0 3) → (V mX0_plus k n 166 [some (r_ a0), none, none, some (r_ a3), none] [] x Z Q)) ∧ ((Z a0 3 < Z (a0 + 36) 0) → (∃ g1 : Int, (∃ g2 : Nat → Int, (∃ g3 : Nat → Int, ((a0 + 29) ≠ (a0 + 38) ∧ PA Z (a0 + 38) g1 g2 ∧ PA Z (a0 + 38) g1 g3 ∧ Z a0_field 0 = g1 ∧ (2 ≤ g1 ∧ g1 ≤ 13) ∧ dg g2 10 + dg g3 10 ≤ 9 ∧ (∀ (Z'1 : Zt), (PA Z'1 (a0 + 29) g1 (pmul g1 g2 g3) ∧ Oth Z Z'1 (At2 (a0 + 29))) → (∃ g4 : Int, (∃ g5 : Nat → Int, (PA Z'1 a0_f g4 g5 ∧ (∀ (Z'2 : Zt), (PA Z'2 (a0 + 31) g4 g5 ∧ Oth Z'1 Z'2 (At2 (a0 + 31))) → (∃ g6 : Int, (∃ g7 : Nat → Int, (∃ g8 : Nat → Int, ((a0 + 31) ≠ (a0 + 29) ∧ PA Z'2 (a0 + 31) g6 g7 ∧ PA Z'2 (a0 + 29) g6 g8 ∧ Z'2 a0_field 0 = g6 ∧ (2 ≤ g6 ∧ g6 ≤ 13) ∧ ((-1000) ≤ (-1 : Int) ∧ (-1 : Int) ≤ 1000) ∧ (∀ (Z'3 : Zt), (PA Z'3 (a0 + 31) g6 (padd g6 g7 g8 (-1 : Int)) ∧ Oth Z'2 Z'3 (At2 (a0 + 31))) → (∃ g9 : Int, (∃ g10 : Nat → Int, (∃ g11 : Nat → Int, ((a0 + 31) ≠ (a0 + 36) ∧ (a0 + 31) ≠ (a0 + 33) ∧ (a0 + 36) ≠ (a0 + 33) ∧ PA Z'3 (a0 + 31) g9 g10 ∧ PA Z'3 (a0 + 36) g9 g11 ∧ FA Z'3 a0_field g9 ∧ (3 ≤ g9 ∧ g9 ≤ 13) ∧ 0 ≤ pd g11 ∧ (∀ (Z'4 : Zt), (PA Z'4 (a0 + 31) g9 (dvR g9 g10 g11) ∧ PA Z'4 (a0 + 33) g9 (dvQ g9 g10 g11) ∧ Oth Z'3 Z'4 (fun q => At2 (a0 + 31) q ∨ At2 (a0 + 33) q)) → (∃ g12 : Int, (∃ g13 : Nat → Int, (PA Z'4 (a0 + 33) g12 g13 ∧ (∀ (Z'5 : Zt), (PA Z'5 (a0 + 36) g12 g13 ∧ Oth Z'4 Z'5 (At2 (a0 + 36))) → (∃ g14 : Int, (∃ g15 : Nat → Int, (PA Z'5 (a0 + 38) g14 g15 ∧ Z'5 a0_field 0 = g14 ∧ (2 ≤ g14 ∧ g14 ≤ 13) ∧ ((-1000) ≤ (-1 : Int) ∧ (-1 : Int) ≤ 1000) ∧ (∀ (Z'6 : Zt), (PA Z'6 (a0 + 38) g14 (pscl g14 g15 (-1 : Int)) ∧ Oth Z'5 Z'6 (At2 (a0 + 38))) → (∃ g16 : Int, (∃ g17 : Nat → Int, (∃ g18 : Nat → Int, ((a0 + 38) ≠ (a0 + 36) ∧ (a0 + 38) ≠ (a0 + 33) ∧ (a0 + 36) ≠ (a0 + 33) ∧ PA Z'6 (a0 + 38) g16 g17 ∧ PA Z'6 (a0 + 36) g16 g18 ∧ FA Z'6 a0_field g16 ∧ (3 ≤ g16 ∧ g16 ≤ 13) ∧ 0 ≤ pd g18 ∧ (∀ (Z'7 : Zt), (PA Z'7 (a0 + 38) g16 (dvR g16 g17 g18) ∧ PA Z'7 (a0 + 33) g16 (dvQ g16 g17 g18) ∧ Oth Z'6 Z'7 (fun q => At2 (a0 + 38) q ∨ At2 (a0 + 33) q)) → (V mX0_plus k n 9 [some (r_ a0), none, none, some (r_ a3), some (i_ (v4 + 1))] [] x Z'7 Q))))))))))))))))))))))))))))))))))))))) :
    V mX0_plus k n 9 [some (r_ a0), none, none, some (r_ a3), some (i_ v4)] [] x Z Q :=
  V_iload dX0_plus_9 rfl (V_iconst dX0_plus_11 (V_icmp_ge (tgt := 166) dX0_plus_12 rfl h.1 (rg_c rfl) (fun c1 => V_msk [true, false, false, true, false] rfl (h.2.1 c1)) (fun c1 => V_aload_n dX0_plus_15 rfl (G_0_11 o_a0.1 o_a0.2.2.2.2.2.2.2.2.2.2.2.2.2.2.2.1 lf_0_57 dX0_plus_16 (G_6_0 o_a0.2.2.2.2.2.2.2.2.2.2.2.2.2.2.2.2.1.1 o_a0.2.2.2.2.2.2.2.2.2.2.2.2.2.2.2.2.1.2.1 lf_0_130 dX0_plus_19 (G_7_0 o_a0.2.2.2.2.2.2.2.2.2.2.2.2.2.2.2.2.1.2.2.1.1 lf_0_133 dX0_plus_22 (V_aload_n dX0_plus_25 rfl (G_0_3 o_a0.1 lf_0_25 dX0_plus_26 (V_icmp_le (tgt := 166) dX0_plus_29 rfl (h.2.2 c1).1 (h.2.2 c1).2.1 (fun c2 => V_msk [true, false, false, true, false] rfl ((h.2.2 c1).2.2.1 c2)) (fun c2 => V_aload_n dX0_plus_32 rfl (G_0_8 o_a0.1 o_a0.2.2.2.2.2.2.2.2.2.1 lf_0_45 dX0_plus_33 (V_aload_n dX0_plus_36 rfl (G_0_1 o_a0.1 r_a0_field lf_0_12 dX0_plus_37 (V_aload_n dX0_plus_40 rfl (G_0_11 o_a0.1 o_a0.2.2.2.2.2.2.2.2.2.2.2.2.2.2.2.1 lf_0_57 dX0_plus_41 (G_6_1 o_a0.2.2.2.2.2.2.2.2.2.2.2.2.2.2.2.2.1.1 o_a0.2.2.2.2.2.2.2.2.2.2.2.2.2.2.2.2.1.2.2.2.1 lf_0_111 dX0_plus_44 (V_aload_n dX0_plus_47 rfl (G_0_11 o_a0.1 o_a0.2.2.2.2.2.2.2.2.2.2.2.2.2.2.2.1 lf_0_57 dX0_plus_48 (G_6_1 o_a0.2.2.2.2.2.2.2.2.2.2.2.2.2.2.2.2.1.1 o_a0.2.2.2.2.2.2.2.2.2.2.2.2.2.2.2.2.1.2.2.2.1 lf_0_111 dX0_plus_51 (Exists.elim ((h.2.2 c1).2.2.2 c2) (fun g1 w1 => Exists.elim w1 (fun g2 w2 => Exists.elim w2 (fun g3 w3 => V_callV (k' := 0) (n' := 0) (t := 7) (q := (RX7, TX7, 2)) [r_ a0_field, r_ (a0 + 38), r_ (a0 + 38)] [] okX7_product o_a0.2.2.2.2.2.2.2.2.2.2.1.1 rfl rfl lm_0_136 liX7_product lqX7_product (Nat.le_of_ble_eq_true rfl) (Nat.le_of_ble_eq_true rfl) (Nat.le_of_ble_eq_true rfl) (cat_of rfl) (Nat.le_of_ble_eq_true rfl) (Nat.zero_le _) (Nat.zero_le _) rfl dX0_plus_54 (sp_X7_product o_a0.2.2.2.2.2.2.2.2.2.2.1 o_a0_field o_a0.2.2.2.2.2.2.2.2.2.2.2.2.2.2.2.2.1.2.2.2.2 o_a0.2.2.2.2.2.2.2.2.2.2.2.2.2.2.2.2.1.2.2.2.2 w3.1 w3.1 w3.2.1 w3.2.2.1 w3.2.2.2.1 w3.2.2.2.2.1 w3.2.2.2.2.2.1 (fun Z'1 p1 => V_aload_n dX0_plus_57 rfl (G_0_9 o_a0.1 o_a0.2.2.2.2.2.2.2.2.2.2.2.1 lf_0_48 dX0_plus_58 (V_aload_n dX0_plus_61 rfl (G_0_2 o_a0.1 r_a0_f lf_0_21 dX0_plus_62 (Exists.elim (w3.2.2.2.2.2.2 Z'1 p1) (fun g4 w4 => Exists.elim w4 (fun g5 w5 => V_callV (k' := 0) (n' := 0) (t := 7) (q := (RX7, TX7, 2)) [r_ a0_f] [] okX7_copy o_a0.2.2.2.2.2.2.2.2.2.2.2.2.1.1 rfl rfl lm_0_139 liX7_copy lqX7_copy (Nat.le_of_ble_eq_true rfl) (Nat.le_of_ble_eq_true rfl) (Nat.le_of_ble_eq_true rfl) (cat_of rfl) (Nat.le_of_ble_eq_true rfl) (Nat.zero_le _) (Nat.zero_le _) rfl dX0_plus_65 (sp_X7_copy o_a0.2.2.2.2.2.2.2.2.2.2.2.2.1 o_a0_f w5.1 (fun Z'2 p2 => V_aload_n dX0_plus_68 rfl (G_0_9 o_a0.1 o_a0.2.2.2.2.2.2.2.2.2.2.2.1 lf_0_48 dX0_plus_69 (V_aload_n dX0_plus_72 rfl (G_0_1 o_a0.1 r_a0_field lf_0_12 dX0_plus_73 (V_aload_n dX0_plus_76 rfl (G_0_8 o_a0.1 o_a0.2.2.2.2.2.2.2.2.2.1 lf_0_45 dX0_plus_77 (V_iconst dX0_plus_80 (Exists.elim (w5.2 Z'2 p2) (fun g6 w6 => Exists.elim w6 (fun g7 w7 => Exists.elim w7 (fun g8 w8 => V_callV (k' := 0) (n' := 0) (t := 7) (q := (RX7, TX7, 2)) [r_ a0_field, r_ (a0 + 29), i_ (-1)] [] okX7_add o_a0.2.2.2.2.2.2.2.2.2.2.2.2.1.1 rfl rfl lm_0_142 liX7_add lqX7_add (Nat.le_of_ble_eq_true rfl) (Nat.le_of_ble_eq_true rfl) (Nat.le_of_ble_eq_true rfl) (cat_of rfl) (Nat.le_of_ble_eq_true rfl) (Nat.zero_le _) (Nat.zero_le _) rfl dX0_plus_81 (sp_X7_add o_a0.2.2.2.2.2.2.2.2.2.2.2.2.1 o_a0_field o_a0.2.2.2.2.2.2.2.2.2.2.1 w8.1 w8.2.1 w8.2.2.1 w8.2.2.2.1 w8.2.2.2.2.1 w8.2.2.2.2.2.1 (fun Z'3 p3 => V_aload_n dX0_plus_84 rfl (G_0_9 o_a0.1 o_a0.2.2.2.2.2.2.2.2.2.2.2.1 lf_0_48 dX0_plus_85 (V_aload_n dX0_plus_88 rfl (G_0_1 o_a0.1 r_a0_field lf_0_12 dX0_plus_89 (V_aload_n dX0_plus_92 rfl (G_0_11 o_a0.1 o_a0.2.2.2.2.2.2.2.2.2.2.2.2.2.2.2.1 lf_0_57 dX0_plus_93 (G_6_0 o_a0.2.2.2.2.2.2.2.2.2.2.2.2.2.2.2.2.1.1 o_a0.2.2.2.2.2.2.2.2.2.2.2.2.2.2.2.2.1.2.1 lf_0_130 dX0_plus_96 (V_aload_n dX0_plus_99 rfl (G_0_10 o_a0.1 o_a0.2.2.2.2.2.2.2.2.2.2.2.2.2.1 lf_0_51 dX0_plus_100 (Exists.elim (w8.2.2.2.2.2.2 Z'3 p3) (fun g9 w9 => Exists.elim w9 (fun g10 w10 => Exists.elim w10 (fun g11 w11 => V_callV (k' := 0) (n' := 0) (t := 7) (q := (RX7, TX7, 2)) [r_ a0_field, r_ (a0 + 36), r_ (a0 + 33)] [] okX7_divide o_a0.2.2.2.2.2.2.2.2.2.2.2.2.1.1 rfl rfl lm_0_146 liX7_divide lqX7_divide (Nat.le_of_ble_eq_true rfl) (Nat.le_of_ble_eq_true rfl) (Nat.le_of_ble_eq_true rfl) (cat_of rfl) (Nat.le_of_ble_eq_true rfl) (Nat.zero_le _) (Nat.zero_le _) rfl dX0_plus_103 (sp_X7_divide o_a0.2.2.2.2.2.2.2.2.2.2.2.2.1 o_a0_field o_a0.2.2.2.2.2.2.2.2.2.2.2.2.2.2.2.2.1.2.2.1 o_a0.2.2.2.2.2.2.2.2.2.2.2.2.2.2.1 w11.1 w11.2.1 w11.2.2.1 w11.2.2.2.1 w11.2.2.2.2.1 w11.2.2.2.2.2.1 w11.2.2.2.2.2.2.1 w11.2.2.2.2.2.2.2.1 (fun Z'4 p4 => V_aload_n dX0_plus_106 rfl (G_0_11 o_a0.1 o_a0.2.2.2.2.2.2.2.2.2.2.2.2.2.2.2.1 lf_0_57 dX0_plus_107 (G_6_0 o_a0.2.2.2.2.2.2.2.2.2.2.2.2.2.2.2.2.1.1 o_a0.2.2.2.2.2.2.2.2.2.2.2.2.2.2.2.2.1.2.1 lf_0_130 dX0_plus_110 (V_aload_n dX0_plus_113 rfl (G_0_10 o_a0.1 o_a0.2.2.2.2.2.2.2.2.2.2.2.2.2.1 lf_0_51 dX0_plus_114 (Exists.elim (w11.2.2.2.2.2.2.2.2 Z'4 p4) (fun g12 w12 => Exists.elim w12 (fun g13 w13 => V_callV (k' := 0) (n' := 0) (t := 7) (q := (RX7, TX7, 2)) [r_ (a0 + 33)] [] okX7_copy o_a0.2.2.2.2.2.2.2.2.2.2.2.2.2.2.2.2.1.2.2.1.1 rfl rfl lm_0_139 liX7_copy lqX7_copy (Nat.le_of_ble_eq_true rfl) (Nat.le_of_ble_eq_true rfl) (Nat.le_of_ble_eq_true rfl) (cat_of rfl) (Nat.le_of_ble_eq_true rfl) (Nat.zero_le _) (Nat.zero_le _) rfl dX0_plus_117 (sp_X7_copy o_a0.2.2.2.2.2.2.2.2.2.2.2.2.2.2.2.2.1.2.2.1 o_a0.2.2.2.2.2.2.2.2.2.2.2.2.2.2.1 w13.1 (fun Z'5 p5 => V_aload_n dX0_plus_120 rfl (G_0_11 o_a0.1 o_a0.2.2.2.2.2.2.2.2.2.2.2.2.2.2.2.1 lf_0_57 dX0_plus_121 (G_6_1 o_a0.2.2.2.2.2.2.2.2.2.2.2.2.2.2.2.2.1.1 o_a0.2.2.2.2.2.2.2.2.2.2.2.2.2.2.2.2.1.2.2.2.1 lf_0_111 dX0_plus_124 (V_aload_n dX0_plus_127 rfl (G_0_1 o_a0.1 r_a0_field lf_0_12 dX0_plus_128 (V_iconst dX0_plus_131 (Exists.elim (w13.2 Z'5 p5) (fun g14 w14 => Exists.elim w14 (fun g15 w15 => V_callV (k' := 0) (n' := 0) (t := 7) (q := (RX7, TX7, 2)) [r_ a0_field, i_ (-1)] [] okX7_scale o_a0.2.2.2.2.2.2.2.2.2.2.2.2.2.2.2.2.1.2.2.2.2.1 rfl rfl lm_0_114 liX7_scale lqX7_scale (Nat.le_of_ble_eq_true rfl) (Nat.le_of_ble_eq_true rfl) (Nat.le_of_ble_eq_true rfl) (cat_of rfl) (Nat.le_of_ble_eq_true rfl) (Nat.zero_le _) (Nat.zero_le _) rfl dX0_plus_132 (sp_X7_scale o_a0.2.2.2.2.2.2.2.2.2.2.2.2.2.2.2.2.1.2.2.2.2 o_a0_field w15.1 w15.2.1 w15.2.2.1 w15.2.2.2.1 (fun Z'6 p6 => V_aload_n dX0_plus_135 rfl (G_0_11 o_a0.1 o_a0.2.2.2.2.2.2.2.2.2.2.2.2.2.2.2.1 lf_0_57 dX0_plus_136 (G_6_1 o_a0.2.2.2.2.2.2.2.2.2.2.2.2.2.2.2.2.1.1 o_a0.2.2.2.2.2.2.2.2.2.2.2.2.2.2.2.2.1.2.2.2.1 lf_0_111 dX0_plus_139 (V_aload_n dX0_plus_142 rfl (G_0_1 o_a0.1 r_a0_field lf_0_12 dX0_plus_143 (V_aload_n dX0_plus_146 rfl (G_0_11 o_a0.1 o_a0.2.2.2.2.2.2.2.2.2.2.2.2.2.2.2.1 lf_0_57 dX0_plus_147 (G_6_0 o_a0.2.2.2.2.2.2.2.2.2.2.2.2.2.2.2.2.1.1 o_a0.2.2.2.2.2.2.2.2.2.2.2.2.2.2.2.2.1.2.1 lf_0_130 dX0_plus_150 (V_aload_n dX0_plus_153 rfl (G_0_10 o_a0.1 o_a0.2.2.2.2.2.2.2.2.2.2.2.2.2.1 lf_0_51 dX0_plus_154 (Exists.elim (w15.2.2.2.2 Z'6 p6) (fun g16 w16 => Exists.elim w16 (fun g17 w17 => Exists.elim w17 (fun g18 w18 => V_callV (k' := 0) (n' := 0) (t := 7) (q := (RX7, TX7, 2)) [r_ a0_field, r_ (a0 + 36), r_ (a0 + 33)] [] okX7_divide o_a0.2.2.2.2.2.2.2.2.2.2.2.2.2.2.2.2.1.2.2.2.2.1 rfl rfl lm_0_146 liX7_divide lqX7_divide (Nat.le_of_ble_eq_true rfl) (Nat.le_of_ble_eq_true rfl) (Nat.le_of_ble_eq_true rfl) (cat_of rfl) (Nat.le_of_ble_eq_true rfl) (Nat.zero_le _) (Nat.zero_le _) rfl dX0_plus_157 (sp_X7_divide o_a0.2.2.2.2.2.2.2.2.2.2.2.2.2.2.2.2.1.2.2.2.2 o_a0_field o_a0.2.2.2.2.2.2.2.2.2.2.2.2.2.2.2.2.1.2.2.1 o_a0.2.2.2.2.2.2.2.2.2.2.2.2.2.2.1 w18.1 w18.2.1 w18.2.2.1 w18.2.2.2.1 w18.2.2.2.2.1 w18.2.2.2.2.2.1 w18.2.2.2.2.2.2.1 w18.2.2.2.2.2.2.2.1 (fun Z'7 p7 => V_iinc (lv' := [some (r_ a0), none, none, some (r_ a3), some (i_ (v4 + 1))]) dX0_plus_160 rfl (Nat.le_of_ble_eq_true rfl) rfl (V_goto (tgt := 9) dX0_plus_163 rfl (V_msk [true, false, false, true, true] rfl (w18.2.2.2.2.2.2.2.2 Z'7 p7))))))))))))))))))))))))))))))))))))))))))))))))))))))))))))))))))))))))))))))))))))))))))))))))
set_option maxRecDepth 20000 in
theorem b_X0_plus_166 {k n : Nat} {x : Wx} {Z : Zt} {Q : Option Value → Wx → Zt → Prop} {a0 : Nat} {a3 : Nat} {a0_field : Nat} (r_a0_field : x.2.1 a0 1 = some a0_field) (o_a0 : Is0 x a0) (o_a0_field : Is4 x a0_field) (o_a3 : Is6 x a3)
    (h : 0 ≤ (Z (a0 + 36) 0) ∧ (Z (a0 + 36) 0) < 10 ∧ (0 ≤ (Z ((a0 + 36) + 1) (Int.toNat (Z (a0 + 36) 0))) ∧ (Z ((a0 + 36) + 1) (Int.toNat (Z (a0 + 36) 0))) < 13 ∧ (∃ g1 : Int, (∃ g2 : Nat → Int, (PA Z (a0 + 36) g1 g2 ∧ Z a0_field 0 = g1 ∧ (2 ≤ g1 ∧ g1 ≤ 13) ∧ ((-1000) ≤ (Z (a0_field + 1) (Int.toNat (Z ((a0 + 36) + 1) (Int.toNat (Z (a0 + 36) 0))))) ∧ (Z (a0_field + 1) (Int.toNat (Z ((a0 + 36) + 1) (Int.toNat (Z (a0 + 36) 0))))) ≤ 1000) ∧ (∀ (Z'1 : Zt), (PA Z'1 (a0 + 36) g1 (pscl g1 g2 (Z (a0_field + 1) (Int.toNat (Z ((a0 + 36) + 1) (Int.toNat (Z (a0 + 36) 0)))))) ∧ Oth Z Z'1 (At2 (a0 + 36))) → (∃ g3 : Int, (∃ g4 : Nat → Int, (∃ g5 : Nat → Int, (PrA Z'1 (a0 + 35) g3 g4 g5 ∧ ((a0 + 35) + 4 < a3 ∨ a3 + 4 < (a0 + 35)) ∧ (∀ (Z'2 : Zt), (PrA Z'2 a3 g3 g4 g5 ∧ Oth Z'1 Z'2 (At5 a3)) → (Q none x Z'2)))))))))))) :
    V mX0_plus k n 166 [some (r_ a0), none, none, some (r_ a3), none] [] x Z Q :=
  V_aload_n dX0_plus_166 rfl (G_0_11 o_a0.1 o_a0.2.2.2.2.2.2.2.2.2.2.2.2.2.2.2.1 lf_0_57 dX0_plus_167 (G_6_0 o_a0.2.2.2.2.2.2.2.2.2.2.2.2.2.2.2.2.1.1 o_a0.2.2.2.2.2.2.2.2.2.2.2.2.2.2.2.2.1.2.1 lf_0_130 dX0_plus_170 (V_aload_n dX0_plus_173 rfl (G_0_1 o_a0.1 r_a0_field lf_0_12 dX0_plus_174 (V_aload_n dX0_plus_177 rfl (G_0_1 o_a0.1 r_a0_field lf_0_12 dX0_plus_178 (V_aload_n dX0_plus_181 rfl (G_0_11 o_a0.1 o_a0.2.2.2.2.2.2.2.2.2.2.2.2.2.2.2.1 lf_0_57 dX0_plus_182 (G_6_0 o_a0.2.2.2.2.2.2.2.2.2.2.2.2.2.2.2.2.1.1 o_a0.2.2.2.2.2.2.2.2.2.2.2.2.2.2.2.2.1.2.1 lf_0_130 dX0_plus_185 (V_aload_n dX0_plus_188 rfl (G_0_11 o_a0.1 o_a0.2.2.2.2.2.2.2.2.2.2.2.2.2.2.2.1 lf_0_57 dX0_plus_189 (G_6_0 o_a0.2.2.2.2.2.2.2.2.2.2.2.2.2.2.2.2.1.1 o_a0.2.2.2.2.2.2.2.2.2.2.2.2.2.2.2.2.1.2.1 lf_0_130 dX0_plus_192 (G_7_0 o_a0.2.2.2.2.2.2.2.2.2.2.2.2.2.2.2.2.1.2.2.1.1 lf_0_133 dX0_plus_195 (V_callV (k' := 0) (n' := 0) (t := 7) (q := (RX7, TX7, 2)) [i_ (Z (a0 + 36) 0)] [r_ a0_field, r_ a0_field, r_ (a0 + 36)] okX7_at o_a0.2.2.2.2.2.2.2.2.2.2.2.2.2.2.2.2.1.2.2.1.1 rfl rfl lm_0_149 liX7_at lqX7_at (Nat.le_of_ble_eq_true rfl) (Nat.le_of_ble_eq_true rfl) (Nat.le_of_ble_eq_true rfl) (cat_of rfl) (Nat.le_of_ble_eq_true rfl) (Nat.zero_le _) (Nat.zero_le _) rfl dX0_plus_198 (sp_X7_at o_a0.2.2.2.2.2.2.2.2.2.2.2.2.2.2.2.2.1.2.2.1 h.1 h.2.1 (V_callV (k' := 0) (n' := 0) (t := 4) (q := (RX4, TX4, 4)) [i_ (Z ((a0 + 36) + 1) (Int.toNat (Z (a0 + 36) 0)))] [r_ a0_field, r_ (a0 + 36)] okX4_inverse o_a0_field.1 rfl rfl lm_0_152 liX4_inverse lqX4_inverse (Nat.le_of_ble_eq_true rfl) (Nat.le_of_ble_eq_true rfl) (Nat.le_of_ble_eq_true rfl) (cat_of rfl) (Nat.le_of_ble_eq_true rfl) (Nat.zero_le _) (Nat.zero_le _) rfl dX0_plus_201 (sp_X4_inverse o_a0_field h.2.2.1 h.2.2.2.1 (Exists.elim h.2.2.2.2 (fun g1 w1 => Exists.elim w1 (fun g2 w2 => V_callV (k' := 0) (n' := 0) (t := 7) (q := (RX7, TX7, 2)) [r_ a0_field, i_ (Z (a0_field + 1) (Int.toNat (Z ((a0 + 36) + 1) (Int.toNat (Z (a0 + 36) 0)))))] [] okX7_scale o_a0.2.2.2.2.2.2.2.2.2.2.2.2.2.2.2.2.1.2.2.1.1 rfl rfl lm_0_114 liX7_scale lqX7_scale (Nat.le_of_ble_eq_true rfl) (Nat.le_of_ble_eq_true rfl) (Nat.le_of_ble_eq_true rfl) (cat_of rfl) (Nat.le_of_ble_eq_true rfl) (Nat.zero_le _) (Nat.zero_le _) rfl dX0_plus_204 (sp_X7_scale o_a0.2.2.2.2.2.2.2.2.2.2.2.2.2.2.2.2.1.2.2.1 o_a0_field w2.1 w2.2.1 w2.2.2.1 w2.2.2.2.1 (fun Z'1 p1 => V_aload_n dX0_plus_207 rfl (V_aload_n dX0_plus_208 rfl (G_0_11 o_a0.1 o_a0.2.2.2.2.2.2.2.2.2.2.2.2.2.2.2.1 lf_0_57 dX0_plus_209 (Exists.elim (w2.2.2.2.2 Z'1 p1) (fun g3 w3 => Exists.elim w3 (fun g4 w4 => Exists.elim w4 (fun g5 w5 => V_callV (k' := 0) (n' := 0) (t := 6) (q := (RX6, TX6, 2)) [r_ (a0 + 35)] [] okX6_copy o_a3.1 rfl rfl lm_0_107 liX6_copy lqX6_copy (Nat.le_of_ble_eq_true rfl) (Nat.le_of_ble_eq_true rfl) (Nat.le_of_ble_eq_true rfl) (cat_of rfl) (Nat.le_of_ble_eq_true rfl) (Nat.zero_le _) (Nat.zero_le _) rfl dX0_plus_212 (sp_X6_copy o_a3 o_a0.2.2.2.2.2.2.2.2.2.2.2.2.2.2.2.2.1 w5.1 w5.2.1 (fun Z'2 p2 => V_ret dX0_plus_215 rfl (w5.2.2 Z'2 p2)))))))))))))))))))))))))))))))
theorem sp_X0_plus {k n : Nat} {x : Wx} {Z : Zt} {Q : Option Value → Wx → Zt → Prop} {a b c d fl ff : Nat} (r_fl : x.2.1 a 1 = some fl) (r_ff : x.2.1 a 2 = some ff) (o : Is0 x a) (ob : Is6 x b) (oc : Is6 x c) (od : Is6 x d) (ofl : Is4 x fl) (off : Is7 x ff) {p g : Int} {F : Nat → Int} {A B : UV} (hC : CF p g F) (hA : RP p g A) (hB : RP p g B) (hPA : PrA Z b p A.1 A.2) (hPB : PrA Z c p B.1 B.2) (hf : PA Z ff p F) (hF : FA Z fl p) (hG : Z a 3 = g) (hfl : fl + 2 < a) (hff : ff + 1 < a) (hb2 : a + 40 ≤ b) (hc2 : a + 40 ≤ c) (hd2 : a + 40 ≤ d) (h : ∀ Z' : Zt, (PrA Z' d p (cplus p F g A B).1 (cplus p F g A B).2 ∧ Oth Z Z' (fun q => (a + 6 < q ∧ q ≤ a + 39) ∨ At5 d q)) → Q none x Z') : V mX0_plus k n 0 [some (r_ a), some (r_ b), some (r_ c), some (r_ d), none] [] x Z Q := by
  have hp := hC.1.rg
  have hg := hC.2.2.2.2
  obtain ⟨e1, e2⟩ := rdn_ok hC (ccomp_rq hC hA hB) 3
  have fin : ∀ Z1 : Zt, PrA Z1 (a + 35) p (rdn p F g 4 (ccomp p F A B)).1 (rdn p F g 4 (ccomp p F A B)).2 → FA Z1 fl p → Oth Z Z1 (fun q => a + 6 < q ∧ q ≤ a + 39) → V mX0_plus k n 166 [some (r_ a), none, none, some (r_ d), none] [] x Z1 Q := by
    intro Z1 hE hF hO
    have hc9 : cplus p F g A B = mnc p (rdn p F g 4 (ccomp p F A B)) := rfl
    rw [hc9] at h
    generalize hEe : rdn p F g 4 (ccomp p F A B) = E at h hE e1 e2
    obtain ⟨h36, h38⟩ := hE
    have hl := pd_lead e1.1.1 e1.2.2.1
    have hpd : Z1 (a + 36) 0 = pd E.1 := h36.deg
    have h9d : -1 ≤ Z1 (a + 36) 0 ∧ Z1 (a + 36) 0 < 10 := h36.dgr
    have h0 := e1.2.2.1
    have hlz : Z1 (a + 36 + 1) (Int.toNat (Z1 (a + 36) 0)) = E.1 (pd E.1).toNat := by rw [hpd]; exact h36.1 _ (by omega)
    have hiv : Z1 (fl + 1) (Int.toNat (E.1 (pd E.1).toNat)) = inv p (E.1 (pd E.1).toNat) := by
      rw [hF.2.2.1 _ (by omega), show (((E.1 (pd E.1).toNat).toNat : Nat) : Int) = E.1 (pd E.1).toNat by omega]
    have hib := inv_bd hp.2 (by omega) (E.1 (pd E.1).toNat)
    refine b_X0_plus_166 r_fl o ofl od ?_
    rw [hlz, hiv]
    unfold mnc at h
    generalize hIv : inv p (E.1 (pd E.1).toNat) = iv at h hib
    refine ⟨by omega, by omega, by omega, by omega, ?_⟩
    refine ⟨p, _, h36, hF.1, ⟨by omega, by omega⟩, ⟨by omega, by omega⟩, fun Zn hh => ?_⟩
    obtain ⟨n_h36, ho⟩ := hh
    replace h38 := h38.kept ho (by first | omega | (unfold At2; omega)) (by first | omega | (unfold At2; omega))
    replace hF := hF.kept ho (by first | omega | (unfold At2; omega)) (by first | omega | (unfold At2; omega)) (by first | omega | (unfold At2; omega))
    replace h36 := n_h36
    replace hO := hO.tr (ho.wk (by first | (intro q; omega) | (unfold At2; intro q; omega)))
    refine ⟨p, _, _, ⟨h36, h38⟩, by omega, fun Z3 hh3 => h Z3 ⟨hh3.1, fun q hq => ?_⟩⟩
    rw [hh3.2 q (fun e => hq (Or.inr e)), hO q (fun e => hq (Or.inl e))]
  obtain ⟨C0, hC0⟩ : ∃ z, z = rdn p F g 4 (ccomp p F A B) := ⟨_, rfl⟩
  rw [← hC0] at fin
  have lp : ∀ (m : Nat) (v : Int) (Z1 : Zt) (A : UV), v + m = 4 → 0 ≤ v → RQ p g A → PrA Z1 (a + 35) p A.1 A.2 → PA Z1 ff p F → FA Z1 fl p → Z1 a 3 = g → Oth Z Z1 (fun q => a + 6 < q ∧ q ≤ a + 39) → rdn p F g m A = C0 → V mX0_plus k n 9 [some (r_ a), none, none, some (r_ d), some (i_ v)] [] x Z1 Q := by
    intro m
    induction m with
    | zero =>
      intro v Z1 A9 hm hv hA9 hP hf hF hG9 hO he
      exact b_X0_plus_9 r_fl r_ff o ofl off ⟨⟨by omega, by omega⟩, fun _ => fin Z1 (by rw [← he]; exact hP) hF hO, fun c1 => by omega⟩
    | succ m ih =>
      intro v Z1 A hm hv hA hP hf hF hG9 hO he
      obtain ⟨h36, h38⟩ := hP
      have d36 : Z1 (a + 36) 0 = pd A.1 := h36.deg
      have r36 : -1 ≤ Z1 (a + 36) 0 ∧ Z1 (a + 36) 0 < 10 := h36.dgr
      refine b_X0_plus_9 r_fl r_ff o ofl off ⟨⟨by omega, by omega⟩, fun c1 => by omega, fun c1 => ⟨⟨by omega, by omega⟩, ⟨by omega, by omega⟩, fun c2 => ?_, fun c2 => ?_⟩⟩
      · refine fin Z1 ?_ hF hO
        rw [← he, rdn_stop (by omega)]; exact ⟨h36, h38⟩
      obtain ⟨n1, D1, q1, q2⟩ := rstep_ok hC hA (by omega)
      have k9 : 0 ≤ pd (dvQ p (padd p F (pmul p A.2 A.2) (-1)) A.1) := q1.2.2.1
      refine ⟨p, _, _, by omega, h38, h38, hF.1, ⟨by omega, by omega⟩, (by rw [h38.dg10]; exact D1), fun Zn hh => ?_⟩
      obtain ⟨n_h29, ho⟩ := hh
      replace h36 := h36.kept ho (by first | omega | (unfold At2; omega)) (by first | omega | (unfold At2; omega))
      replace h38 := h38.kept ho (by first | omega | (unfold At2; omega)) (by first | omega | (unfold At2; omega))
      replace hf := hf.kept ho (by first | omega | (unfold At2; omega)) (by first | omega | (unfold At2; omega))
      replace hF := hF.kept ho (by first | omega | (unfold At2; omega)) (by first | omega | (unfold At2; omega)) (by first | omega | (unfold At2; omega))
      have h29 := n_h29
      replace hO := hO.tr (ho.wk (by first | (intro q; omega) | (unfold At2; intro q; omega)))
      refine ⟨p, _, hf, fun Zn hh => ?_⟩
      obtain ⟨n_h31, ho⟩ := hh
      replace h36 := h36.kept ho (by first | omega | (unfold At2; omega)) (by first | omega | (unfold At2; omega))
      replace h38 := h38.kept ho (by first | omega | (unfold At2; omega)) (by first | omega | (unfold At2; omega))
      replace hf := hf.kept ho (by first | omega | (unfold At2; omega)) (by first | omega | (unfold At2; omega))
      replace h29 := h29.kept ho (by first | omega | (unfold At2; omega)) (by first | omega | (unfold At2; omega))
      replace hF := hF.kept ho (by first | omega | (unfold At2; omega)) (by first | omega | (unfold At2; omega)) (by first | omega | (unfold At2; omega))
      have h31 := n_h31
      replace hO := hO.tr (ho.wk (by first | (intro q; omega) | (unfold At2; intro q; omega)))
      refine ⟨p, _, _, by omega, h31, h29, hF.1, ⟨by omega, by omega⟩, ⟨by omega, by omega⟩, fun Zn hh => ?_⟩
      obtain ⟨n_h31, ho⟩ := hh
      replace h36 := h36.kept ho (by first | omega | (unfold At2; omega)) (by first | omega | (unfold At2; omega))
      replace h38 := h38.kept ho (by first | omega | (unfold At2; omega)) (by first | omega | (unfold At2; omega))
      replace hf := hf.kept ho (by first | omega | (unfold At2; omega)) (by first | omega | (unfold At2; omega))
      replace h29 := h29.kept ho (by first | omega | (unfold At2; omega)) (by first | omega | (unfold At2; omega))
      replace hF := hF.kept ho (by first | omega | (unfold At2; omega)) (by first | omega | (unfold At2; omega)) (by first | omega | (unfold At2; omega))
      replace h31 := n_h31
      replace hO := hO.tr (ho.wk (by first | (intro q; omega) | (unfold At2; intro q; omega)))
      refine ⟨p, _, _, by omega, by omega, by omega, h31, h36, hF, ⟨by omega, by omega⟩, hA.2.2.1, fun Zn hh => ?_⟩
      obtain ⟨n_h31, n_h33, ho⟩ := hh
      replace h36 := h36.kept ho (by first | omega | (unfold At2; omega)) (by first | omega | (unfold At2; omega))
      replace h38 := h38.kept ho (by first | omega | (unfold At2; omega)) (by first | omega | (unfold At2; omega))
      replace hf := hf.kept ho (by first | omega | (unfold At2; omega)) (by first | omega | (unfold At2; omega))
      replace h29 := h29.kept ho (by first | omega | (unfold At2; omega)) (by first | omega | (unfold At2; omega))
      replace hF := hF.kept ho (by first | omega | (unfold At2; omega)) (by first | omega | (unfold At2; omega)) (by first | omega | (unfold At2; omega))
      replace h31 := n_h31
      have h33 := n_h33
      replace hO := hO.tr (ho.wk (by first | (intro q; omega) | (unfold At2; intro q; omega)))
      refine ⟨p, _, h33, fun Zn hh => ?_⟩
      obtain ⟨n_h36, ho⟩ := hh
      replace h38 := h38.kept ho (by first | omega | (unfold At2; omega)) (by first | omega | (unfold At2; omega))
      replace hf := hf.kept ho (by first | omega | (unfold At2; omega)) (by first | omega | (unfold At2; omega))
      replace h29 := h29.kept ho (by first | omega | (unfold At2; omega)) (by first | omega | (unfold At2; omega))
      replace h31 := h31.kept ho (by first | omega | (unfold At2; omega)) (by first | omega | (unfold At2; omega))
      replace h33 := h33.kept ho (by first | omega | (unfold At2; omega)) (by first | omega | (unfold At2; omega))
      replace hF := hF.kept ho (by first | omega | (unfold At2; omega)) (by first | omega | (unfold At2; omega)) (by first | omega | (unfold At2; omega))
      replace h36 := n_h36
      replace hO := hO.tr (ho.wk (by first | (intro q; omega) | (unfold At2; intro q; omega)))
      refine ⟨p, _, h38, hF.1, ⟨by omega, by omega⟩, ⟨by omega, by omega⟩, fun Zn hh => ?_⟩
      obtain ⟨n_h38, ho⟩ := hh
      replace h36 := h36.kept ho (by first | omega | (unfold At2; omega)) (by first | omega | (unfold At2; omega))
      replace hf := hf.kept ho (by first | omega | (unfold At2; omega)) (by first | omega | (unfold At2; omega))
      replace h29 := h29.kept ho (by first | omega | (unfold At2; omega)) (by first | omega | (unfold At2; omega))
      replace h31 := h31.kept ho (by first | omega | (unfold At2; omega)) (by first | omega | (unfold At2; omega))
      replace h33 := h33.kept ho (by first | omega | (unfold At2; omega)) (by first | omega | (unfold At2; omega))
      replace hF := hF.kept ho (by first | omega | (unfold At2; omega)) (by first | omega | (unfold At2; omega)) (by first | omega | (unfold At2; omega))
      replace h38 := n_h38
      replace hO := hO.tr (ho.wk (by first | (intro q; omega) | (unfold At2; intro q; omega)))
      refine ⟨p, _, _, by omega, by omega, by omega, h38, h36, hF, ⟨by omega, by omega⟩, k9, fun Zn hh => ?_⟩
      obtain ⟨n_h38, n_h33, ho⟩ := hh
      replace h36 := h36.kept ho (by first | omega | (unfold At2; omega)) (by first | omega | (unfold At2; omega))
      replace hf := hf.kept ho (by first | omega | (unfold At2; omega)) (by first | omega | (unfold At2; omega))
      replace h29 := h29.kept ho (by first | omega | (unfold At2; omega)) (by first | omega | (unfold At2; omega))
      replace h31 := h31.kept ho (by first | omega | (unfold At2; omega)) (by first | omega | (unfold At2; omega))
      replace hF := hF.kept ho (by first | omega | (unfold At2; omega)) (by first | omega | (unfold At2; omega)) (by first | omega | (unfold At2; omega))
      replace h38 := n_h38
      replace h33 := n_h33
      replace hO := hO.tr (ho.wk (by first | (intro q; omega) | (unfold At2; intro q; omega)))
      refine ih (v + 1) _ (rstep p F A) (by omega) (by omega) q1 ⟨h36, h38⟩ hf hF ?_ hO ?_
      · rw [hO a (by omega)]; exact hG
      · rw [← he]
        show _ = if pd A.1 ≤ g then A else rdn p F g m (rstep p F A)
        rw [if_neg (by omega)]
  refine b_X0_plus_0 r_fl r_ff o ob oc ofl off ⟨p, g, F, A, B, hC, hA, hB, hPA, hPB, hf, hF, hfl, hff, hb2, hc2, fun Z1 hh => ?_⟩
  exact lp 4 0 Z1 (ccomp p F A B) (by omega) (by omega) (ccomp_rq hC hA hB) hh.1 (hf.kept hh.2 (by omega) (by omega)) (hF.kept hh.2 (by omega) (by omega) (by omega)) (by rw [hh.2 a (by omega)]; exact hG) hh.2 hC0.symm
