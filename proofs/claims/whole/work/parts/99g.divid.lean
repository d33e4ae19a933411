/-! ===== division: there is one quotient and one rest ===== -/
def Dlt (f : Nat → Int) (d : Nat) : Prop := ∀ i : Nat, d ≤ i → f i = 0
theorem smT_one {f : Nat → Int} {k : Nat} : ∀ {m : Nat}, k < m → (∀ i : Nat, i < m → i ≠ k → f i = 0) → smT m f = f k
  | 0, h, _ => by omega
  | m + 1, h, hz => by
    show smT m f + f m = f k
    by_cases c : k = m
    · have : smT m f = 0 := by
        have e := smT_ext (f := f) (g := fun _ => 0) (n := m) (fun i hi => hz i (by omega) (by omega))
        rw [e]
        have z : ∀ j : Nat, smT j (fun _ => (0 : Int)) = 0 := fun j => by
          induction j with
          | zero => rfl
          | succ j ih => show smT j (fun _ => (0 : Int)) + 0 = 0; rw [ih]; rfl
        exact z m
      rw [this, c]; omega
    · rw [smT_one (m := m) (by omega) (fun i hi hk => hz i (by omega) hk), hz m (by omega) (by omega)]; omega
theorem cv_top {f g : Nat → Int} {d e : Nat} (hf : Dlt f (d + 1)) (hg : Dlt g (e + 1)) : cv f g (d + e) = f d * g e := by
  unfold cv
  rw [smT_one (k := d) (by omega)]
  · show f d * g (d + e - d) = f d * g e
    rw [show d + e - d = e from by omega]
  · intro i hi hk
    show f i * g (d + e - i) = 0
    by_cases c : i < d
    · rw [hg (d + e - i) (by omega), Int.mul_zero]
    · rw [hf i (by omega), Int.zero_mul]
/-- a row times g that stays below g's degree is nothing -/
theorem q_zero {p : Int} (hp : IsP p) {g : Nat → Int} {d : Nat} (hg : Dlt g (d + 1)) (hl : 0 < g d ∧ g d < p) : ∀ (m : Nat) (q : Nat → Int), InP p q → Dlt q m → Dlt (pmul p g q) d → ∀ i, q i = 0
  | 0, q, _, h, _ => fun i => h i (Nat.zero_le i)
  | m + 1, q, iq, h, hz => by
    have e := hz (d + m) (by omega)
    rw [pmul_cv, cv_top hg h] at e
    have hq : q m = 0 := by
      by_cases c : q m = 0
      · exact c
      · exact absurd e (nzp hp (g d) (q m) hl (by have := iq m; omega)).1
    refine q_zero hp hg hl m q iq (fun i hi => ?_) hz
    by_cases c : i = m
    · rw [c]; exact hq
    · exact h i (by omega)
theorem cv_mono {g : Nat → Int} {c : Int} {m : Nat} (t : Nat) : cv g (fun i => if i = m then c else 0) t = if m ≤ t then g (t - m) * c else 0 := by
  unfold cv
  by_cases h : m ≤ t
  · rw [if_pos h, smT_one (k := t - m) (by omega)]
    · show g (t - m) * (if t - (t - m) = m then c else 0) = _
      rw [if_pos (by omega)]
    · intro i hi hk
      show g i * (if t - i = m then c else 0) = 0
      rw [if_neg (by omega), Int.mul_zero]
  · rw [if_neg h]
    have e := smT_ext (f := fun i => g i * (if t - i = m then c else 0)) (g := fun _ => 0) (n := t + 1) (fun i hi => by show g i * (if t - i = m then c else 0) = 0; rw [if_neg (by omega), Int.mul_zero])
    rw [e]
    have z : ∀ j : Nat, smT j (fun _ => (0 : Int)) = 0 := fun j => by
      induction j with
      | zero => rfl
      | succ j ih => show smT j (fun _ => (0 : Int)) + 0 = 0; rw [ih]; rfl
    exact z _
theorem cv_lin2 (f g h : Nat → Int) (a b : Int) (t : Nat) : cv h (fun i => a * f i + b * g i) t = a * cv h f t + b * cv h g t := by
  rw [cv_comm, cv_lin, cv_comm t f, cv_comm t g]
theorem dv_step {p : Int} {g : Nat → Int} {d : Nat} (hg : Dlt g (d + 1)) (iv : Int) : ∀ (m : Nat) (f : Nat → Int) (t : Nat), f t % p = (cv g (dvq p g d iv m f) t + dvr p g d iv m f t) % p
  | 0, f, t => by
    have e : cv g (dvq p g d iv 0 f) t = 0 := by
      have : cv g (dvq p g d iv 0 f) t = cv g (fun i => if i = 0 then 0 else 0) t := by congr 1; funext i; show (0 : Int) = _; split <;> rfl
      rw [this, cv_mono]; split <;> simp
    rw [e, Int.zero_add]; rfl
  | m + 1, f, t => by
    obtain ⟨c, hc⟩ : ∃ c : Int, f (d + m) * iv % p = c := ⟨_, rfl⟩
    have ih := dv_step (p := p) hg iv m (dstep p g d iv (d + m) f) t
    have e1 : dvq p g d iv (m + 1) f = fun i => 1 * dvq p g d iv m (dstep p g d iv (d + m) f) i + 1 * (if i = m then c else 0) := funext fun i => by
      show (if i = m then f (d + m) * iv % p else dvq p g d iv m (dstep p g d iv (d + m) f) i) = _
      by_cases ci : i = m
      · rw [if_pos ci, if_pos ci, dvq_hi m _ i (by omega), hc]; omega
      · rw [if_neg ci, if_neg ci]; omega
    rw [e1, cv_lin2, cv_mono]
    show f t % p = (1 * cv g _ t + 1 * (if m ≤ t then g (t - m) * c else 0) + dvr p g d iv m (dstep p g d iv (d + m) f) t) % p
    have e2 : dstep p g d iv (d + m) f t % p = (f t - (if m ≤ t then g (t - m) * c else 0)) % p := by
      unfold dstep
      rw [show d + m - d = m from by omega, hc]
      by_cases c1 : m ≤ t
      · rw [if_pos c1]
        by_cases c2 : t ≤ d + m
        · rw [if_pos ⟨c1, c2⟩, Int.emod_emod, Int.mul_comm]
        · rw [if_neg (fun e => c2 e.2), hg (t - m) (by omega), Int.zero_mul, Int.sub_zero]
      · rw [if_neg c1, if_neg (fun e => c1 e.1), Int.sub_zero]
    generalize (if m ≤ t then g (t - m) * c else 0) = s at e2 ⊢
    have e3 : f t % p = (dstep p g d iv (d + m) f t + s) % p := by
      rw [Int.add_emod, e2, ← Int.add_emod]; congr 1; omega
    rw [e3, Int.add_emod, ih, ← Int.add_emod]; congr 1; omega
theorem pd_dlt {f : Nat → Int} (hf : Fin f) (h0 : 0 ≤ pd f) : Dlt f ((pd f).toNat + 1) := fun i hi => pd_hi hf i (by omega)
theorem dv_id {p : Int} {f g : Nat → Int} (hf : InP p f) (hg : Fin g) (h0 : 0 ≤ pd g) : f = padd p (pmul p g (dvQ p f g)) (dvR p f g) 1 := funext fun t => by
  have := dv_step (p := p) (pd_dlt hg h0) (inv p (g (pd g).toNat)) (pd f - pd g + 1).toNat f t
  rw [in_md hf] at this
  show f t = (pmul p g (dvQ p f g) t + 1 * dvR p f g t) % p
  rw [pmul_cv, Int.one_mul, Int.emod_add_emod]
  exact this
theorem dv_uni {p : Int} (hp : IsP p) {f g q r : Nat → Int} (jf : InP p f) (ff : Fin f) (ig : InP p g) (fg : Fin g) (h0 : 0 ≤ pd g) (iq : InP p q) (ir : InP p r) (hr : Dlt r (pd g).toNat) {m : Nat} (hq : Dlt q m) (he : f = padd p (pmul p g q) r 1) : q = dvQ p f g ∧ r = dvR p f g := by
  have hpr := hp.rg
  have h1 := dv_id (p := p) jf fg h0
  have hl := pd_lead ig h0
  have dr : Dlt (dvR p f g) (pd g).toNat := fun i hi => by
    have := pd_dvR_lt hp ff ig h0
    exact pd_hi (dvr_fin ff h0) i (by omega)
  have iR : InP p (dvR p f g) := dvR_in (by omega) jf
  have iQ : InP p (dvQ p f g) := dvQ_in (by omega)
  have fQ : Fin (dvQ p f g) := dvq_fin h0
  have sub : ∀ t, pmul p g (padd p q (dvQ p f g) (-1)) t = (dvR p f g t - r t) % p := fun t => by
    have e : pmul p g (padd p q (dvQ p f g) (-1)) = padd p (pmul p g q) (pmul p g (dvQ p f g)) (-1) := by rw [pmul_comm, pmul_padd, pmul_comm p q, pmul_comm p (dvQ p f g)]
    rw [e]
    have e2 : f t = (pmul p g q t + 1 * r t) % p := congrFun he t
    have e3 : f t = (pmul p g (dvQ p f g) t + 1 * dvR p f g t) % p := congrFun h1 t
    rw [Int.one_mul] at e2 e3
    show (pmul p g q t + -1 * pmul p g (dvQ p f g) t) % p = _
    have e4 : (pmul p g q t + r t) % p = (pmul p g (dvQ p f g) t + dvR p f g t) % p := by rw [← e2, ← e3]
    generalize pmul p g q t = A at e4 ⊢
    generalize pmul p g (dvQ p f g) t = B at e4 ⊢
    have e6 : (A + r t - (B + r t)) % p = (B + dvR p f g t - (B + r t)) % p := by rw [Int.sub_emod, e4, ← Int.sub_emod]
    rw [show A + -1 * B = A + r t - (B + r t) from by omega, e6]; congr 1; omega
  have z := q_zero hp (pd_dlt fg h0) hl (max m 24) (padd p q (dvQ p f g) (-1)) (padd_in (by omega)) (fun i hi => by
    show (q i + -1 * dvQ p f g i) % p = 0
    rw [hq i (by omega), fQ i (by omega), Int.mul_zero]; simp) (fun i hi => by rw [sub, dr i hi, hr i hi]; simp)
  have eq : q = dvQ p f g := funext fun i => by
    have := z i
    have e : (q i + -1 * dvQ p f g i) % p = 0 := this
    have a1 := iq i
    have a2 := iQ i
    have e6 : (q i - dvQ p f g i) % p = 0 := by rw [show q i - dvQ p f g i = q i + -1 * dvQ p f g i from by omega]; exact e
    have e7 := Int.emod_eq_emod_iff_emod_sub_eq_zero.mpr e6
    rw [Int.emod_eq_of_lt a1.1 a1.2, Int.emod_eq_of_lt a2.1 a2.2] at e7
    exact e7
  refine ⟨eq, funext fun i => ?_⟩
  have e2 : f i = (pmul p g q i + 1 * r i) % p := congrFun he i
  have e3 : f i = (pmul p g (dvQ p f g) i + 1 * dvR p f g i) % p := congrFun h1 i
  rw [eq] at e2
  rw [e2, Int.one_mul, Int.one_mul] at e3
  have a1 := ir i
  have a2 := iR i
  have e7 : (r i - dvR p f g i) % p = 0 := by
    have := Int.emod_eq_emod_iff_emod_sub_eq_zero.mp e3
    rw [show pmul p g (dvQ p f g) i + r i - (pmul p g (dvQ p f g) i + dvR p f g i) = r i - dvR p f g i from by omega] at this
    exact this
  have e8 := Int.emod_eq_emod_iff_emod_sub_eq_zero.mpr e7
  rw [Int.emod_eq_of_lt a1.1 a1.2, Int.emod_eq_of_lt a2.1 a2.2] at e8
  exact e8
theorem rg_dv {R : Type} [Lean.Grind.CommRing R] (G R1 Q2 R2 : R) : G * (G * Q2 + R2) + R1 = G * G * Q2 + (G * R2 + R1) := by grind
/-- a quotient's quotient -/
theorem dvQ_2 {p : Int} (hp : IsP p) {f G : Nat → Int} (jf : InP p f) (ff : Fin f) (iG : InP p G) (fG : Fin G) (h0 : 0 ≤ pd G) (h9 : pd G + pd G < 24) : dvQ p (dvQ p f G) G = dvQ p f (pmul p G G) := by
  have hpr := hp.rg
  have hp1 : 1 < p := by omega
  have i1 : InP p (dvQ p f G) := dvQ_in (by omega)
  have f1 : Fin (dvQ p f G) := dvq_fin h0
  have d1 := dv_id (p := p) jf fG h0
  have d2 := dv_id (p := p) i1 fG h0
  have iR1 : InP p (dvR p f G) := dvR_in (by omega) jf
  have iR2 : InP p (dvR p (dvQ p f G) G) := dvR_in (by omega) i1
  have l1 := pd_dvR_lt hp ff iG h0
  have l2 := pd_dvR_lt hp f1 iG h0
  have fR1 := dvr_fin (p := p) (f := f) (g := G) ff h0
  have fR2 := dvr_fin (p := p) (f := dvQ p f G) (g := G) f1 h0
  have ip := pmul_in (p := p) (f := G) (g := G) (by omega)
  have ep := pd_pmul_eq hp fG fG iG iG h0 h0 h9
  have he : f = padd p (pmul p (pmul p G G) (dvQ p (dvQ p f G) G)) (padd p (pmul p G (dvR p (dvQ p f G) G)) (dvR p f G) 1) 1 := by
    have key : ∀ (F0 G0 Q1 R1 Q2 R2 : Sr p), F0.1 = padd p (pmul p G0.1 Q1.1) R1.1 1 → Q1.1 = padd p (pmul p G0.1 Q2.1) R2.1 1 → F0.1 = padd p (pmul p (pmul p G0.1 G0.1) Q2.1) (padd p (pmul p G0.1 R2.1) R1.1 1) 1 := fun F0 G0 Q1 R1 Q2 R2 a1 a2 => by
      rw [a1, a2]
      exact congrArg Subtype.val (@rg_dv (Sr p) (srRing hp1) G0 R1 Q2 R2)
    exact key ⟨f, jf⟩ ⟨G, iG⟩ ⟨_, i1⟩ ⟨_, iR1⟩ ⟨_, dvQ_in (by omega)⟩ ⟨_, iR2⟩ d1 d2
  refine (dv_uni hp jf ff ip (pmul_fin fG fG h9) (by omega) (dvQ_in (by omega)) (padd_in (by omega)) (fun i hi => ?_) (m := 24) (dvq_fin h0) he).1
  rw [ep] at hi
  show (pmul p G (dvR p (dvQ p f G) G) i + 1 * dvR p f G i) % p = 0
  rw [pmul_hi (pd_hi fG) (pd_hi fR2) i (by omega), pd_hi fR1 i (by omega)]; simp
theorem pscl_1 {p : Int} {f : Nat → Int} (hf : InP p f) : pscl p f 1 = f := funext fun i => by show f i * 1 % p = f i; rw [Int.mul_one]; exact in_md hf i
theorem inv_1 {p : Int} (hp : IsP p) : inv p 1 = 1 := by
  rcases hp with rfl | rfl | rfl | rfl | rfl <;> decide
/-- nothing's share in a gcd -/
theorem eG_z {p : Int} (hp : IsP p) {f : Nat → Int} (jf : InP p f) (hl : f (pd f).toNat = 1) : eG p f pzero = f ∧ eS p f pzero = pone ∧ eT p f pzero = pzero := by
  have hpr := hp.rg
  have e : eEnd p f pzero = e0 f pzero := by
    show eun p 20 (e0 f pzero) = _
    show (if pd (e0 f pzero).2.1 < 0 then e0 f pzero else _) = _
    rw [if_pos]
    show pd pzero < 0
    have : pd pzero ≤ -1 := pd_le (by decide) (fun _ _ => rfl)
    omega
  have ei : eInv p (e0 f pzero) = 1 := by
    show inv p (f (pd f).toNat) = 1
    rw [hl]; exact inv_1 hp
  unfold eG eS eT
  rw [e, ei]
  refine ⟨pscl_1 jf, ?_, ?_⟩
  · exact pscl_1 (fun i => by show 0 ≤ pone i ∧ pone i < p; unfold pone; split <;> omega)
  · exact pscl_1 (fun i => by show (0 : Int) ≤ 0 ∧ 0 < p; omega)
