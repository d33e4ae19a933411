/-! ===== GAPS tied ===== -/
theorem mUn_deg {p : Int} (hp : IsP p) {F O D : Nat → Int} (hO : ORg O) : ((mUn p F O D).1 : Int) = smT p.toNat (mDt p F O D) := by
  have hpr := hp.rg
  have hdn : ∀ i : Nat, i < 0 + p.toNat → 0 ≤ mDt p F O D i := fun i hi => by
    unfold mDt
    split
    · omega
    · exact (mDp_rg hp hO (by omega)).1
  have h1 := undA_deg p (mDt p F O D) p.toNat 0 (0, fun i => if i = 0 then 1 else 0) hdn
  have e1 : (undA p (mDt p F O D) p.toNat 0 (0, fun i => if i = 0 then 1 else 0)).1 = (mUn p F O D).1 := rfl
  rw [e1, Nat.zero_add] at h1
  have e2 : smT 0 (mDt p F O D) = 0 := rfl
  rw [e2] at h1
  have h1 : ((mUn p F O D).1 : Int) = ((0 : Nat) : Int) + (smT p.toNat (mDt p F O D) - 0) := h1
  omega
theorem sgX_0 {p : Int} {F D : Nat → Int} (q : Nat) : sgX p F D (fun _ => 0) q = 0 := by
  unfold sgX
  split
  · rfl
  · split
    · rfl
    · have z : ∀ (m : Nat) (y : Int), sgC p (ev p F q) (fun _ => 0) q m y = 0 := fun m => by
        induction m with
        | zero => exact fun _ => rfl
        | succ m ih =>
          intro y
          show (if y * y % p = ev p F q then (0 : Int) else 0) + sgC p (ev p F q) (fun _ => 0) q m (y + 1) = 0
          rw [ih]
          split <;> rfl
      exact z _ _
theorem ab_pt {j : Nat} {m : Int} (hj : j < 169) (hm : 0 ≤ m ∧ m ≤ 4) : smT 169 (abF (upf (fun _ => 0) j m)) ≤ 40 := by
  rw [ab_upf hj, ab_0]
  unfold abF
  rw [upf_at]
  show (0 : Int) + ((m.natAbs : Int) - ((0 : Int).natAbs : Int)) ≤ 40
  omega
/-- what one POINT asks: how deep, how many rows, and that even powers lead late -/
theorem pt_room {p : Int} {F : Nat → Int} (hF : CF p (gen F) F) {X Y : Nat} (hX : (X : Int) < p) (hY : (Y : Int) < p) (he : (Y : Int) * Y % p = ev p F X) {m : Int} (hm : 0 ≤ m ∧ m ≤ 4) : ∃ (e : Int) (N0 N1 : Nat), e = (if Y = 0 then (m + 1) / 2 else m) ∧ (N0 : Int) + N1 ≤ 2 * e - m ∧ ((N0 : Int) ≤ gen F → (if Y = 0 then (2 * e - m + 1) / 2 else m) ≤ N0) ∧ (mRm p F 0 (upf (fun _ => 0) (13 * X + Y) m) (upf (fun _ => 0) X 1) : Int) = max 0 ((2 * e + 2) / 2 - N0) + max 0 ((2 * e + 1 - 2 * gen F) / 2 - N1) := by
  have hp := hF.1
  have hr := hp.rg
  have hg := hF.2.2.2.2
  have key : ∀ (R : Type) (_ : Lean.Grind.CommRing R) (co : R → Nat → Int) (c : Int → R) (tp : Nat → R), SerR p co c tp → ∃ (e : Int) (N0 N1 : Nat), e = (if Y = 0 then (m + 1) / 2 else m) ∧ (N0 : Int) + N1 ≤ 2 * e - m ∧ ((N0 : Int) ≤ gen F → (if Y = 0 then (2 * e - m + 1) / 2 else m) ≤ N0) ∧ (mRm p F 0 (upf (fun _ => 0) (13 * X + Y) m) (upf (fun _ => 0) X 1) : Int) = max 0 ((2 * e + 2) / 2 - N0) + max 0 ((2 * e + 1 - 2 * gen F) / 2 - N1) := fun R _ co c tp hS => by
    have A := ab_pt (j := 13 * X + Y) (by omega) hm
    have hO := ab_rg A
    obtain ⟨O, eO⟩ : ∃ O : Nat → Int, O = upf (fun _ => 0) (13 * X + Y) m := ⟨_, rfl⟩
    obtain ⟨D, eD⟩ : ∃ D : Nat → Int, D = upf (fun _ => 0) X 1 := ⟨_, rfl⟩
    rw [← eO] at A hO
    rw [← eO, ← eD]
    have oY : O (13 * X + Y) = m := by rw [eO, upf_at]
    have oN : ∀ j : Nat, j ≠ 13 * X + Y → O j = 0 := fun j hj => by rw [eO, upf_ot hj]
    have dX : D X = 1 := by rw [eD, upf_at]
    have dN : ∀ q : Nat, q ≠ X → D q = 0 := fun q hq => by rw [eD, upf_ot hq]
    have ev0 : ev p F X = 0 ↔ Y = 0 := ⟨fun h => by have := sq_0 hp (y := (Y : Int)) (by omega) (by rw [he]; exact h); omega, fun h => by rw [← he, h]; rfl⟩
    obtain ⟨e, eq⟩ : ∃ e : Int, e = (if Y = 0 then (m + 1) / 2 else m) := ⟨_, rfl⟩
    have dep : mDp p F O X = e := by
      obtain ⟨m1, m2, m3⟩ := mDp_max hp (F := F) (O := O) (x := (X : Int)) (by omega)
      have vY : dpV O X Y = e := by
        unfold dpV
        rw [show (13 * (X : Int) + Y).toNat = 13 * X + Y from by omega, oY, eq]
        by_cases c : Y = 0
        · rw [if_pos (show (Y : Int) = 0 by omega), if_pos c, Int.tdiv_eq_ediv_of_nonneg (by omega)]
        · rw [if_neg (show ¬ (Y : Int) = 0 by omega), if_neg c]
      have ge := m2 Y (by omega) he
      rw [vY] at ge
      have e0 : 0 ≤ e := by rw [eq]; split <;> omega
      rcases m3 with h | ⟨y, y1, y2, y3⟩
      · omega
      · by_cases c : y = (Y : Int)
        · rw [y3, c, vY]
        · have : dpV O X y = 0 := by
            unfold dpV
            rw [oN _ (show (13 * (X : Int) + y).toNat ≠ 13 * X + Y by omega)]
            split <;> rfl
          omega
    have dt : smT p.toNat (mDt p F O D) = e := by
      rw [smT_one (k := X) (by omega) (fun i _ hi => by unfold mDt; rw [if_pos (dN i hi)])]
      unfold mDt
      rw [dX, if_neg (by decide), dep]
    have sg : smT p.toNat (sgX p F D O) = m := by
      have ext : smT p.toNat (sgX p F D O) = smT p.toNat (fun q => 1 * sgX p F D (fun _ => 0) q + 1 * if q = X then m else 0) := smT_ext (fun i _ => by
        have := sgX_upf hp (F := F) (D := D) (O := fun _ => 0) (w := m) hX hY he (by rw [dX]; decide) i
        rw [← this, eO]
        show sgX p F D (upf (fun _ => 0) (13 * X + Y) m) i = sgX p F D (upf (fun _ => 0) (13 * X + Y) (0 + m)) i
        rw [Int.zero_add])
      rw [ext, smT_lin, smT_one (k := X) (by omega) (fun i _ hi => if_neg hi), if_pos rfl, smT_zero (fun i _ => sgX_0 i)]
      omega
    have zs : smT p.toNat (zOf p F O D) = 2 * e - m := by
      have z1 : smT p.toNat (zOf p F O D) = 2 * smT p.toNat (mDt p F O D) + (-1) * smT p.toNat (sgX p F D O) := by
        rw [← smT_lin]
        exact smT_ext (fun i hi => by rw [zOf_eq hp (by omega)]; omega)
      rw [z1, dt, sg]; omega
    obtain ⟨N0, N1, a1, a2, a3, a4, a5⟩ := leads hS (F := F) (O := O) (D := D) (by omega) A
    have mo : mMo p F 0 O D = 2 * e := by
      unfold mMo
      rw [mUn_deg hp hO, dt]; omega
    have e5 : e ≤ 5 := by rw [eq]; split <;> omega
    have mm := mRm_max (p := p) (F := F) (O := O) (D := D) (fr := 0) (g := (gen F).toNat) rfl (by rw [mo]; omega) a5
    rw [mo, show (((gen F).toNat : Nat) : Int) = gen F from by omega] at mm
    refine ⟨e, N0, N1, eq, by omega, fun hN => ?_, mm⟩
    obtain ⟨fA, fB, b1, b2, b3, b4⟩ := a1
    have fz : fB = 0 := hS.2.2.2.2.2.2.2.1 _ _ (fun i => by rw [b3 i (by omega), co_0 hS])
    have k := b4 X hX (by rw [dX]; decide)
    have pz : PH co c (c X + tp 1) fB = 0 := by rw [fz]; exact EV_0 hS.2.1 _ 400 _ (co_0 hS)
    have fA0 : fA ≠ 0 := fun h => b2 (by rw [h]; exact co_0 hS _)
    have roots : ∀ t : Nat, VZ co (PH co c (c X + tp 1) fA) t → (t : Int) ≤ N0 := fun t ht => by
      have := deg_roots hS (C := fun x => if x = X then t else 0) (N := N0) (a := fA) (by omega) b1 fA0 (fun x hx => by
        by_cases cx : x = X
        · rw [cx]; show VZ co _ (if X = X then t else 0); rw [if_pos rfl]; exact ht
        · show VZ co _ (if x = X then t else 0); rw [if_neg cx]; exact fun t ht => absurd ht (by omega))
      rw [smT_one (k := X) (by omega) (fun i _ hi => by show (((if i = X then t else 0 : Nat)) : Int) = 0; rw [if_neg hi]; rfl)] at this
      have e : (((if X = X then t else 0 : Nat)) : Int) = t := by rw [if_pos rfl]
      have this : (((if X = X then t else 0 : Nat)) : Int) ≤ N0 := this
      omega
    by_cases cY : Y = 0
    · rw [if_pos cY]
      have k1 := (k.1 (ev0.mpr cY)).1
      rw [dep, show (13 * (X : Int)).toNat = 13 * X + Y from by omega, oY] at k1
      have := roots _ k1
      have q0 : 0 ≤ 2 * e - m := by rw [eq, if_pos cY]; omega
      rw [Int.tdiv_eq_ediv_of_nonneg (by omega)] at this
      omega
    · rw [if_neg cY]
      have he2 : (p - Y) * (p - Y) % p = ev p F X := by
        rw [show (p - (Y : Int)) * (p - Y) = (Y : Int) * Y + p * (p - 2 * Y) by grind, Int.add_mul_emod_self_left]; exact he
      obtain ⟨s, hs⟩ := hS.2.2.2.2.2.2.2.2 (mSr p F X (p - Y)) (fun i => rtT_rg (by omega) ⟨by omega, by omega⟩ 95 i)
      have k2 := k.2 (fun h => cY (ev0.mp h)) (p - Y) (by omega) (by omega) he2 s hs
      have ne : (13 * (X : Int) + (p - Y)).toNat ≠ 13 * X + Y := by
        rcases hp with e | e | e | e | e <;> subst e <;> omega
      rw [pz, show PH co c (c (X : Int) + tp 1) fA + 0 * s = PH co c (c (X : Int) + tp 1) fA by grind, dep, oN _ ne] at k2
      have := roots _ k2
      rw [eq, if_neg cY] at this
      omega
  exact key _ (srRing (by omega)) _ _ _ (sr_Ser hp (by omega))
theorem far_room {p : Int} {F : Nat → Int} (hF : CF p (gen F) F) {m : Int} (hm : 0 ≤ m ∧ m ≤ 4) : (mRm p F m (fun _ => 0) (fun _ => 0) : Int) = max 0 ((m + 2) / 2) + max 0 ((m + 1 - 2 * gen F) / 2) := by
  have hp := hF.1
  have hr := hp.rg
  have hg := hF.2.2.2.2
  have key : ∀ (R : Type) (_ : Lean.Grind.CommRing R) (co : R → Nat → Int) (c : Int → R) (tp : Nat → R), SerR p co c tp → (mRm p F m (fun _ => 0) (fun _ => 0) : Int) = max 0 ((m + 2) / 2) + max 0 ((m + 1 - 2 * gen F) / 2) := fun R _ co c tp hS => by
    have A : smT 169 (abF (fun _ => 0)) ≤ 40 := by rw [ab_0]; decide
    obtain ⟨N0, N1, a1, a2, a3, a4, a5⟩ := leads hS (F := F) (O := fun _ => 0) (D := fun _ => 0) (by omega) A
    rw [smT_zero (f := zOf p F (fun _ => 0) (fun _ => 0)) (fun i _ => by unfold zOf; rw [if_pos rfl])] at a3
    have mo : mMo p F m (fun _ => 0) (fun _ => 0) = m := by
      unfold mMo
      rw [mUn_deg hp (ab_rg A), smT_zero (fun i _ => by unfold mDt; rw [if_pos rfl])]; omega
    have mm := mRm_max (p := p) (F := F) (O := fun _ => 0) (D := fun _ => 0) (fr := m) (g := (gen F).toNat) rfl (by rw [mo]; omega) a5
    rw [mo, show (((gen F).toNat : Nat) : Int) = gen F from by omega] at mm
    have z0 : (N0 : Int) = 0 := by clear mm; omega
    have z1 : (N1 : Int) = 0 := by clear mm; omega
    rw [z0, z1, Int.sub_zero, Int.sub_zero] at mm
    exact mm
  exact key _ (srRing (by omega)) _ _ _ (sr_Ser hp (by omega))
theorem gap_dims {p : Int} {F : Nat → Int} (hF : CF p (gen F) F) {v : Int} (hv : 0 ≤ v ∧ v < (pall p F).length) : mGr p F v 0 = 1 ∧ mGr p F v 1 = 1 ∧ (gen F = 1 → 2 ≤ mGr p F v 2) ∧ (gen F = 2 → (fxd (pall p F) v = true → mGr p F v 2 = 2 ∧ mGr p F v 3 = 2 ∧ 3 ≤ mGr p F v 4) ∧ (¬ fxd (pall p F) v = true → mGr p F v 2 = 1 ∧ mGr p F v 3 = 2 ∧ 3 ≤ mGr p F v 4)) := by
  have hp := hF.1
  have hr := hp.rg
  have hg := hF.2.2.2.2
  have hl := pall_le (p := p) (F := F)
  by_cases c : v + 1 = (pall p F).length
  · have d : ∀ m : Int, (0 ≤ m ∧ m ≤ 4) → (mGr p F v m : Int) = max 0 ((m + 2) / 2) + max 0 ((m + 1 - 2 * gen F) / 2) := fun m hm => by
      unfold mGr
      rw [if_pos c]
      exact far_room hF hm
    have c0 : mGr p F v 0 = 1 := by have := d 0 (by omega); omega
    have c1 : mGr p F v 1 = 1 := by have := d 1 (by omega); omega
    have c2 : mGr p F v 2 = 2 := by have := d 2 (by omega); omega
    have c3 : gen F = 2 → mGr p F v 3 = 2 := fun e => by have := d 3 (by omega); omega
    have c4 : gen F = 2 → 3 ≤ mGr p F v 4 := fun e => by have := d 4 (by omega); omega
    refine ⟨c0, c1, fun e => by omega, fun e => ⟨fun _ => ⟨c2, c3 e, c4 e⟩, fun h => absurd ?_ h⟩⟩
    unfold fxd
    exact decide_eq_true (Or.inl c)
  · obtain ⟨k, hk⟩ : ∃ k : Nat, v = (k : Int) := ⟨v.toNat, by omega⟩
    have k2 : k < (pts p F).length := by omega
    have hm := pts_mem (p := p) (F := F) (by omega) (e := (pts p F).getD k (0, 0)) (by
      rw [List.getD_eq_getElem?_getD, List.getElem?_eq_getElem k2]; exact List.getElem_mem k2)
    rw [← pall_pts k2] at hm
    have hfx : fxd (pall p F) v = true ↔ ((pall p F).getD k (0, 0)).2.toNat = 0 := by
      rw [hk, fxd_y k2]; omega
    have d : ∀ m : Int, (0 ≤ m ∧ m ≤ 4) → ∃ (e : Int) (N0 N1 : Nat), e = (if ((pall p F).getD k (0, 0)).2.toNat = 0 then (m + 1) / 2 else m) ∧ (N0 : Int) + N1 ≤ 2 * e - m ∧ ((N0 : Int) ≤ gen F → (if ((pall p F).getD k (0, 0)).2.toNat = 0 then (2 * e - m + 1) / 2 else m) ≤ N0) ∧ (mGr p F v m : Int) = max 0 ((2 * e + 2) / 2 - N0) + max 0 ((2 * e + 1 - 2 * gen F) / 2 - N1) := fun m hm2 => by
      unfold mGr
      rw [if_neg c, hk, Int.toNat_natCast, show (13 * ((pall p F).getD k (0, 0)).1 + ((pall p F).getD k (0, 0)).2).toNat = 13 * ((pall p F).getD k (0, 0)).1.toNat + ((pall p F).getD k (0, 0)).2.toNat from by omega]
      exact pt_room hF (by omega) (by omega) (by rw [Int.toNat_of_nonneg (by omega), Int.toNat_of_nonneg (by omega)]; exact hm.2.2) hm2
    clear hm
    generalize ((pall p F).getD k (0, 0)).2.toNat = Y at *
    by_cases cY : Y = 0
    · have c0 : mGr p F v 0 = 1 := by
        obtain ⟨e, N0, N1, q1, q2, q3, q4⟩ := d 0 (by omega)
        rw [if_pos cY] at q1 q3; omega
      have c1 : mGr p F v 1 = 1 := by
        obtain ⟨e, N0, N1, q1, q2, q3, q4⟩ := d 1 (by omega)
        rw [if_pos cY] at q1 q3; omega
      have c2 : mGr p F v 2 = 2 := by
        obtain ⟨e, N0, N1, q1, q2, q3, q4⟩ := d 2 (by omega)
        rw [if_pos cY] at q1 q3; omega
      have c3 : gen F = 2 → mGr p F v 3 = 2 := fun e => by
        obtain ⟨e, N0, N1, q1, q2, q3, q4⟩ := d 3 (by omega)
        rw [if_pos cY] at q1 q3; omega
      have c4 : gen F = 2 → 3 ≤ mGr p F v 4 := fun e => by
        obtain ⟨e, N0, N1, q1, q2, q3, q4⟩ := d 4 (by omega)
        rw [if_pos cY] at q1 q3; omega
      exact ⟨c0, c1, fun e => by omega, fun e => ⟨fun _ => ⟨c2, c3 e, c4 e⟩, fun h => absurd (hfx.mpr cY) h⟩⟩
    · have c0 : mGr p F v 0 = 1 := by
        obtain ⟨e, N0, N1, q1, q2, q3, q4⟩ := d 0 (by omega)
        rw [if_neg cY] at q1 q3; omega
      have c1 : mGr p F v 1 = 1 := by
        obtain ⟨e, N0, N1, q1, q2, q3, q4⟩ := d 1 (by omega)
        rw [if_neg cY] at q1 q3; omega
      have c2 : gen F = 1 → 2 ≤ mGr p F v 2 := fun e => by
        obtain ⟨e, N0, N1, q1, q2, q3, q4⟩ := d 2 (by omega)
        rw [if_neg cY] at q1 q3; omega
      have c2' : gen F = 2 → mGr p F v 2 = 1 := fun e => by
        obtain ⟨e, N0, N1, q1, q2, q3, q4⟩ := d 2 (by omega)
        rw [if_neg cY] at q1 q3; omega
      have c3 : gen F = 2 → mGr p F v 3 = 2 := fun e => by
        obtain ⟨e, N0, N1, q1, q2, q3, q4⟩ := d 3 (by omega)
        rw [if_neg cY] at q1 q3; omega
      have c4 : gen F = 2 → 3 ≤ mGr p F v 4 := fun e => by
        obtain ⟨e, N0, N1, q1, q2, q3, q4⟩ := d 4 (by omega)
        rw [if_neg cY] at q1 q3; omega
      exact ⟨c0, c1, c2, fun e => ⟨fun h => absurd (hfx.mp h) cY, fun _ => ⟨c2' e, c3 e, c4 e⟩⟩⟩
theorem gap_eq {p : Int} {F : Nat → Int} (hF : CF p (gen F) F) {v i : Int} (h2 : 0 ≤ v ∧ v < (pall p F).length) (h3 : 0 ≤ i) : (if i < gen F then (if i = 1 ∧ fxd (pall p F) v = true then 3 else i + 1) else -1) = mGl p F v (2 * gen F).toNat 1 i (mGr p F v 0) := by
  obtain ⟨d0, d1, d2, d3⟩ := gap_dims hF h2
  have e1 : mGl p F v 0 3 = fun _ _ => -1 := rfl
  rcases hF.2.2.2.2 with g1 | g2
  · rw [g1]
    have d2 := d2 g1
    show _ = (if (mGr p F v 1 : Int) = (mGr p F v 0 : Int) ∧ i = 0 then 1 else (if (mGr p F v (1 + 1) : Int) = (mGr p F v 1 : Int) ∧ (if (mGr p F v 1 : Int) = (mGr p F v 0 : Int) then i - 1 else i) = 0 then 1 + 1 else -1))
    rw [show (1 : Int) + 1 = 2 from rfl, d0, d1]
    have n2 : ¬ ((mGr p F v 2 : Int) = ((1 : Nat) : Int) ∧ (if ((1 : Nat) : Int) = ((1 : Nat) : Int) then i - 1 else i) = 0) := fun e => by have := e.1; omega
    rw [if_neg n2]
    by_cases ci : i = 0
    · rw [if_pos (show i < 1 by omega), if_neg (show ¬ (i = 1 ∧ fxd (pall p F) v = true) by omega), if_pos ⟨rfl, ci⟩]; omega
    · rw [if_neg (show ¬ i < 1 by omega), if_neg (show ¬ (((1 : Nat) : Int) = ((1 : Nat) : Int) ∧ i = 0) by omega)]
  · rw [g2]
    obtain ⟨f1, f2⟩ := d3 g2
    show _ = (if (mGr p F v 1 : Int) = (mGr p F v 0 : Int) ∧ i = 0 then 1 else mGl p F v 3 (1 + 1) (if (mGr p F v 1 : Int) = (mGr p F v 0 : Int) then i - 1 else i) (mGr p F v 1))
    rw [show (1 : Int) + 1 = 2 from rfl, d0, d1, if_pos (show ((1 : Nat) : Int) = ((1 : Nat) : Int) from rfl)]
    show _ = (if ((1 : Nat) : Int) = ((1 : Nat) : Int) ∧ i = 0 then 1 else (if (mGr p F v 2 : Int) = ((1 : Nat) : Int) ∧ i - 1 = 0 then 2 else mGl p F v 2 (2 + 1) (if (mGr p F v 2 : Int) = ((1 : Nat) : Int) then i - 1 - 1 else i - 1) (mGr p F v 2)))
    by_cases c0 : i = 0
    · rw [if_pos (show i < 2 by omega), if_neg (show ¬ (i = 1 ∧ fxd (pall p F) v = true) by omega), if_pos (show ((1 : Nat) : Int) = ((1 : Nat) : Int) ∧ i = 0 from ⟨rfl, c0⟩)]; omega
    · rw [if_neg (show ¬ (((1 : Nat) : Int) = ((1 : Nat) : Int) ∧ i = 0) by omega), show (2 : Int) + 1 = 3 from rfl]
      by_cases cf : fxd (pall p F) v = true
      · obtain ⟨u2, u3, u4⟩ := f1 cf
        rw [u2, if_neg (show ¬ (((2 : Nat) : Int) = ((1 : Nat) : Int) ∧ i - 1 = 0) by omega), if_neg (show ¬ ((2 : Nat) : Int) = ((1 : Nat) : Int) by omega)]
        show _ = (if (mGr p F v 3 : Int) = ((2 : Nat) : Int) ∧ i - 1 = 0 then 3 else mGl p F v 1 (3 + 1) (if (mGr p F v 3 : Int) = ((2 : Nat) : Int) then i - 1 - 1 else i - 1) (mGr p F v 3))
        rw [u3]
        by_cases c1 : i = 1
        · rw [if_pos (show i < 2 by omega), if_pos (show i = 1 ∧ fxd (pall p F) v = true from ⟨c1, cf⟩), if_pos (show ((2 : Nat) : Int) = ((2 : Nat) : Int) ∧ i - 1 = 0 by omega)]
        · rw [if_neg (show ¬ i < 2 by omega), if_neg (show ¬ (((2 : Nat) : Int) = ((2 : Nat) : Int) ∧ i - 1 = 0) by omega), show (3 : Int) + 1 = 4 from rfl]
          show _ = (if (mGr p F v 4 : Int) = ((2 : Nat) : Int) ∧ _ then (4 : Int) else -1)
          rw [if_neg (fun e => by have := e.1; omega)]
      · obtain ⟨u2, u3, u4⟩ := f2 cf
        rw [u2, if_pos (show ((1 : Nat) : Int) = ((1 : Nat) : Int) from rfl)]
        by_cases c1 : i = 1
        · rw [if_pos (show i < 2 by omega), if_neg (show ¬ (i = 1 ∧ fxd (pall p F) v = true) from fun e => cf e.2), if_pos (show ((1 : Nat) : Int) = ((1 : Nat) : Int) ∧ i - 1 = 0 by omega)]; omega
        · rw [if_neg (show ¬ i < 2 by omega), if_neg (show ¬ (((1 : Nat) : Int) = ((1 : Nat) : Int) ∧ i - 1 = 0) by omega)]
          show _ = (if (mGr p F v 3 : Int) = ((1 : Nat) : Int) ∧ _ then (3 : Int) else (if (mGr p F v (3 + 1) : Int) = (mGr p F v 3 : Int) ∧ _ then (3 + 1 : Int) else -1))
          rw [if_neg (fun e => by have := e.1; omega), if_neg (fun e => by have := e.1; rw [show (3 : Int) + 1 = 4 from rfl] at this; omega)]
theorem tie_gap {T : Td} (hV : TdV T) (c v i : Int) : aGap T c v i = mAGap T c v i := by
  unfold aGap mAGap
  by_cases h : (0 ≤ c ∧ c < T.ct 0) ∧ (0 ≤ v ∧ v < (T.L c.toNat).length) ∧ 0 ≤ i
  · have hF := (Td.crv hV (q := c.toNat) (by omega)).1
    obtain ⟨h1, h2, h3⟩ := h
    rw [if_pos (show (0 ≤ c ∧ c < T.ct 0) ∧ (0 ≤ v ∧ v < (T.L c.toNat).length) ∧ 0 ≤ i from ⟨h1, h2, h3⟩)]
    rw [← gap_eq hF (v := v) (i := i) h2 h3]
    by_cases ci : i < gen (T.F c.toNat)
    · rw [if_pos ci, if_pos (show (0 ≤ c ∧ c < T.ct 0) ∧ (0 ≤ v ∧ v < (T.L c.toNat).length) ∧ 0 ≤ i ∧ i < gen (T.F c.toNat) from ⟨h1, h2, h3, ci⟩)]; rfl
    · rw [if_neg ci, if_neg (show ¬ ((0 ≤ c ∧ c < T.ct 0) ∧ (0 ≤ v ∧ v < (T.L c.toNat).length) ∧ 0 ≤ i ∧ i < gen (T.F c.toNat)) from fun e => ci e.2.2.2)]
  · rw [if_neg (show ¬ ((0 ≤ c ∧ c < T.ct 0) ∧ (0 ≤ v ∧ v < (T.L c.toNat).length) ∧ 0 ≤ i ∧ i < gen (T.F c.toNat)) from fun e => h ⟨e.1, e.2.1, e.2.2.1⟩), if_neg h]
