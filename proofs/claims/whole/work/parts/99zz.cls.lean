/-! ===== values; the class's own list of all classes ===== -/
theorem ev_c {S : Type} [Lean.Grind.CommRing S] {p : Int} {cs : S → Nat → Int} {c : Int → S} {tp : Nat → S} (hS : SerR p cs c tp) (f : Nat → Int) (X : Int) : EV c (c X) 24 f = c (ev p f X) := by
  rw [ev_co hS (θ := c X) (X := X) (by rw [hS.2.2.2.2.2.1, if_pos rfl]) f]
  have cst : ∀ (n : Nat) (w : Nat → Int), ∃ k : Int, EV c (c X) n w = c k := fun n => by
    induction n with
    | zero => exact fun w => ⟨0, by show (0 : S) = c 0; rw [hS.2.1.2.2.2.1]⟩
    | succ n ih =>
      intro w
      obtain ⟨k, hk⟩ := ih (shL w)
      exact ⟨w 0 + X * k, by show c (w 0) + c X * EV c (c X) n (shL w) = _; rw [hk, hS.2.1.1, hS.2.1.2.1]⟩
  obtain ⟨k, hk⟩ := cst 24 f
  rw [hk, hS.2.2.2.2.2.1, if_pos rfl, hS.2.1.2.2.1]
theorem c_inj {S : Type} [Lean.Grind.CommRing S] {p : Int} {cs : S → Nat → Int} {c : Int → S} {tp : Nat → S} (hS : SerR p cs c tp) {a b : Int} (h : c a = c b) : a % p = b % p := by
  have h1 := hS.2.2.2.2.2.1 a 0
  have h2 := hS.2.2.2.2.2.1 b 0
  rw [if_pos rfl] at h1 h2
  rw [← h1, ← h2, h]
theorem with_ser {p : Int} (hp : IsP p) {C : Prop} (h : ∀ (S : Type) (_ : Lean.Grind.CommRing S) (cs : S → Nat → Int) (c : Int → S) (tp : Nat → S), SerR p cs c tp → C) : C := by
  have hr := hp.rg
  exact h _ (srRing (by omega)) _ _ _ (sr_Ser hp (by omega))
theorem ev_mul {p : Int} (hp : IsP p) {f h : Nat → Int} {n m : Nat} (hf : Dlt f n) (hh : Dlt h m) (hn : n + m ≤ 24) (X : Int) : ev p (pmul p f h) X = (ev p f X * ev p h X) % p :=
  with_ser hp (fun S _ cs c tp hS => by
    have hr := hp.rg
    have e := EV_pmul hS.2.1 (c X) hf hh hn
    rw [ev_c hS, ev_c hS, ev_c hS, ← hS.2.1.2.1] at e
    have := c_inj hS e
    rw [Int.emod_eq_of_lt (ev_rg (by omega) _ X).1 (ev_rg (by omega) _ X).2] at this
    exact this)
theorem ev_add {p : Int} (hp : IsP p) (f h : Nat → Int) (k X : Int) : ev p (padd p f h k) X = (ev p f X + k * ev p h X) % p :=
  with_ser hp (fun S _ cs c tp hS => by
    have hr := hp.rg
    have e := EV_padd hS.2.1 (c X) 24 f h k
    rw [ev_c hS, ev_c hS, ev_c hS, ← hS.2.1.2.1, ← hS.2.1.1] at e
    have := c_inj hS e
    rw [Int.emod_eq_of_lt (ev_rg (by omega) _ X).1 (ev_rg (by omega) _ X).2] at this
    exact this)
theorem ev_2 {p : Int} (hp : IsP p) {f : Nat → Int} (h : Dlt f 2) (X : Int) : ev p f X = (f 0 + X * f 1) % p :=
  with_ser hp (fun S _ cs c tp hS => by
    have hr := hp.rg
    have e := EV_bd hS.2.1 (c X) (show 2 ≤ 24 by decide) h
    rw [ev_c hS] at e
    have e2 : EV c (c X) 2 f = c (f 0 + X * f 1) := by
      show c (f 0) + c X * (c (f 1) + c X * 0) = _
      rw [hS.2.1.1, hS.2.1.2.1]; grind
    rw [e2] at e
    have := c_inj hS e
    rw [Int.emod_eq_of_lt (ev_rg (by omega) _ X).1 (ev_rg (by omega) _ X).2] at this
    exact this)
theorem uv1_pnt {p u v : Int} (hp : IsP p) (hu : 0 ≤ u ∧ u < p) (hv : 0 ≤ v ∧ v < p) : uv1 u v = pnt p ((-u) % p) v := Prod.ext (funext fun i => by
  have hr := hp.rg
  show (if i = 0 then u else if i = 1 then 1 else 0) = ulin p ((-u) % p) i
  unfold ulin
  by_cases c : i = 0
  · rw [if_pos c, if_pos c]
    have h1 : (-(-u % p)) % p = (-(-u)) % p := by
      rw [show -(-u % p) = (-1) * (-u % p) by omega, Int.mul_comm, mul_md]; congr 1; omega
    rw [h1, Int.neg_neg, Int.emod_eq_of_lt hu.1 hu.2]
  · rw [if_neg c, if_neg c]) (funext fun i => by
  show pcon v i = pcon (v % p) i
  rw [Int.emod_eq_of_lt hv.1 hv.2])
theorem uv1_GP {p : Int} {F : Nat → Int} (hC : CF p (gen F) F) {u v : Int} (hu : 0 ≤ u ∧ u < p) (hv : 0 ≤ v ∧ v < p) : GP p (gen F) F (uv1 u v) ↔ v * v % p = ev p F ((-u) % p) := by
  have hp := hC.1
  have hr := hp.rg
  have hg := hC.2.2.2.2
  constructor
  · rintro ⟨-, w, w1, w2, w3⟩
    have d1 : Dlt (uv1 u v).1 2 := fun i hi => by show (if i = 0 then u else if i = 1 then 1 else 0) = (0 : Int); rw [if_neg (by omega), if_neg (by omega)]
    have d2 : Dlt (uv1 u v).2 1 := fun i hi => by show pcon v i = 0; unfold pcon; rw [if_neg (by omega)]
    have dw : Dlt w 22 := fun i hi => by
      have f3 : Fin F := hC.2.2.1
      -- the product has at most 6 numbers: w is short
      have hF : F = padd p (pmul p (uv1 u v).1 w) (pmul p (uv1 u v).2 (uv1 u v).2) 1 := by
        rw [w3]; funext j
        show (pmul p (uv1 u v).2 (uv1 u v).2 j + 1 * pmul p (uv1 u v).1 w j) % p = (pmul p (uv1 u v).1 w j + 1 * pmul p (uv1 u v).2 (uv1 u v).2 j) % p
        rw [Int.one_mul, Int.one_mul, Int.add_comm]
      have rp := (uv1_ok (g := gen F) hp (by omega) hu hv).1
      have hq := (dv_uni hp hC.2.1 f3 rp.1.1 rp.1.2 rp.2.2.1 w1 (pmul_in (by omega)) (fun j hj => by
        rw [uv1_pd] at hj
        have hj : 1 ≤ j := hj
        have := dlt_pmul (p := p) d2 d2
        by_cases cj : 2 ≤ j
        · exact this j cj
        · have e1 : j = 1 := by omega
          rw [e1, pmul_cv]
          have : cv (uv1 u v).2 (uv1 u v).2 1 = (uv1 u v).2 0 * (uv1 u v).2 1 + (uv1 u v).2 1 * (uv1 u v).2 0 := by
            show 0 + (uv1 u v).2 0 * (uv1 u v).2 (1 - 0) + (uv1 u v).2 1 * (uv1 u v).2 (1 - 1) = _
            rw [Int.zero_add]
          rw [this, d2 1 (by omega), Int.mul_zero, Int.zero_mul]; rfl) (m := 24) w2 hF).1
      rw [hq]
      have := pd_dvQ (p := p) (f := F) (g := (uv1 u v).1)
      have hpd := hC.2.2.2.1
      have e1 := uv1_pd u v
      exact pd_hi (dvq_fin (by omega)) i (by omega)
    have e := congrArg (fun f => ev p f ((-u) % p)) w3
    have e : ev p F ((-u) % p) = ev p (padd p (pmul p (uv1 u v).2 (uv1 u v).2) (pmul p (uv1 u v).1 w) 1) ((-u) % p) := e
    rw [ev_add hp, ev_mul hp d2 d2 (by decide), ev_mul hp d1 dw (by decide), ev_2 hp d1, ev_2 hp (f := (uv1 u v).2) (fun i hi => d2 i (by omega))] at e
    have z1 : ((uv1 u v).1 0 + -u % p * (uv1 u v).1 1) % p = 0 := by
      show (u + -u % p * 1) % p = 0
      rw [Int.mul_one, Int.add_emod_emod, Int.add_right_neg]; rfl
    have z2 : ((uv1 u v).2 0 + -u % p * (uv1 u v).2 1) % p = v := by
      show (v + -u % p * 0) % p = v
      rw [Int.mul_zero, Int.add_zero, Int.emod_eq_of_lt hv.1 hv.2]
    rw [z1, z2, Int.zero_mul, Int.zero_emod, Int.mul_zero, Int.add_zero, Int.emod_emod] at e
    exact e.symm
  · intro h
    rw [uv1_pnt hp hu hv]
    exact pnt_GP hC h
theorem l1Y_mem {p : Int} {F : Nat → Int} {u : Nat} {A : UV} : ∀ m v : Nat, A ∈ l1Y p F u m v ↔ ∃ k : Nat, v ≤ k ∧ k < v + m ∧ A = uv1 u k ∧ 0 ≤ ptN (pall p F) ((-(u : Int)) % p) k
  | 0, v => ⟨fun h => (by cases h), fun ⟨k, h1, h2, _⟩ => (by omega)⟩
  | m + 1, v => by
    unfold l1Y
    rw [List.mem_append, l1Y_mem m (v + 1)]
    constructor
    · rintro (h | ⟨k, h1, h2, h3⟩)
      · by_cases cv : 0 ≤ ptN (pall p F) ((-(u : Int)) % p) v
        · rw [if_pos cv] at h
          exact ⟨v, by omega, by omega, List.mem_singleton.mp h, cv⟩
        · rw [if_neg cv] at h; cases h
      · exact ⟨k, by omega, by omega, h3⟩
    · rintro ⟨k, h1, h2, h3, h4⟩
      by_cases ck : k = v
      · left
        rw [ck] at h3 h4
        rw [if_pos h4, h3]
        exact List.mem_singleton.mpr rfl
      · exact Or.inr ⟨k, by omega, by omega, h3, h4⟩
theorem l1X_mem {p : Int} {F : Nat → Int} {A : UV} : ∀ m u : Nat, A ∈ l1X p F m u ↔ ∃ x k : Nat, (u ≤ x ∧ x < u + m) ∧ k < p.toNat ∧ A = uv1 x k ∧ 0 ≤ ptN (pall p F) ((-(x : Int)) % p) k
  | 0, u => ⟨fun h => (by cases h), fun ⟨x, k, h1, _⟩ => (by omega)⟩
  | m + 1, u => by
    unfold l1X
    rw [List.mem_append, l1X_mem m (u + 1), l1Y_mem]
    constructor
    · rintro (⟨k, h1, h2, h3⟩ | ⟨x, k, h1, h2⟩)
      · exact ⟨u, k, by omega, by omega, h3⟩
      · exact ⟨x, k, by omega, h2⟩
    · rintro ⟨x, k, h1, h2, h3⟩
      by_cases cx : x = u
      · rw [cx] at h3
        exact Or.inl ⟨k, by omega, by omega, h3⟩
      · exact Or.inr ⟨x, k, by omega, h2, h3⟩
/-- of degree 2: what its numbers must meet -/
theorem uv2_GP {p : Int} {F : Nat → Int} (hC : CF p (gen F) F) (hg2 : gen F = 2) {u0 u1 v0 v1 : Int} (h0 : 0 ≤ u0 ∧ u0 < p) (h1 : 0 ≤ u1 ∧ u1 < p) (g0 : 0 ≤ v0 ∧ v0 < p) (g1 : 0 ≤ v1 ∧ v1 < p) : GP p (gen F) F (uv2 u0 u1 v0 v1) ↔ (v0 * v0 - v1 * v1 * u0) % p = dvR p F (uqd u0 u1) 0 ∧ (2 * v0 * v1 - v1 * v1 * u1) % p = dvR p F (uqd u0 u1) 1 :=
  with_ring hC (fun R _ co f hP e => by
    subst e
    have hp := hC.1
    have hr := hp.rg
    have rp := (uv2_ok hp h0 h1 g0 g1).1
    have rpg : RP p (gen (co f)) (uv2 u0 u1 v0 v1) := by rw [hg2]; exact rp
    obtain ⟨U, hU⟩ := cR_mk hP rp.1.1 rp.1.2
    obtain ⟨V, hV⟩ := cR_mk hP rp.2.1.1 rp.2.1.2
    obtain ⟨K, hK⟩ := cR_cst hP (v1 * v1)
    have hU' : co U = uqd u0 u1 := hU
    obtain ⟨s, hs, ds⟩ := hP.mk (f := fun i => if i = 0 then (v0 * v0 - v1 * v1 * u0) % p else if i = 1 then (2 * v0 * v1 - v1 * v1 * u1) % p else 0) (n := 2) (fun i => by
      show 0 ≤ (if i = 0 then (v0 * v0 - v1 * v1 * u0) % p else if i = 1 then (2 * v0 * v1 - v1 * v1 * u1) % p else 0) ∧ (if i = 0 then (v0 * v0 - v1 * v1 * u0) % p else if i = 1 then (2 * v0 * v1 - v1 * v1 * u1) % p else 0) < p
      split
      · exact emr _ (by omega)
      · split
        · exact emr _ (by omega)
        · omega) (fun i hi => by show (if i = 0 then (v0 * v0 - v1 * v1 * u0) % p else if i = 1 then (2 * v0 * v1 - v1 * v1 * u1) % p else 0) = 0; rw [if_neg (by omega), if_neg (by omega)])
    have vv : V * V = U * K + s := cR_ext hP (by
      rw [cR_mul hP, cR_add hP, hK, hU', hV, hs]
      funext i
      rw [pmul_cv]
      unfold padd pscl
      have dv : Dlt (uv2 u0 u1 v0 v1).2 2 := fun i hi => by show (if i = 0 then v0 else if i = 1 then v1 else 0) = 0; rw [if_neg (by omega), if_neg (by omega)]
      by_cases c0 : i = 0
      · rw [c0, cv_0]
        show v0 * v0 % p = (u0 * (v1 * v1) % p + 1 * ((v0 * v0 - v1 * v1 * u0) % p)) % p
        rw [Int.one_mul, ← Int.add_emod]; congr 1
        rw [Int.mul_comm u0]; omega
      · by_cases c1 : i = 1
        · rw [c1]
          have : cv (uv2 u0 u1 v0 v1).2 (uv2 u0 u1 v0 v1).2 1 = v0 * v1 + v1 * v0 := by
            show 0 + v0 * v1 + v1 * v0 = _
            rw [Int.zero_add]
          rw [this]
          show (v0 * v1 + v1 * v0) % p = (u1 * (v1 * v1) % p + 1 * ((2 * v0 * v1 - v1 * v1 * u1) % p)) % p
          rw [Int.one_mul, ← Int.add_emod]; congr 1
          rw [Int.mul_comm u1, Int.mul_comm v1 v0, Int.mul_assoc 2]; omega
        · by_cases c2 : i = 2
          · rw [c2]
            have : cv (uv2 u0 u1 v0 v1).2 (uv2 u0 u1 v0 v1).2 2 = v1 * v1 := by
              show 0 + v0 * 0 + v1 * v1 + 0 * v0 = _
              rw [Int.mul_zero, Int.zero_mul]; omega
            rw [this]
            show (v1 * v1) % p = (1 * (v1 * v1) % p + 1 * 0) % p
            rw [Int.mul_zero, Int.add_zero, Int.one_mul, Int.emod_emod]
          · have z := dlt_pmul (p := p) dv dv
            have z2 : cv (uv2 u0 u1 v0 v1).2 (uv2 u0 u1 v0 v1).2 i % p = 0 := by
              rw [← pmul_cv]
              by_cases c3 : 4 ≤ i
              · exact z i c3
              · have : i = 3 := by omega
                rw [this, pmul_cv]
                have : cv (uv2 u0 u1 v0 v1).2 (uv2 u0 u1 v0 v1).2 3 = 0 := by
                  show 0 + v0 * 0 + v1 * 0 + 0 * v1 + 0 * v0 = 0
                  rw [Int.mul_zero, Int.mul_zero, Int.zero_mul, Int.zero_mul]; rfl
                rw [this]; rfl
            rw [z2]
            show 0 = ((if i = 0 then u0 else if i = 1 then u1 else if i = 2 then 1 else 0) * (v1 * v1) % p + 1 * (if i = 0 then (v0 * v0 - v1 * v1 * u0) % p else if i = 1 then (2 * v0 * v1 - v1 * v1 * u1) % p else 0)) % p
            rw [if_neg c0, if_neg c1, if_neg c2, if_neg c0, if_neg c1, Int.zero_mul]; rfl)
    have fU : Fin (co U) := by rw [hU]; exact rp.1.2
    have pU : pd (co U) = 2 := by rw [hU']; exact uqd_pd u0 u1
    obtain ⟨q, r, q1, q2, q3⟩ := cR_div hP (f := f) (g := U) hC.2.2.1 fU (by omega)
    rw [hU'] at q2
    have sf : Fin (co s) := fun i hi => ds i (by omega)
    have s0 : co s 0 = (v0 * v0 - v1 * v1 * u0) % p := by rw [hs]; rfl
    have s1 : co s 1 = (2 * v0 * v1 - v1 * v1 * u1) % p := by rw [hs]; rfl
    rw [← s0, ← s1, ← q2]
    constructor
    · rintro ⟨-, hv⟩
      obtain ⟨W, w1, w2⟩ := (Vl_ring hP hU hV).mp hv
      have e1 : f = U * (K + W) + s := by rw [w2, vv]; grind
      have h := (dv_uni hp (cR_in hP f) hC.2.2.1 (cR_in hP U) fU (by omega) (cR_in hP (K + W)) (cR_in hP s) (fun i hi => ds i (by rw [pU] at hi; exact hi)) (m := (Classical.choose (hP.2.2.2.2.2.2.2.1 (K + W)))) (Classical.choose_spec (hP.2.2.2.2.2.2.2.1 (K + W))) (by rw [← cR_mul hP, ← cR_add hP, ← e1])).2
      rw [hU', ← q2] at h
      rw [h]; exact ⟨rfl, rfl⟩
    · rintro ⟨h2, h3⟩
      have dr : Dg co r 2 := fun i hi => by
        rw [q2]
        have := pd_dvR_lt hp hC.2.2.1 (cR_in hP U) (by omega)
        rw [hU', uqd_pd] at this
        exact pd_hi (dvr_fin hC.2.2.1 (by rw [uqd_pd]; decide)) i (by omega)
      have sr : s = r := hP.2.2.2.2.2.2.1 _ _ (fun i => by
        by_cases c0 : i = 0
        · rw [c0]; exact h2
        · by_cases c1 : i = 1
          · rw [c1]; exact h3
          · rw [ds i (by omega), dr i (by omega)])
      have e2 : f = V * V + U * (q - K) := by rw [vv, q3, sr]; grind
      have fW := fin_nW hP (F := f) (U := U) (V := V) (W := q - K) hC.2.2.1 fU (by rw [hV]; exact rp.2.1.2) (by
        have h5 := rp.2.2.2.2.1
        have h4 := rp.2.2.2.1
        rw [hV]; omega) (by omega) e2
      exact ⟨rpg, (Vl_ring hP hU hV).mpr ⟨q - K, fW.2.1, e2⟩⟩)
