/-! ===== the number of classes; ORDER and LOG tied ===== -/
theorem Ph_irr {p : Int} {F : Nat → Int} (hC : CF p (gen F) F) {s t : Int} (ht : t % p ≠ 0) : Ph p F ((s * s - nsq p * (t * t)) % p) ((-2 * s) % p) = pov p F s t := by
  have hp := hC.1
  have hr := hp.rg
  unfold Ph
  rw [NV_irr hp (dvR_in (by omega) hC.2.1 0) (dvR_in (by omega) hC.2.1 1) ht, tI_p hp (emr _ (by omega)) (emr _ (by omega))]
  unfold pov
  rw [hq_rest hC s t]
theorem Ph_dbl {p : Int} {F : Nat → Int} (hC : CS p (gen F) F) (a : Int) : Ph p F ((a * a) % p) ((-(a + a)) % p) = Dv p (ev p F a) := by
  have hp := hC.1.1
  have hr := hp.rg
  unfold Ph
  rw [NV_dbl hp (dvR_in (by omega) hC.1.2.1 0) (dvR_in (by omega) hC.1.2.1 1), ← ev_rest hC.1 a a, tD_p hp (ev_rg (by omega) _ _) (dvR_in (by omega) hC.1.2.1 1)]
  unfold Dv
  by_cases c : ev p F a = 0
  · rw [if_pos c, if_pos c, if_neg (dbl_nz hC c)]
  · rw [if_neg c, if_neg c]
theorem Ph_spl {p : Int} {F : Nat → Int} (hC : CF p (gen F) F) {a b : Int} (ht : (b - a) % p ≠ 0) : Ph p F ((a * b) % p) ((-(a + b)) % p) = nY p (ev p F a) * nY p (ev p F b) := by
  have hp := hC.1
  have hr := hp.rg
  unfold Ph
  rw [NV_spl hp (dvR_in (by omega) hC.2.1 0) (dvR_in (by omega) hC.2.1 1) ht, ← ev_rest hC a b]
  have := ev_rest hC b a
  rw [Int.mul_comm b a, Int.add_comm b a] at this
  rw [← this]
theorem pov_0 {p : Int} {F : Nat → Int} (hC : CF p (gen F) F) (s : Int) : pov p F s 0 = pvV p (nsq p) (ev p F s) 0 := by
  have hr := hC.1.rg
  unfold pov pvV
  rw [hq_rest hC s 0]
  have e1 : (s * s - nsq p * (0 * 0)) % p = (s * s) % p := by rw [Int.mul_zero, Int.mul_zero, Int.sub_zero]
  have e2 : (-2 * s) % p = (-(s + s)) % p := by congr 1; omega
  rw [e1, e2, ← ev_rest hC s s, Int.zero_mul, Int.zero_emod]
theorem smT_k (k : Int) : ∀ n : Nat, smT n (fun _ => k) = n * k
  | 0 => by show (0 : Int) = ((0 : Nat) : Int) * k; rw [show ((0 : Nat) : Int) = 0 from rfl, Int.zero_mul]
  | n + 1 => by
    show smT n (fun _ => k) + k = ((n + 1 : Nat) : Int) * k
    rw [smT_k k n, show ((n + 1 : Nat) : Int) = (n : Int) + 1 by omega, Int.add_mul, Int.one_mul]
theorem smT_ad (f h : Nat → Int) (n : Nat) : smT n (fun i => f i + h i) = smT n f + smT n h := by
  have := smT_lin f h 1 1 n
  rw [Int.one_mul, Int.one_mul] at this
  rw [← this]
  exact smT_ext (fun i _ => by rw [Int.one_mul, Int.one_mul])
theorem rowX {p : Int} {F : Nat → Int} (hC : CS p (gen F) F) (s : Int) : smT p.toNat (fun t : Nat => Ph p F ((s * s - nsq p * ((t : Int) * t)) % p) ((-2 * s) % p)) = smT p.toNat (fun t : Nat => pov p F s t) + (Dv p (ev p F s) - pov p F s 0) := by
  have hr := hC.1.1.rg
  obtain ⟨m, hm⟩ : ∃ m : Nat, p.toNat = m + 1 := ⟨p.toNat - 1, by omega⟩
  rw [hm, smT_fst, smT_fst]
  have e0 : Ph p F ((s * s - nsq p * (((0 : Nat) : Int) * ((0 : Nat) : Int))) % p) ((-2 * s) % p) = Dv p (ev p F s) := by
    rw [← Ph_dbl hC s]
    have e1 : (s * s - nsq p * (((0 : Nat) : Int) * ((0 : Nat) : Int))) % p = (s * s) % p := by rw [show ((0 : Nat) : Int) = 0 from rfl, Int.mul_zero, Int.mul_zero, Int.sub_zero]
    have e2 : (-2 * s) % p = (-(s + s)) % p := by congr 1; omega
    rw [e1, e2]
  have e1 : smT m (fun i : Nat => Ph p F ((s * s - nsq p * (((i + 1 : Nat) : Int) * ((i + 1 : Nat) : Int))) % p) ((-2 * s) % p)) = smT m (fun i : Nat => pov p F s ((i + 1 : Nat) : Int)) := smT_ext (fun i hi => Ph_irr hC.1 (by rw [Int.emod_eq_of_lt (by omega) (by omega)]; omega))
  rw [e0, e1]
  show Dv p (ev p F s) + _ = pov p F s ((0 : Nat) : Int) + _ + (Dv p (ev p F s) - pov p F s 0)
  rw [show ((0 : Nat) : Int) = 0 from rfl]
  omega
theorem rowYs {p : Int} {F : Nat → Int} (hC : CS p (gen F) F) {a : Nat} (ha : a < p.toNat) : smT p.toNat (fun b : Nat => Ph p F (((a : Int) * b) % p) ((-((a : Int) + b)) % p)) = nY p (ev p F a) * smT p.toNat (fun b : Nat => nY p (ev p F b)) + (Dv p (ev p F a) - nY p (ev p F a) * nY p (ev p F a)) := by
  have hr := hC.1.1.rg
  rw [smT_ext (g := fun b : Nat => nY p (ev p F b) * nY p (ev p F a) + (if (a : Int) = (b : Int) then 1 else 0) * (Dv p (ev p F a) - nY p (ev p F a) * nY p (ev p F a))) (fun b hb => ?_)]
  · rw [smT_ad, smT_c, smT_val (fun _ => Dv p (ev p F a) - nY p (ev p F a) * nY p (ev p F a)) (by omega), Int.mul_comm]
  · by_cases c : a = b
    · subst c
      rw [if_pos rfl, Ph_dbl hC]; omega
    · rw [if_neg (by omega), Int.zero_mul, Int.add_zero, Ph_spl hC.1 (by
        rcases hC.1.1 with e | e | e | e | e <;> subst e <;> omega), Int.mul_comm]
theorem sqS_S2 {p : Int} {F : Nat → Int} : sqf p F = 1 + S2 p (fun s t => pov p F s t) := by
  have tT : ∀ (s : Int) (m : Nat) (t : Nat), sqT p F s m t = smT m (fun k => pov p F s ((t + k : Nat) : Int)) := fun s m => by
    induction m with
    | zero => exact fun _ => rfl
    | succ m ih =>
      intro t
      show pov p F s t + sqT p F s m ((t : Int) + 1) = _
      rw [smT_fst, show ((t : Int) + 1) = ((t + 1 : Nat) : Int) by omega, ih (t + 1), smT_ext (f := fun k => pov p F s ((t + (k + 1) : Nat) : Int)) (g := fun k => pov p F s ((t + 1 + k : Nat) : Int)) (fun k _ => by rw [show t + (k + 1) = t + 1 + k by omega])]
      rfl
  have tS : ∀ (m : Nat) (s : Nat), sqS p F m s = smT m (fun k => smT p.toNat (fun j => pov p F ((s + k : Nat) : Int) j)) := fun m => by
    induction m with
    | zero => exact fun _ => rfl
    | succ m ih =>
      intro s
      show sqT p F s p.toNat 0 + sqS p F m ((s : Int) + 1) = _
      rw [smT_fst, show ((s : Int) + 1) = ((s + 1 : Nat) : Int) by omega, ih (s + 1), smT_ext (f := fun k => smT p.toNat (fun j : Nat => pov p F ((s + (k + 1) : Nat) : Int) j)) (g := fun k => smT p.toNat (fun j : Nat => pov p F ((s + 1 + k : Nat) : Int) j)) (fun k _ => by rw [show s + (k + 1) = s + 1 + k by omega])]
      have := tT s p.toNat 0
      rw [smT_ext (g := fun k : Nat => pov p F s k) (fun k _ => by rw [Nat.zero_add])] at this
      rw [show ((0 : Nat) : Int) = 0 from rfl] at this
      rw [this]
      rfl
  unfold sqf S2
  have := tS p.toNat 0
  rw [show ((0 : Nat) : Int) = 0 from rfl] at this
  rw [this, smT_ext (g := fun k : Nat => smT p.toNat (fun j : Nat => pov p F k j)) (fun k _ => by rw [Nat.zero_add])]
def aN (p : Int) (F : Nat → Int) : Int := smT p.toNat (fun b : Nat => nY p (ev p F b))
theorem lg_num {p : Int} {F : Nat → Int} (hC : CS p (gen F) F) : 2 * ((lgA p F p.toNat 0).length : Int) = sqf p F - 1 - 2 * p + aN p F * aN p F := by
  have hp := hC.1.1
  have hr := hp.rg
  have l1 := lgA_len hC.1 p.toNat 0
  rw [smT_ext (g := fun k : Nat => smT p.toNat (fun j : Nat => Ph p F k j)) (fun k _ => by rw [Nat.zero_add])] at l1
  have l1 : ((lgA p F p.toNat 0).length : Int) = S2 p (Ph p F) := l1
  -- each U comes twice
  have rX := regroup (p := p) (Ph p F) (h := fun s t => (s * s - nsq p * (t * t)) % p) (k := fun s _ => (-2 * s) % p) (fun i j _ _ => ⟨emr _ (by omega), emr _ (by omega)⟩)
  have rY := regroup (p := p) (Ph p F) (h := fun a b => (a * b) % p) (k := fun a b => (-(a + b)) % p) (fun i j _ _ => ⟨emr _ (by omega), emr _ (by omega)⟩)
  have two : S2 p (fun s t => Ph p F ((s * s - nsq p * (t * t)) % p) ((-2 * s) % p)) + S2 p (fun a b => Ph p F ((a * b) % p) ((-(a + b)) % p)) = S2 p (Ph p F) * 2 := by
    rw [rX, rY, ← S2_add, ← S2_c]
    refine S2_ext (fun x y hx hy => ?_)
    rw [← Int.add_mul, tR_p hp hx hy, Int.mul_comm]
  have sX : S2 p (fun s t => Ph p F ((s * s - nsq p * (t * t)) % p) ((-2 * s) % p)) = S2 p (fun s t => pov p F s t) + smT p.toNat (fun s : Nat => Dv p (ev p F s) - pov p F s 0) := by
    unfold S2
    rw [← smT_ad]
    exact smT_ext (fun s _ => rowX hC s)
  have sY : S2 p (fun a b => Ph p F ((a * b) % p) ((-(a + b)) % p)) = aN p F * aN p F + smT p.toNat (fun a : Nat => Dv p (ev p F a) - nY p (ev p F a) * nY p (ev p F a)) := by
    unfold S2
    rw [smT_ext (g := fun a : Nat => nY p (ev p F a) * aN p F + (Dv p (ev p F a) - nY p (ev p F a) * nY p (ev p F a))) (fun a ha => rowYs hC ha), smT_ad, smT_c]
    rfl
  have s0 : smT p.toNat (fun s : Nat => Dv p (ev p F s) - pov p F s 0) + smT p.toNat (fun a : Nat => Dv p (ev p F a) - nY p (ev p F a) * nY p (ev p F a)) = -2 * p := by
    rw [← smT_ad, smT_ext (g := fun _ => -2) (fun s _ => by
      rw [pov_0 hC.1]
      have := t0_p hp (e := ev p F s) (ev_rg (by omega) _ _)
      omega), smT_k]
    omega
  have c2 := sqS_S2 (p := p) (F := F)
  rw [sX, sY, ← l1] at two
  omega
theorem cntY_nY {p v : Int} : ∀ (m y : Nat), (cntY p v m y : Int) = smT m (fun k => if (((y + k : Nat) : Int) * ((y + k : Nat) : Int)) % p = v then 1 else 0)
  | 0, y => rfl
  | m + 1, y => by
    unfold cntY
    rw [smT_fst, smT_ext (f := fun k => if (((y + (k + 1) : Nat) : Int) * ((y + (k + 1) : Nat) : Int)) % p = v then (1 : Int) else 0) (g := fun k => if (((y + 1 + k : Nat) : Int) * ((y + 1 + k : Nat) : Int)) % p = v then 1 else 0) (fun k _ => by rw [show y + (k + 1) = y + 1 + k by omega]), ← cntY_nY m (y + 1), show ((y : Int) + 1) = ((y + 1 : Nat) : Int) by omega]
    by_cases c : ((y : Int) * y) % p = v
    · have c' : (((y + 0 : Nat) : Int) * ((y + 0 : Nat) : Int)) % p = v := c
      rw [if_pos c, if_pos c']; omega
    · have c' : ¬ (((y + 0 : Nat) : Int) * ((y + 0 : Nat) : Int)) % p = v := c
      rw [if_neg c, if_neg c']; omega
theorem pts_num {p : Int} {F : Nat → Int} : ((pts p F).length : Int) = aN p F := by
  have h : ∀ (m x : Nat), ((colX p F m x).length : Int) = smT m (fun k => nY p (ev p F ((x + k : Nat) : Int))) := fun m => by
    induction m with
    | zero => exact fun _ => rfl
    | succ m ih =>
      intro x
      unfold colX
      rw [List.length_append, rowY_len, smT_fst, smT_ext (f := fun k => nY p (ev p F ((x + (k + 1) : Nat) : Int))) (g := fun k => nY p (ev p F ((x + 1 + k : Nat) : Int))) (fun k _ => by rw [show x + (k + 1) = x + 1 + k by omega]), ← ih (x + 1)]
      have e := cntY_nY (p := p) (v := ev p F x) p.toNat 0
      rw [smT_ext (g := fun y : Nat => if ((y : Int) * y) % p = ev p F x then 1 else 0) (fun k _ => by rw [Nat.zero_add])] at e
      have e : (cntY p (ev p F x) p.toNat 0 : Int) = nY p (ev p F x) := e
      rw [show ((x : Int) + 1) = ((x + 1 : Nat) : Int) by omega]
      show ((_ + _ : Nat) : Int) = nY p (ev p F ((x : Nat) : Int)) + _
      omega
  have := h p.toNat 0
  rw [smT_ext (g := fun k : Nat => nY p (ev p F k)) (fun k _ => by rw [Nat.zero_add])] at this
  exact this
theorem ng_md {p u : Int} (hp : IsP p) (hu : 0 ≤ u ∧ u < p) : (-((-u) % p)) % p = u := by
  rw [show -(-u % p) = (-1) * (-u % p) by omega, Int.mul_comm, mul_md, show -u * -1 = u by omega, Int.emod_eq_of_lt hu.1 hu.2]
theorem l1X_num {p : Int} (hp : IsP p) {F : Nat → Int} : (l1X p F p.toNat 0).length = (pts p F).length := by
  have hr := hp.rg
  have pt : ∀ x y : Int, (0 ≤ x ∧ x < p) → (0 ≤ y ∧ y < p) → (0 ≤ ptN (pall p F) x y ↔ (x, y) ∈ pts p F) := fun x y hx hy => by
    have h := ptN_iff hp (F := F) (x := x) (y := y) hx.1 hy.1
    have g := (pAt_rg (pall p F) x y (pall p F).length 0).1
    have g : -1 ≤ ptN (pall p F) x y := g
    constructor
    · intro k
      obtain ⟨q, q1, q2⟩ := pts_has (p := p) (F := F) (by omega) hx hy (h.mp (by omega)).2.2
      rw [pall_pts q1] at q2
      rw [← q2, List.getD_eq_getElem?_getD, List.getElem?_eq_getElem q1]
      exact List.getElem_mem q1
    · intro k
      have m := pts_mem (p := p) (F := F) (by omega) k
      have := h.mpr ⟨hx.2, hy.2, m.2.2⟩
      omega
  have nd1 : (l1X p F p.toNat 0).Nodup := (l1X_asc (p := p) (by omega) (F := F) p.toNat 0).2.imp (fun hab e => by rw [e] at hab; omega)
  have ndp : (pts p F).Nodup := colX_nd (by omega) _ _
  have nd2 : ((pts p F).map (fun e => uv1 ((-e.1) % p) e.2)).Nodup := by
    refine List.pairwise_map.mpr (List.Pairwise.imp_of_mem ?_ ndp)
    intro a b ha hb hab e
    have ma := pts_mem (p := p) (F := F) (by omega) ha
    have mb := pts_mem (p := p) (F := F) (by omega) hb
    have e1 : (-a.1) % p = (-b.1) % p := congrFun (congrArg Prod.fst e) 0
    have e2 : a.2 = b.2 := congrFun (congrArg Prod.snd e) 0
    refine hab (Prod.ext ?_ e2)
    rw [← ng_md hp ma.1, ← ng_md hp mb.1, e1]
  have pm := (List.perm_ext_iff_of_nodup nd1 nd2).mpr (fun A => ?_)
  · rw [pm.length_eq, List.length_map]
  · rw [l1X_mem, List.mem_map]
    constructor
    · rintro ⟨x, k, h1, h2, h3, h4⟩
      have x1 := emr (-(x : Int)) (p := p) (by omega)
      refine ⟨((-(x : Int)) % p, (k : Int)), (pt _ _ x1 (by omega)).mp h4, ?_⟩
      show uv1 ((-((-(x : Int)) % p)) % p) k = A
      rw [ng_md hp (by omega)]; exact h3.symm
    · rintro ⟨e, he, rfl⟩
      have m := pts_mem (p := p) (F := F) (by omega) he
      have x1 := emr (-e.1) (p := p) (by omega)
      refine ⟨((-e.1) % p).toNat, e.2.toNat, by omega, by omega, ?_, ?_⟩
      · rw [Int.toNat_of_nonneg x1.1, Int.toNat_of_nonneg m.2.1.1]
      · rw [Int.toNat_of_nonneg x1.1, Int.toNat_of_nonneg m.2.1.1, ng_md hp m.1]
        exact (pt _ _ m.1 m.2.1).mpr he
theorem cls_num {p : Int} {F : Nat → Int} (hC : CS p (gen F) F) : ((clsL p F (gen F)).length : Int) = nCl p F := by
  have hp := hC.1.1
  have hr := hp.rg
  have pn := pts_num (p := p) (F := F)
  have l1 := l1X_num hp (F := F)
  have pl := pall_le (p := p) (F := F)
  unfold clsL nCl
  rw [List.length_append, List.length_append]
  rcases hC.1.2.2.2.2 with g | g
  · rw [if_neg (by omega), g]
    show ((1 + _ + 0 : Nat) : Int) = shA (shF p F) 1 3 0
    show _ = ((0 * 1 + shF p F 2) * 1 + shF p F 1) * 1 + shF p F 0
    unfold shF shr
    rw [g, if_neg (by decide), if_neg (by decide), if_pos rfl, if_pos rfl, if_neg (by decide), if_pos rfl, if_pos rfl]
    omega
  · rw [if_pos g, g]
    have lg := lg_num hC
    have c2 : c2F p F = sqf p F := by unfold c2F; rw [if_neg (by omega)]
    show ((1 + _ + _ : Nat) : Int) = shA (shF p F) 1 5 0
    show _ = ((((0 * 1 + shF p F 4) * 1 + shF p F 3) * 1 + shF p F 2) * 1 + shF p F 1) * 1 + shF p F 0
    unfold shF shr
    rw [g, c2]
    have e0 : (if (0 : Nat) = 0 then (1 : Int) else if (0 : Nat) = 1 then ((pall p F).length : Int) - p - 1 else if (2 : Int) = 1 then (if (0 : Nat) = 2 then p else 0) else if (0 : Nat) = 2 then Int.tdiv (sqf p F - p * p - 1 + (((pall p F).length : Int) - p - 1) * (((pall p F).length : Int) - p - 1)) 2 else if (0 : Nat) = 3 then p * (((pall p F).length : Int) - p - 1) else if (0 : Nat) = 4 then p * p else 0) = 1 := rfl
    obtain ⟨N, hN⟩ : ∃ N : Int, ((pall p F).length : Int) = N := ⟨_, rfl⟩
    have hA : aN p F = N - 1 := by omega
    rw [hA] at lg
    rw [hN] at *
    show _ = ((((0 * 1 + p * p) * 1 + p * (N - p - 1)) * 1 + Int.tdiv (sqf p F - p * p - 1 + (N - p - 1) * (N - p - 1)) 2) * 1 + (N - p - 1)) * 1 + 1
    obtain ⟨l, hl⟩ : ∃ l : Int, (((lgA p F p.toNat 0).length : Nat) : Int) = l := ⟨_, rfl⟩
    rw [hl] at lg
    have e : sqf p F - p * p - 1 + (N - p - 1) * (N - p - 1) = 2 * (l + p - (N - 1) * p) := by
      have : sqf p F = 2 * l + 1 + 2 * p - (N - 1) * (N - 1) := by omega
      rw [this]; clear lg this hA hN pn l1 pl; grind
    rw [e, Int.mul_comm 2, Int.mul_tdiv_cancel _ (by decide)]
    have f : ((((0 * 1 + p * p) * 1 + p * (N - p - 1)) * 1 + (l + p - (N - 1) * p)) * 1 + (N - p - 1)) * 1 + 1 = N + l := by clear lg e hA hN pn l1 pl; grind
    rw [f]
    show ((1 + _ + _ : Nat) : Int) = _
    omega
