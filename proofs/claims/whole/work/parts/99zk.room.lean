/-! ===== ROOM, BASE: class and reference answer alike ===== -/
theorem AppR.nil (W : Lq) (Q : Nat → Nat → Int) : AppR W W 0 Q := ⟨rfl, fun _ _ _ => rfl, fun t j h => by omega⟩
theorem blk_0 {p : Int} {F O D : Nat → Int} {po : Int} {x : Int} (hx : 0 ≤ x ∧ x < 13) (hD : D x.toNat = 0) (hO : ∀ y : Nat, y < 13 → O (13 * x.toNat + y) = 0) : ∀ (l : List (Int × Int)) (w W : Lq), (∀ e, e ∈ l → e.1 = x ∧ 0 ≤ e.2 ∧ e.2 < 13) → RSet w W → w.2 ≤ 40 → RSet (l.foldl (askC p F po (mDt p F O D) O) w) W
  | [], w, W, _, h, _ => h
  | e :: l, w, W, hl, h, h40 => by
    obtain ⟨e1, e2, e3⟩ := hl e List.mem_cons_self
    have ez : zzC (mDt p F O D) O e = ((0 : Nat) : Int) := by
      unfold zzC mDt
      have h1 := hO e.2.toNat (by omega)
      rw [e1, if_pos hD, show (13 * x + e.2).toNat = 13 * x.toNat + e.2.toNat from by omega, h1]
      split <;> rfl
    rw [List.foldl_cons]
    have ap := askC_app (p := p) (F := F) (po := po) (D := mDt p F O D) (O := O) (w := w) (e := e) (z := 0) ez (by omega)
    exact blk_0 hx hD hO l _ W (fun e he => hl e (List.mem_cons_of_mem _ he)) (h.app ap (AppR.nil W (fun _ _ => 0)) (fun t ht => by omega) (fun t ht => by omega)) (by rw [ap.1]; omega)
theorem rowY_nil {p x : Int} (hp : IsP p) : ∀ (m : Nat) (y : Int), 1 ≤ y → y + m ≤ p → rowY p 0 x m y = []
  | 0, _, _, _ => rfl
  | m + 1, y, h1, h2 => by
    unfold rowY
    rw [if_neg (fun h => by have := sq_0 hp (y := y) ⟨by omega, by omega⟩ h; omega)]
    exact rowY_nil hp m (y + 1) (by omega) (by omega)
theorem blk_x {p : Int} (hp : IsP p) {F O D : Nat → Int} {po : Int} {x : Int} (hx : 0 ≤ x ∧ x < p) (hO : D x.toNat = 0 → ∀ y : Nat, y < 13 → O (13 * x.toNat + y) = 0) {w W : Lq} (h : RSet w W) (h40 : (if D x.toNat = 0 then W else mCd p F O (gen F).toNat po x W).2 ≤ 40) (hw : w.2 ≤ 40) : RSet ((rowY p (ev p F x) x p.toNat 0).foldl (askC p F po (mDt p F O D) O) w) (if D x.toNat = 0 then W else mCd p F O (gen F).toNat po x W) := by
  have hr := hp.rg
  by_cases hD : D x.toNat = 0
  · rw [if_pos hD]
    exact blk_0 ⟨hx.1, by omega⟩ hD (hO hD) _ w W (fun e he => by have := rowY_mem _ _ _ he; exact ⟨this.1, this.2.1, by omega⟩) h hw
  · rw [if_neg hD] at h40 ⊢
    obtain ⟨n, hn⟩ : ∃ n : Nat, p.toNat = n + 1 := ⟨p.toNat - 1, by omega⟩
    have hw := h.1
    by_cases c : ev p F x = 0
    · have e1 : rowY p (ev p F x) x p.toNat 0 = [(x, 0)] := by
        rw [c, hn]
        show (if (0 : Int) * 0 % p = 0 then (x, 0) :: rowY p 0 x n (0 + 1) else rowY p 0 x n (0 + 1)) = _
        rw [if_pos (by rfl), rowY_nil hp n (0 + 1) (by omega) (by omega)]
      have zn := zz_nn hp (F := F) (O := O) (D := D) (y := 0) hx ⟨by omega, by omega⟩ (by rw [c]; rfl) hD
      have ez : zzC (mDt p F O D) O (x, 0) = 2 * mDp p F O x - O (13 * x).toNat := by
        show (if (0 : Int) = 0 then 2 * mDt p F O D x.toNat else mDt p F O D x.toNat) - O (13 * x + 0).toNat = _
        rw [if_pos rfl, Int.add_zero]
        unfold mDt
        rw [if_neg hD, show ((x.toNat : Nat) : Int) = x from by omega]
      rw [ez] at zn
      have e2 : mCd p F O (gen F).toNat po x W = wtM p (gen F).toNat po x (fun _ => 0) 2 (Int.tdiv (2 * mDp p F O x - O (13 * x).toNat) 2).toNat (wtM p (gen F).toNat po x (fun _ => 0) 1 (Int.tdiv (2 * mDp p F O x - O (13 * x).toNat + 1) 2).toNat W) := by
        unfold mCd
        rw [if_pos c]
      rw [e2] at h40 ⊢
      rw [e1]
      generalize 2 * mDp p F O x - O (13 * x).toNat = z at *
      rw [Int.tdiv_eq_ediv_of_nonneg (by omega), Int.tdiv_eq_ediv_of_nonneg (by omega)] at *
      have h40 : W.2 + ((z + 1) / 2).toNat + (z / 2).toNat ≤ 40 := h40
      have ap := AppR.trans (wtM_app (p := p) (g := (gen F).toNat) (mo := po) (X := x) (S := fun _ => 0) (t := 1) (n := ((z + 1) / 2).toNat) (W := W)) (wtM_app (p := p) (g := (gen F).toNat) (mo := po) (X := x) (S := fun _ => 0) (t := 2) (n := (z / 2).toNat))
      have aq := askC_app (p := p) (F := F) (po := po) (D := mDt p F O D) (O := O) (w := w) (e := (x, 0)) (z := ((z + 1) / 2).toNat + (z / 2).toNat) (by rw [ez]; omega) (by omega)
      have rf := fun (q j : Nat) => row_fix hp (F := F) (po := po) (X := x) (y := 0) (z := ((z + 1) / 2).toNat + (z / 2).toNat) (S := fun _ => 0) (q := q) j
      refine h.app aq ap (fun t ht => ?_) (fun s hs => ?_)
      · by_cases ct : t % 2 = 0
        · refine ⟨t / 2, by omega, fun j => ?_⟩
          show askF p F po x 0 true _ t j = (if t / 2 < ((z + 1) / 2).toNat then (_ : Nat → Int) else _) j
          rw [if_pos (by omega)]
          have := (rf (t / 2) j).1 (by omega)
          rw [show 2 * (t / 2) = t from by omega] at this
          exact this
        · refine ⟨((z + 1) / 2).toNat + t / 2, by omega, fun j => ?_⟩
          show askF p F po x 0 true _ t j = (if ((z + 1) / 2).toNat + t / 2 < ((z + 1) / 2).toNat then (_ : Nat → Int) else _) j
          rw [if_neg (by omega)]
          have := (rf (t / 2) j).2 (by omega)
          rw [show 2 * (t / 2) + 1 = t from by omega] at this
          rw [this]
          show _ = askW _ _ _ _ _ (((z + 1) / 2).toNat + t / 2 - ((z + 1) / 2).toNat) j
          rw [show ((z + 1) / 2).toNat + t / 2 - ((z + 1) / 2).toNat = t / 2 from by omega]
      · by_cases cs : s < ((z + 1) / 2).toNat
        · refine ⟨2 * s, by omega, fun j => ?_⟩
          show askF p F po x 0 true _ (2 * s) j = (if s < ((z + 1) / 2).toNat then (_ : Nat → Int) else _) j
          rw [if_pos cs]
          exact (rf s j).1 (by omega)
        · refine ⟨2 * (s - ((z + 1) / 2).toNat) + 1, by omega, fun j => ?_⟩
          show askF p F po x 0 true _ (2 * (s - ((z + 1) / 2).toNat) + 1) j = (if s < ((z + 1) / 2).toNat then (_ : Nat → Int) else _) j
          rw [if_neg cs]
          exact (rf (s - ((z + 1) / 2).toNat) j).2 (by omega)
    · have e1 : rowY p (ev p F x) x p.toNat 0 = rowY p (ev p F x) x (p.toNat - 1) 1 := by
        rw [hn]
        show (if (0 : Int) * 0 % p = ev p F x then (x, 0) :: rowY p (ev p F x) x n (0 + 1) else rowY p (ev p F x) x n (0 + 1)) = _
        rw [if_neg (fun e => c (by rw [← e]; rfl))]
        rfl
      have e2 : mCd p F O (gen F).toNat po x W = mCy p F O (gen F).toNat po x (mDp p F O x) (p.toNat - 1) 1 W := by
        unfold mCd
        rw [if_neg c]
      rw [e2] at h40 ⊢
      rw [e1]
      exact blk_y hp hx hD (p.toNat - 1) 1 w W (by omega) (by omega) h h40
theorem blk_all {p : Int} (hp : IsP p) {F O D : Nat → Int} {po : Int} (hO : ∀ x : Nat, D x = 0 → ∀ y : Nat, y < 13 → O (13 * x + y) = 0) : ∀ (m q : Nat) (w W : Lq), (q : Int) + m ≤ p → RSet w W → (mRx p F O D (gen F).toNat po m q W).2 ≤ 40 → RSet ((colX p F m q).foldl (askC p F po (mDt p F O D) O) w) (mRx p F O D (gen F).toNat po m q W)
  | 0, q, w, W, _, h, _ => h
  | m + 1, q, w, W, hq, h, h40 => by
    have h40 : (mRx p F O D (gen F).toNat po m (q + 1) (if D q = 0 then W else mCd p F O (gen F).toNat po q W)).2 ≤ 40 := h40
    have le := mRx_le (p := p) (F := F) (O := O) (D := D) (g := (gen F).toNat) (mo := po) m (q + 1) (if D q = 0 then W else mCd p F O (gen F).toNat po q W)
    have le2 : W.2 ≤ (if D q = 0 then W else mCd p F O (gen F).toNat po q W).2 := by
      have := mRx_le (p := p) (F := F) (O := O) (D := D) (g := (gen F).toNat) (mo := po) 1 q W
      exact this
    have hw := h.1
    show RSet ((rowY p (ev p F q) q p.toNat 0 ++ colX p F m (q + 1)).foldl _ w) (mRx p F O D (gen F).toNat po m (q + 1) (if D q = 0 then W else mCd p F O (gen F).toNat po q W))
    rw [List.foldl_append]
    have b := blk_x hp (F := F) (O := O) (D := D) (po := po) (x := (q : Int)) (w := w) (W := W) ⟨by omega, by omega⟩ (by rw [Int.toNat_natCast]; exact hO q) h (by rw [Int.toNat_natCast]; omega) (by omega)
    rw [Int.toNat_natCast] at b
    exact blk_all hp hO m (q + 1) _ _ (by omega) b h40
theorem askS_C {p : Int} (hp : IsP p) {F r : Nat → Int} (hr : SumR r) (hc : carr (pall p F) r = true) {k : Nat} (hk : k < (pts p F).length) (w : Lq) : askS p F r k w = askC p F (rmP p F r) (mDt p F (rO r 1) (rT r)) (rO r 1) w ((pall p F).getD k (0, 0)) := by
  have hpr := hp.rg
  have g := pall_get (p := p) (F := F) (by omega) (k := k) (by rw [pall_le]; omega)
  have e1 : fxd (pall p F) k = decide (((pall p F).getD k (0, 0)).2 = 0) := by
    by_cases c : ((pall p F).getD k (0, 0)).2 = 0
    · rw [decide_eq_true c]; exact (fxd_y hk).mpr c
    · rw [decide_eq_false c]
      cases h : fxd (pall p F) k with
      | true => exact absurd ((fxd_y hk).mp h) c
      | false => rfl
  have e2 : rmO p F r k = rO r 1 (13 * ((pall p F).getD k (0, 0)).1 + ((pall p F).getD k (0, 0)).2).toNat := oft_of hp hr hc _ (Nat.le_refl _) k hk
  have e3 : rmD p F r ((pall p F).getD k (0, 0)).1.toNat = mDt p F (rO r 1) (rT r) ((pall p F).getD k (0, 0)).1.toNat := dep_eq hp hr hc (by omega)
  have e4 : rmz p F r k = zzC (mDt p F (rO r 1) (rT r)) (rO r 1) ((pall p F).getD k (0, 0)) := by
    unfold rmz zzC
    rw [e1, e2, e3]
    simp only [decide_eq_true_eq]
  unfold askS askC
  rw [e4, e1]
theorem fold_pts {p : Int} (hp : IsP p) {F r : Nat → Int} (hr : SumR r) (hc : carr (pall p F) r = true) : ∀ (l : List (Int × Int)) (n : Nat), (pts p F).drop n = l → l.foldl (askC p F (rmP p F r) (mDt p F (rO r 1) (rT r)) (rO r 1)) (askA p F r n) = askA p F r (max n (pts p F).length)
  | [], n, h => by
    have := List.drop_eq_nil_iff.mp h
    rw [Nat.max_eq_left this]; rfl
  | e :: l, n, h => by
    have hn : n < (pts p F).length := by
      by_cases c : n < (pts p F).length
      · exact c
      · rw [List.drop_eq_nil_of_le (by omega)] at h; cases h
    rw [List.drop_eq_getElem_cons hn] at h
    injection h with h1 h2
    have ih := fold_pts hp hr hc l (n + 1) h2
    rw [List.foldl_cons]
    have e1 : (pall p F).getD n (0, 0) = e := by rw [pall_pts hn, List.getD_eq_getElem?_getD, List.getElem?_eq_getElem hn]; exact h1
    have e2 := askS_C hp hr hc hn (askA p F r n)
    rw [e1] at e2
    rw [← e2]
    have : askA p F r (n + 1) = askS p F r n (askA p F r n) := rfl
    rw [← this, ih]
    congr 1
    omega
theorem sum_40 {p : Int} (hp : IsP p) {r : Nat → Int} (hr : SumR r) {t : Int} (ht : t = 1 ∨ t = -1) : smT p.toNat (axS (rO r t)) ≤ 40 := by
  have hpr := hp.rg
  have h8 := hr.1
  have h1 := mOf_ab hr ht (r 0).toNat (by omega)
  have e13 : smT 169 (abF (rO r t)) = smT 13 (axS (rO r t)) := axS_sum _ 13
  have h1 : smT 169 (abF (rO r t)) ≤ 5 * ((r 0).toNat : Int) := h1
  have := smT_add (axS (rO r t)) p.toNat (13 - p.toNat)
  rw [show p.toNat + (13 - p.toNat) = 13 from by omega] at this
  have h2 := smT_nn (f := fun i => axS (rO r t) (p.toNat + i)) (n := 13 - p.toNat) (fun i _ => axS_nn _ _)
  omega
theorem rO_ok {r : Nat → Int} (hr : SumR r) {t : Int} (ht : t = 1 ∨ t = -1) : ORg (rO r t) := by
  have h8 := hr.1
  refine ab_rg ?_
  have h1 := mOf_ab hr ht (r 0).toNat (by omega)
  have h1 : smT 169 (abF (rO r t)) ≤ 5 * ((r 0).toNat : Int) := h1
  omega
theorem rows_same {p : Int} (hp : IsP p) {F r : Nat → Int} (hr : SumR r) (hc : carr (pall p F) r = true) : RSet (rmL p F r) (mRw p F (rO r 1) (rT r) (rmP p F r)) := by
  have hpr := hp.rg
  have h8 := hr.1
  have hf := fold_pts hp hr hc (pts p F) 0 rfl
  rw [Nat.max_eq_right (Nat.zero_le _)] at hf
  have e : rmL p F r = askA p F r (pts p F).length := by
    unfold rmL
    rw [pall_le, Nat.add_sub_cancel]
  rw [e, ← hf]
  have h1 := mRx_2 hp (F := F) (D := rT r) (g := (gen F).toNat) (mo := rmP p F r) (rO_ok hr (Or.inl rfl)) p.toNat 0 (fun _ _ => 0, 0) (by omega)
  rw [Nat.zero_add] at h1
  have h2 := sum_40 hp hr (t := 1) (Or.inl rfl)
  have h1 : ((mRx p F (rO r 1) (rT r) (gen F).toNat (rmP p F r) p.toNat 0 (fun _ _ => 0, 0)).2 : Int) + 0 ≤ ((0 : Nat) : Int) + smT p.toNat (axS (rO r 1)) := h1
  exact blk_all hp (O := rO r 1) (D := rT r) (fun x hx y hy => mOf_no hr hy _ (by omega) hx) p.toNat 0 _ _ (by omega) ⟨rfl, fun i hi => by have hi : i < 0 := hi; omega, fun i hi => by have hi : i < 0 := hi; omega⟩ (by omega)
theorem und_40 {p : Int} (hp : IsP p) {F r : Nat → Int} (hr : SumR r) {t : Int} (ht : t = 1 ∨ t = -1) : (mUn p F (rO r t) (rT r)).1 ≤ 40 ∧ ((mUn p F (rO r t) (rT r)).1 : Int) = smT p.toNat (mDt p F (rO r t) (rT r)) := by
  have hpr := hp.rg
  have hO := rO_ok hr ht
  have h40 := sum_40 hp hr ht
  have hdn : ∀ i : Nat, i < 0 + p.toNat → 0 ≤ mDt p F (rO r t) (rT r) i := fun i hi => by
    unfold mDt
    split
    · omega
    · exact (mDp_rg hp hO (by omega)).1
  have h1 := undA_deg p (mDt p F (rO r t) (rT r)) p.toNat 0 (0, fun i => if i = 0 then 1 else 0) hdn
  have h2 : smT p.toNat (mDt p F (rO r t) (rT r)) ≤ smT p.toNat (axS (rO r t)) := smT_mo (fun i hi => by
    unfold mDt
    split
    · exact axS_nn _ i
    · exact mDp_le hp hO (by omega))
  rw [Nat.zero_add] at h1
  have h1 : ((mUn p F (rO r t) (rT r)).1 : Int) = ((0 : Nat) : Int) + (smT p.toNat (mDt p F (rO r t) (rT r)) - 0) := h1
  omega
theorem pole_eq {p : Int} (hp : IsP p) {F r : Nat → Int} (hr : SumR r) (hc : carr (pall p F) r = true) : rmP p F r = mMo p F (r 1) (rO r 1) (rT r) := by
  have h1 := (und_40 hp (F := F) hr (t := 1) (Or.inl rfl)).1
  have h2 := hr.2.1
  unfold rmP mMo
  rw [und_eq hp hr hc]
  omega
theorem RSet.ker {p : Int} {g po : Nat} {w W : Lq} (h : RSet w W) (v : Nat → Int) : Ker p g po w.2 w.1 v ↔ Ker p g po W.2 W.1 v := by
  refine and_congr_right (fun _ => and_congr_right (fun _ => ⟨fun k q hq => ?_, fun k i hi => ?_⟩))
  · obtain ⟨i, i1, i2⟩ := h.2.2 q hq
    rw [← show w.1 i = W.1 q from funext i2]
    exact k i i1
  · obtain ⟨q, q1, q2⟩ := h.2.1 i hi
    rw [show w.1 i = W.1 q from funext q2]
    exact k q q1
theorem room_slv {p : Int} (hp : IsP p) {F r : Nat → Int} (hr : SumR r) (hc : carr (pall p F) r = true) (h0 : 0 ≤ rmP p F r) : MOkk p (gen F).toNat (rmP p F r).toNat (rmL p F r).2 (rmL p F r).1 ∧ MOkk p (gen F).toNat (rmP p F r).toNat (mRw p F (rO r 1) (rT r) (rmP p F r)).2 (mRw p F (rO r 1) (rT r) (rmP p F r)).1 ∧ ∀ v, Ker p (gen F).toNat (rmP p F r).toNat (rmL p F r).2 (rmL p F r).1 v ↔ Ker p (gen F).toNat (rmP p F r).toNat (mRw p F (rO r 1) (rT r) (rmP p F r)).2 (mRw p F (rO r 1) (rT r) (rmP p F r)).1 v := by
  have hpr := hp.rg
  have hs := rows_same hp hr hc
  have k : LqK p (gen F).toNat (rmP p F r) (mRw p F (rO r 1) (rT r) (rmP p F r)) := mRx_k (by omega) h0 p.toNat 0 _ (fun q j => ⟨⟨Int.le_refl 0, by show (0 : Int) < p; omega⟩, fun _ => rfl, fun _ => rfl⟩)
  have m2 : MOkk p (gen F).toNat (rmP p F r).toNat (mRw p F (rO r 1) (rT r) (rmP p F r)).2 (mRw p F (rO r 1) (rT r) (rmP p F r)).1 := fun i _ j _ => ⟨(k i j).1, fun h => (k i j).2.2 h⟩
  refine ⟨fun i hi j hj => ?_, m2, fun v => hs.ker v⟩
  obtain ⟨q, q1, q2⟩ := hs.2.1 i hi
  rw [q2 j]
  exact m2 q q1 j hj
