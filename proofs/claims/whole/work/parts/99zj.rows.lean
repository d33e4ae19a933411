/-! ===== the lines of class and reference: the same, but for their order ===== -/
def RSet (w W : Lq) : Prop := w.2 = W.2 ∧ (∀ i : Nat, i < w.2 → ∃ q : Nat, q < W.2 ∧ ∀ j, w.1 i j = W.1 q j) ∧ ∀ q : Nat, q < W.2 → ∃ i : Nat, i < w.2 ∧ ∀ j, w.1 i j = W.1 q j
def AppR (w w' : Lq) (z : Nat) (R : Nat → Nat → Int) : Prop := w'.2 = w.2 + z ∧ (∀ i j : Nat, i < w.2 → w'.1 i j = w.1 i j) ∧ ∀ t j : Nat, t < z → w'.1 (w.2 + t) j = R t j
theorem RSet.app {w w' W W' : Lq} {z : Nat} {R Q : Nat → Nat → Int} (h : RSet w W) (a : AppR w w' z R) (b : AppR W W' z Q) (h1 : ∀ t : Nat, t < z → ∃ s : Nat, s < z ∧ ∀ j, R t j = Q s j) (h2 : ∀ s : Nat, s < z → ∃ t : Nat, t < z ∧ ∀ j, R t j = Q s j) : RSet w' W' := by
  obtain ⟨e1, e2, e3⟩ := h
  obtain ⟨a1, a2, a3⟩ := a
  obtain ⟨b1, b2, b3⟩ := b
  refine ⟨by omega, fun i hi => ?_, fun q hq => ?_⟩
  · by_cases c : i < w.2
    · obtain ⟨q, q1, q2⟩ := e2 i c
      exact ⟨q, by omega, fun j => by rw [a2 i j c, b2 q j q1]; exact q2 j⟩
    · obtain ⟨s, s1, s2⟩ := h1 (i - w.2) (by omega)
      refine ⟨W.2 + s, by omega, fun j => ?_⟩
      have := a3 (i - w.2) j (by omega)
      rw [show w.2 + (i - w.2) = i from by omega] at this
      rw [this, b3 s j s1]
      exact s2 j
  · by_cases c : q < W.2
    · obtain ⟨i, i1, i2⟩ := e3 q c
      exact ⟨i, by omega, fun j => by rw [a2 i j i1, b2 q j c]; exact i2 j⟩
    · obtain ⟨t, t1, t2⟩ := h2 (q - W.2) (by omega)
      refine ⟨w.2 + t, by omega, fun j => ?_⟩
      have := b3 (q - W.2) j (by omega)
      rw [show W.2 + (q - W.2) = q from by omega] at this
      rw [this, a3 t j t1]
      exact t2 j
theorem AppR.trans {w w' w'' : Lq} {a b : Nat} {R Q : Nat → Nat → Int} (h1 : AppR w w' a R) (h2 : AppR w' w'' b Q) : AppR w w'' (a + b) (fun t => if t < a then R t else Q (t - a)) := by
  obtain ⟨a1, a2, a3⟩ := h1
  obtain ⟨b1, b2, b3⟩ := h2
  refine ⟨by omega, fun i j hi => by rw [b2 i j (by omega), a2 i j hi], fun t j ht => ?_⟩
  by_cases c : t < a
  · show w''.1 (w.2 + t) j = (if t < a then R t else Q (t - a)) j
    rw [if_pos c, b2 _ j (by omega), a3 t j c]
  · show w''.1 (w.2 + t) j = (if t < a then R t else Q (t - a)) j
    rw [if_neg c]
    have := b3 (t - a) j (by omega)
    rw [a1, show w.2 + a + (t - a) = w.2 + t from by omega] at this
    exact this
theorem wtM_app {p : Int} {g : Nat} {mo X : Int} {S : Nat → Int} {t : Int} {n : Nat} {W : Lq} : AppR W (wtM p g mo X S t n W) n (fun q j => askW (wtP p X t) (wtY p X S t) g mo (pwN mo) q j) := by
  refine ⟨rfl, fun i j hi => ?_, fun q j hq => ?_⟩
  · show (if W.2 ≤ i ∧ i < W.2 + n then _ else W.1 i j) = W.1 i j
    rw [if_neg (by omega)]
  · show (if W.2 ≤ W.2 + q ∧ W.2 + q < W.2 + n then askW (wtP p X t) (wtY p X S t) g mo (pwN mo) (W.2 + q - W.2) j else W.1 (W.2 + q) j) = _
    rw [if_pos (by omega), show W.2 + q - W.2 = q from by omega]
/-- the class's lines of one point -/
def zzC (D O : Nat → Int) (e : Int × Int) : Int := (if e.2 = 0 then 2 * D e.1.toNat else D e.1.toNat) - O (13 * e.1 + e.2).toNat
def askC (p : Int) (F : Nat → Int) (po : Int) (D O : Nat → Int) (w : Lq) (e : Int × Int) : Lq := (fun q j => if w.2 ≤ q ∧ (q : Int) < min (w.2 + zzC D O e) 40 then askF p F po e.1 e.2 (decide (e.2 = 0)) (min (w.2 + zzC D O e) 40 - w.2) (q - w.2) j else w.1 q j, (max (w.2 : Int) (min (w.2 + zzC D O e) 40)).toNat)
theorem askC_app {p : Int} {F : Nat → Int} {po : Int} {D O : Nat → Int} {w : Lq} {e : Int × Int} {z : Nat} (hz : zzC D O e = (z : Int)) (h : w.2 + z ≤ 40) : AppR w (askC p F po D O w e) z (fun t j => askF p F po e.1 e.2 (decide (e.2 = 0)) (z : Int) t j) := by
  have em : min ((w.2 : Int) + zzC D O e) 40 = (w.2 : Int) + z := by rw [hz]; omega
  refine ⟨?_, fun i j hi => ?_, fun t j ht => ?_⟩
  · show (max (w.2 : Int) (min ((w.2 : Int) + zzC D O e) 40)).toNat = w.2 + z
    rw [em]; omega
  · show (if w.2 ≤ i ∧ (i : Int) < min ((w.2 : Int) + zzC D O e) 40 then _ else w.1 i j) = w.1 i j
    rw [if_neg (by omega)]
  · show (if w.2 ≤ w.2 + t ∧ ((w.2 + t : Nat) : Int) < min ((w.2 : Int) + zzC D O e) 40 then askF p F po e.1 e.2 (decide (e.2 = 0)) (min ((w.2 : Int) + zzC D O e) 40 - w.2) (w.2 + t - w.2) j else w.1 (w.2 + t) j) = _
    rw [em, if_pos (by omega), show w.2 + t - w.2 = t from by omega, show (w.2 : Int) + z - w.2 = z from by omega]
theorem askW_ext {P Y P' Y' : Nat → Nat → Int} {g : Nat} {po : Int} {n t t' c : Nat} (h1 : ∀ i, P i t = P' i t') (h2 : ∀ i, Y i t = Y' i t') : askW P Y g po n t c = askW P' Y' g po n t' c := by
  unfold askW
  rw [h1, h2]
theorem npI_co {R : Type} [Lean.Grind.CommRing R] {p : Int} {co : R → Nat → Int} {c : Int → R} {tp : Nat → R} (hS : SerR p co c tp) (X : Int) : ∀ i j : Nat, npI p X i j = co ((c X + tp 1) ^ i) j
  | 0, j => by rw [Lean.Grind.Semiring.pow_zero]; exact pln_co hS j
  | i + 1, j => by
    rw [Lean.Grind.Semiring.pow_succ, show (c X + tp 1) ^ i * (c X + tp 1) = (c X + tp 1) * (c X + tp 1) ^ i by grind, co_th hS]
    show npw p X 1 (npI p X i) j = _
    rw [show npI p X i = co ((c X + tp 1) ^ i) from funext (npI_co hS X i)]
theorem npI_2 {R : Type} [Lean.Grind.CommRing R] {p : Int} {co : R → Nat → Int} {c : Int → R} {tp : Nat → R} (hS : SerR p co c tp) (X : Int) : ∀ i q : Nat, co ((c X + tp 2) ^ i) (2 * q) = npI p X i q ∧ co ((c X + tp 2) ^ i) (2 * q + 1) = 0
  | 0, q => by
    rw [Lean.Grind.Semiring.pow_zero, ← pln_co hS, ← pln_co hS]
    constructor
    · show (if 2 * q = 0 then (1 : Int) else 0) = if q = 0 then 1 else 0
      by_cases c : q = 0
      · rw [if_pos c, if_pos (by omega)]
      · rw [if_neg c, if_neg (by omega)]
    · show (if 2 * q + 1 = 0 then (1 : Int) else 0) = 0
      rw [if_neg (by omega)]
  | i + 1, q => by
    have ih := npI_2 hS X i
    rw [Lean.Grind.Semiring.pow_succ, show (c X + tp 2) ^ i * (c X + tp 2) = (c X + tp 2) * (c X + tp 2) ^ i by grind, co_th hS, co_th hS]
    show npw p X 2 (co ((c X + tp 2) ^ i)) (2 * q) = npw p X 1 (npI p X i) q ∧ _
    unfold npw
    rw [(ih q).1, (ih q).2]
    constructor
    · by_cases c0 : q = 0
      · rw [if_neg (by omega), if_neg (by omega)]
      · rw [if_pos (by omega), if_pos (by omega), show 2 * q - 2 = 2 * (q - 1) from by omega, (ih (q - 1)).1]
    · by_cases c0 : q = 0
      · rw [if_neg (by omega)]; simp
      · rw [if_pos (by omega), show 2 * q + 1 - 2 = 2 * (q - 1) + 1 from by omega, (ih (q - 1)).2]; simp
theorem bgY_sr {p : Int} {F : Nat → Int} {X y : Int} {m : Nat} (hm : m ≤ 40) {j : Nat} (hj : j < m) : bgY p F X y m false j = mSr p F X y j := by
  unfold bgY
  rw [if_neg (by decide)]
  cases j with
  | zero => rw [if_pos rfl]; exact rtT_z.symm
  | succ j =>
    rw [if_neg (by omega), if_pos (by omega)]
    exact (rtT_up 55 40 (j + 1) (by omega)).symm
theorem row_non {p : Int} (hp : IsP p) {F : Nat → Int} {po X y : Int} (hy : 0 < y ∧ y < p) {z : Nat} (hz : z ≤ 40) {t : Nat} (ht : t < z) (j : Nat) : askF p F po X y false (z : Int) t j = askW (wtP p X 0) (wtY p X (mSr p F X y) 0) (gen F).toNat po (pwN po) t j := by
  have hr := hp.rg
  have hp1 : 1 < p := by omega
  have key : ∀ (R : Type) (_ : Lean.Grind.CommRing R) (co : R → Nat → Int) (c : Int → R) (tp : Nat → R), SerR p co c tp → askF p F po X y false (z : Int) t j = askW (wtP p X 0) (wtY p X (mSr p F X y) 0) (gen F).toNat po (pwN po) t j := fun R _ co c tp hS => by
    obtain ⟨s, hs⟩ := hS.2.2.2.2.2.2.2.2 (mSr p F X y) (fun i => rtT_rg (by omega) ⟨by omega, hy.2⟩ 95 i)
    unfold askF
    refine askW_ext (fun i => ?_) (fun i => ?_)
    · show pwI p X 1 z pln i t = wtP p X 0 i t
      rw [pwI_co hS (fun j _ => pln_co hS j) i t (by omega), show (c X + tp 1) ^ i * (1 : R) = (c X + tp 1) ^ i by grind, ← npI_co hS]
      rfl
    · show pwI p X 1 z (bgY p F X y z false) i t = wtY p X (mSr p F X y) 0 i t
      rw [pwI_co hS (s := s) (fun j hj => by rw [hs]; exact bgY_sr hz (by omega)) i t (by omega), hS.2.2.2.2.1]
      show _ = pmul p (npI p X i) (mSr p F X y) t
      rw [pmul_cv, show npI p X i = co ((c X + tp 1) ^ i) from funext (npI_co hS X i), show mSr p F X y = co s from (funext hs).symm]
  exact key (Sr p) (srRing hp1) _ _ _ (sr_Ser hp hp1)
theorem row_fix {p : Int} (hp : IsP p) {F : Nat → Int} {po X y : Int} {z : Nat} {S : Nat → Int} {q : Nat} (j : Nat) : (2 * q < z → askF p F po X y true (z : Int) (2 * q) j = askW (wtP p X 1) (wtY p X S 1) (gen F).toNat po (pwN po) q j) ∧ (2 * q + 1 < z → askF p F po X y true (z : Int) (2 * q + 1) j = askW (wtP p X 2) (wtY p X S 2) (gen F).toNat po (pwN po) q j) := by
  have hr := hp.rg
  have hp1 : 1 < p := by omega
  have key : ∀ (R : Type) (_ : Lean.Grind.CommRing R) (co : R → Nat → Int) (c : Int → R) (tp : Nat → R), SerR p co c tp → (2 * q < z → askF p F po X y true (z : Int) (2 * q) j = askW (wtP p X 1) (wtY p X S 1) (gen F).toNat po (pwN po) q j) ∧ (2 * q + 1 < z → askF p F po X y true (z : Int) (2 * q + 1) j = askW (wtP p X 2) (wtY p X S 2) (gen F).toNat po (pwN po) q j) := fun R _ co c tp hS => by
    have hs : ∀ j : Nat, bgY p F X y z true j = co (tp 1) j := fun j => by
      rw [hS.2.2.2.2.2.2.1]
      unfold bgY
      rw [if_pos rfl]
    have P : ∀ i t : Nat, t < z → pwI p X 2 z pln i t = co ((c X + tp 2) ^ i) t := fun i t ht => by
      rw [pwI_co hS (fun j _ => pln_co hS j) i t (by omega), show (c X + tp 2) ^ i * (1 : R) = (c X + tp 2) ^ i by grind]
    have Y : ∀ i t : Nat, t < z → pwI p X 2 z (bgY p F X y z true) i t = if 1 ≤ t then co ((c X + tp 2) ^ i) (t - 1) else 0 := fun i t ht => by
      rw [pwI_co hS (s := tp 1) (fun j _ => hs j) i t (by omega), show (c X + tp 2) ^ i * tp 1 = tp 1 * (c X + tp 2) ^ i by grind, co_t hS]
    unfold askF
    refine ⟨fun h => askW_ext (fun i => ?_) (fun i => ?_), fun h => askW_ext (fun i => ?_) (fun i => ?_)⟩
    · show pwI p X 2 z pln i (2 * q) = npI p X i q
      rw [P i _ h]; exact (npI_2 hS X i q).1
    · show pwI p X 2 z (bgY p F X y z true) i (2 * q) = 0
      rw [Y i _ h]
      by_cases c0 : q = 0
      · rw [if_neg (by omega)]
      · rw [if_pos (by omega), show 2 * q - 1 = 2 * (q - 1) + 1 from by omega]; exact (npI_2 hS X i (q - 1)).2
    · show pwI p X 2 z pln i (2 * q + 1) = 0
      rw [P i _ h]; exact (npI_2 hS X i q).2
    · show pwI p X 2 z (bgY p F X y z true) i (2 * q + 1) = npI p X i q
      rw [Y i _ h, if_pos (by omega), Nat.add_sub_cancel]; exact (npI_2 hS X i q).1
  exact key (Sr p) (srRing hp1) _ _ _ (sr_Ser hp hp1)
/-- how often a point is told, against its depth -/
theorem zz_nn {p : Int} (hp : IsP p) {F O D : Nat → Int} {x y : Int} (hx : 0 ≤ x ∧ x < p) (hy : 0 ≤ y ∧ y < p) (he : y * y % p = ev p F x) (hD : D x.toNat ≠ 0) : 0 ≤ zzC (mDt p F O D) O (x, y) := by
  obtain ⟨b1, b2, -⟩ := mDp_max hp (F := F) (O := O) hx
  have h := b2 y hy he
  have e : mDt p F O D x.toNat = mDp p F O x := by
    unfold mDt
    rw [if_neg hD, show ((x.toNat : Nat) : Int) = x from by omega]
  show 0 ≤ (if y = 0 then 2 * mDt p F O D x.toNat else mDt p F O D x.toNat) - O (13 * x + y).toNat
  rw [e]
  unfold dpV at h
  by_cases c : y = 0
  · rw [if_pos c] at h ⊢
    by_cases c2 : 0 ≤ O (13 * x + y).toNat + 1
    · rw [Int.tdiv_eq_ediv_of_nonneg c2] at h; omega
    · omega
  · rw [if_neg c] at h ⊢; omega
theorem blk_y {p : Int} (hp : IsP p) {F O D : Nat → Int} {po : Int} {x : Int} (hx : 0 ≤ x ∧ x < p) (hD : D x.toNat ≠ 0) : ∀ (m : Nat) (y : Int) (w W : Lq), 1 ≤ y → y + m ≤ p → RSet w W → (mCy p F O (gen F).toNat po x (mDp p F O x) m y W).2 ≤ 40 → RSet ((rowY p (ev p F x) x m y).foldl (askC p F po (mDt p F O D) O) w) (mCy p F O (gen F).toNat po x (mDp p F O x) m y W)
  | 0, y, w, W, _, _, h, _ => h
  | m + 1, y, w, W, hy, hm, h, h40 => by
    by_cases c : y * y % p = ev p F x
    · have e1 : rowY p (ev p F x) x (m + 1) y = (x, y) :: rowY p (ev p F x) x m (y + 1) := by
        conv => lhs; unfold rowY
        rw [if_pos c]
      have e2 : mCy p F O (gen F).toNat po x (mDp p F O x) (m + 1) y W = mCy p F O (gen F).toNat po x (mDp p F O x) m (y + 1) (wtM p (gen F).toNat po x (mSr p F x y) 0 (mDp p F O x - O (13 * x + y).toNat).toNat W) := by
        show mCy p F O (gen F).toNat po x (mDp p F O x) m (y + 1) (if y * y % p = ev p F x then _ else W) = _
        rw [if_pos c]
      rw [e2] at h40 ⊢
      rw [e1, List.foldl_cons]
      have zn := zz_nn hp (F := F) (O := O) (D := D) hx ⟨by omega, by omega⟩ c hD
      have ez : zzC (mDt p F O D) O (x, y) = mDp p F O x - O (13 * x + y).toNat := by
        show (if y = 0 then 2 * mDt p F O D x.toNat else mDt p F O D x.toNat) - O (13 * x + y).toNat = _
        rw [if_neg (by omega)]
        unfold mDt
        rw [if_neg hD, show ((x.toNat : Nat) : Int) = x from by omega]
      rw [ez] at zn
      have le := mCy_le (p := p) (F := F) (O := O) (g := (gen F).toNat) (mo := po) (X := x) (e := mDp p F O x) m (y + 1) (wtM p (gen F).toNat po x (mSr p F x y) 0 (mDp p F O x - O (13 * x + y).toNat).toNat W)
      have w2 : (wtM p (gen F).toNat po x (mSr p F x y) 0 (mDp p F O x - O (13 * x + y).toNat).toNat W).2 = W.2 + (mDp p F O x - O (13 * x + y).toNat).toNat := rfl
      have hw := h.1
      refine blk_y hp hx hD m (y + 1) _ _ (by omega) (by omega) (h.app (askC_app (z := (mDp p F O x - O (13 * x + y).toNat).toNat) (by rw [ez]; omega) (by omega)) wtM_app (fun t ht => ⟨t, ht, fun j => ?_⟩) (fun t ht => ⟨t, ht, fun j => ?_⟩)) h40
      · show askF p F po x y (decide (y = 0)) _ t j = _
        rw [decide_eq_false (show ¬ y = 0 by omega)]
        exact row_non hp ⟨by omega, by omega⟩ (by omega) ht j
      · show askF p F po x y (decide (y = 0)) _ t j = _
        rw [decide_eq_false (show ¬ y = 0 by omega)]
        exact row_non hp ⟨by omega, by omega⟩ (by omega) ht j
    · have e1 : rowY p (ev p F x) x (m + 1) y = rowY p (ev p F x) x m (y + 1) := by
        conv => lhs; unfold rowY
        rw [if_neg c]
      have e2 : mCy p F O (gen F).toNat po x (mDp p F O x) (m + 1) y W = mCy p F O (gen F).toNat po x (mDp p F O x) m (y + 1) W := by
        show mCy p F O (gen F).toNat po x (mDp p F O x) m (y + 1) (if y * y % p = ev p F x then _ else W) = _
        rw [if_neg c]
      rw [e2] at h40 ⊢
      rw [e1]
      exact blk_y hp hx hD m (y + 1) w W (by omega) (by omega) h h40
