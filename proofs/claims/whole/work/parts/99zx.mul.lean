/-! ===== so many times a class; TIMES, ADDED, SAME tied ===== -/
theorem mulN_GP {p g : Int} {F : Nat → Int} (hC : CS p g F) {a : UV} (ha : GP p g F a) : ∀ n : Nat, GP p g F (mulN p F g a n)
  | 0 => zero_GP hC.1
  | n + 1 => plus_GP hC (mulN_GP hC ha n) ha
theorem mulN_add {p g : Int} {F : Nat → Int} (hC : CS p g F) {a : UV} (ha : GP p g F a) (m : Nat) : ∀ n : Nat, mulN p F g a (m + n) = cplus p F g (mulN p F g a m) (mulN p F g a n)
  | 0 => (plus_zero hC (mulN_GP hC ha m)).symm
  | n + 1 => by
    show cplus p F g (mulN p F g a (m + n)) a = cplus p F g (mulN p F g a m) (cplus p F g (mulN p F g a n) a)
    rw [mulN_add hC ha m n, plus_assoc hC (mulN_GP hC ha m) (mulN_GP hC ha n) ha]
theorem plus_4 {p g : Int} {F : Nat → Int} (hC : CS p g F) {a b c d : UV} (ha : GP p g F a) (hb : GP p g F b) (hc : GP p g F c) (hd : GP p g F d) : cplus p F g (cplus p F g a b) (cplus p F g c d) = cplus p F g (cplus p F g a c) (cplus p F g b d) := by
  rw [plus_assoc hC ha hb (plus_GP hC hc hd), ← plus_assoc hC hb hc hd, plus_comm hC hb hc, plus_assoc hC hc hb hd, ← plus_assoc hC ha hc (plus_GP hC hb hd)]
theorem mulN_plus {p g : Int} {F : Nat → Int} (hC : CS p g F) {a b : UV} (ha : GP p g F a) (hb : GP p g F b) : ∀ n : Nat, mulN p F g (cplus p F g a b) n = cplus p F g (mulN p F g a n) (mulN p F g b n)
  | 0 => (plus_zero hC (zero_GP hC.1)).symm
  | n + 1 => by
    show cplus p F g (mulN p F g (cplus p F g a b) n) (cplus p F g a b) = cplus p F g (cplus p F g (mulN p F g a n) a) (cplus p F g (mulN p F g b n) b)
    rw [mulN_plus hC ha hb n, plus_4 hC (mulN_GP hC ha n) (mulN_GP hC hb n) ha hb]
theorem mulN_0 {p g : Int} {F : Nat → Int} (hC : CS p g F) : ∀ n : Nat, mulN p F g czero n = czero
  | 0 => rfl
  | n + 1 => by
    show cplus p F g (mulN p F g czero n) czero = czero
    rw [mulN_0 hC n, plus_zero hC (zero_GP hC.1)]
theorem mulN_1 {p g : Int} {F : Nat → Int} (hC : CS p g F) {a : UV} (ha : GP p g F a) : mulN p F g a 1 = a := zero_plus hC ha
theorem mulN_mul {p g : Int} {F : Nat → Int} (hC : CS p g F) {a : UV} (ha : GP p g F a) (m : Nat) : ∀ n : Nat, mulN p F g (mulN p F g a m) n = mulN p F g a (m * n)
  | 0 => rfl
  | n + 1 => by
    show cplus p F g (mulN p F g (mulN p F g a m) n) (mulN p F g a m) = _
    rw [mulN_mul hC ha m n, Nat.mul_add, Nat.mul_one, mulN_add hC ha]
theorem mulN_neg {p g : Int} {F : Nat → Int} (hC : CS p g F) {a : UV} (ha : GP p g F a) (n : Nat) : cplus p F g (mulN p F g a n) (mulN p F g (cneg p a) n) = czero := by
  rw [← mulN_plus hC ha (neg_GP hC.1 ha), plus_neg hC ha, mulN_0 hC]
theorem addN_eq {p g : Int} {F : Nat → Int} (hC : CS p g F) {a : UV} (ha : GP p g F a) : ∀ (m : Nat) (A : UV), GP p g F A → addN p F g a m A = cplus p F g A (mulN p F g a m)
  | 0, A, h => (plus_zero hC h).symm
  | m + 1, A, h => by
    show addN p F g a m (cplus p F g A a) = cplus p F g A (cplus p F g (mulN p F g a m) a)
    rw [addN_eq hC ha m _ (plus_GP hC h ha), plus_assoc hC h ha (mulN_GP hC ha m), plus_comm hC ha (mulN_GP hC ha m)]
def zN (p : Int) (F : Nat → Int) (g : Int) (a : UV) (n : Int) : UV := mulN p F g (if n < 0 then cneg p a else a) n.natAbs
theorem zN_GP {p g : Int} {F : Nat → Int} (hC : CS p g F) {a : UV} (ha : GP p g F a) (n : Int) : GP p g F (zN p F g a n) := by
  unfold zN
  split
  · exact mulN_GP hC (neg_GP hC.1 ha) _
  · exact mulN_GP hC ha _
theorem zN_1 {p g : Int} {F : Nat → Int} (hC : CS p g F) {a : UV} (ha : GP p g F a) (n : Int) : zN p F g a (n + 1) = cplus p F g (zN p F g a n) a := by
  unfold zN
  by_cases c : n < 0
  · rw [if_pos c]
    obtain ⟨k, hk⟩ : ∃ k : Nat, n = -((k : Int) + 1) := ⟨(-n - 1).toNat, by omega⟩
    rw [show n.natAbs = k + 1 from by omega]
    show _ = cplus p F g (cplus p F g (mulN p F g (cneg p a) k) (cneg p a)) a
    rw [plus_assoc hC (mulN_GP hC (neg_GP hC.1 ha) k) (neg_GP hC.1 ha) ha, plus_comm hC (neg_GP hC.1 ha) ha, plus_neg hC ha, plus_zero hC (mulN_GP hC (neg_GP hC.1 ha) k)]
    by_cases c2 : n + 1 < 0
    · rw [if_pos c2, show (n + 1).natAbs = k from by omega]
    · rw [if_neg c2, show (n + 1).natAbs = 0 from by omega, show k = 0 from by omega]; rfl
  · rw [if_neg c, if_neg (by omega), show (n + 1).natAbs = n.natAbs + 1 from by omega]; rfl
theorem zN_n {p g : Int} {F : Nat → Int} (hC : CS p g F) {a : UV} (ha : GP p g F a) (m : Int) : ∀ n : Nat, zN p F g a (m + n) = cplus p F g (zN p F g a m) (mulN p F g a n)
  | 0 => by rw [show m + ((0 : Nat) : Int) = m from by omega]; exact (plus_zero hC (zN_GP hC ha m)).symm
  | n + 1 => by
    rw [show m + ((n + 1 : Nat) : Int) = (m + n) + 1 from by omega, zN_1 hC ha, zN_n hC ha m n]
    show _ = cplus p F g (zN p F g a m) (cplus p F g (mulN p F g a n) a)
    rw [plus_assoc hC (zN_GP hC ha m) (mulN_GP hC ha n) ha]
theorem zN_add {p g : Int} {F : Nat → Int} (hC : CS p g F) {a : UV} (ha : GP p g F a) (m n : Int) : zN p F g a (m + n) = cplus p F g (zN p F g a m) (zN p F g a n) := by
  by_cases c : n < 0
  · have e : zN p F g a n = mulN p F g (cneg p a) n.natAbs := by unfold zN; rw [if_pos c]
    have h := zN_n hC ha (m + n) n.natAbs
    rw [show m + n + (n.natAbs : Int) = m from by omega] at h
    rw [h, e, plus_assoc hC (zN_GP hC ha _) (mulN_GP hC ha _) (mulN_GP hC (neg_GP hC.1 ha) _), mulN_neg hC ha, plus_zero hC (zN_GP hC ha _)]
  · have e : zN p F g a n = mulN p F g a n.natAbs := by unfold zN; rw [if_neg c]
    rw [e, ← zN_n hC ha, show (n.natAbs : Int) = n from by omega]
theorem zN_0 (p : Int) (F : Nat → Int) (g : Int) (a : UV) : zN p F g a 0 = czero := rfl
theorem tmF_eq {p : Int} {F : Nat → Int} (hC : CS p (gen F) F) : ∀ (m : Nat) (l : Nat) (acc pw : UV), l < 2 ^ m → GP p (gen F) F acc → GP p (gen F) F pw → tmF p F m l acc pw = cplus p F (gen F) acc (mulN p F (gen F) pw l)
  | 0, l, acc, pw, h, h1, h2 => by
    have : l = 0 := by have h : l < 1 := h; omega
    rw [this]
    exact (plus_zero hC h1).symm
  | m + 1, l, acc, pw, h, h1, h2 => by
    unfold tmF
    by_cases c : (l : Int) ≤ 0
    · rw [if_pos c, show l = 0 from by omega]
      exact (plus_zero hC h1).symm
    · rw [if_neg c, show (l : Int) / 2 = ((l / 2 : Nat) : Int) from by omega]
      have hp2 : 2 ^ (m + 1) = 2 * 2 ^ m := by rw [Nat.pow_succ]; omega
      have two : mulN p F (gen F) (cplus p F (gen F) pw pw) (l / 2) = mulN p F (gen F) pw (2 * (l / 2)) := by
        rw [mulN_plus hC h2 h2, ← mulN_add hC h2]; congr 1; omega
      by_cases c1 : (l : Int) % 2 = 1
      · rw [if_pos c1, tmF_eq hC m (l / 2) _ _ (by omega) (plus_GP hC h1 h2) (plus_GP hC h2 h2), two, plus_assoc hC h1 h2 (mulN_GP hC h2 _)]
        congr 1
        rw [plus_comm hC h2 (mulN_GP hC h2 _), show l = 2 * (l / 2) + 1 from by omega]
        show cplus p F (gen F) (mulN p F (gen F) pw (2 * ((2 * (l / 2) + 1) / 2))) pw = cplus p F (gen F) (mulN p F (gen F) pw (2 * (l / 2))) pw
        rw [show (2 * (l / 2) + 1) / 2 = l / 2 from by omega]
      · rw [if_neg c1, tmF_eq hC m (l / 2) _ _ (by omega) h1 (plus_GP hC h2 h2), two, show 2 * (l / 2) = l from by omega]
theorem tmT_eq {p : Int} {F : Nat → Int} (hC : CS p (gen F) F) {a : UV} (ha : GP p (gen F) F a) {m : Int} (hm : m.natAbs < 4096) : tmT p F a m = zN p F (gen F) a m := by
  unfold tmT zN
  have h : GP p (gen F) F (if m < 0 then cneg p a else a) := by
    split
    · exact neg_GP hC.1 ha
    · exact ha
  rw [tmF_eq hC 12 m.natAbs czero _ hm (zero_GP hC.1) h, zero_plus hC (mulN_GP hC h _)]
theorem mulB_eq {p g : Int} {F : Nat → Int} (hC : CS p g F) {a : UV} (ha : GP p g F a) (l : Nat) : ∀ (b : Nat) (A : UV), GP p g F A → mulB p F g a (l : Int) b A = cplus p F g (mulN p F g A (2 ^ b)) (mulN p F g a (l % 2 ^ b))
  | 0, A, h => by
    show A = _
    rw [show 2 ^ 0 = 1 from rfl, mulN_1 hC h, Nat.mod_one]
    exact (plus_zero hC h).symm
  | b + 1, A, h => by
    show mulB p F g a (l : Int) b (if (l : Int) / 2 ^ b % 2 = 1 then cplus p F g (cplus p F g A A) a else cplus p F g A A) = _
    have hh := plus_GP hC h h
    have e2 : (l : Int) / 2 ^ b % 2 = ((l / 2 ^ b % 2 : Nat) : Int) := by push_cast; rfl
    have md : l % 2 ^ (b + 1) = l % 2 ^ b + 2 ^ b * (l / 2 ^ b % 2) := by rw [Nat.pow_succ, Nat.mod_mul]
    have dbl : mulN p F g (cplus p F g A A) (2 ^ b) = mulN p F g A (2 ^ (b + 1)) := by
      rw [mulN_plus hC h h, ← mulN_add hC h, Nat.pow_succ]; congr 1; omega
    rw [e2]
    by_cases c : l / 2 ^ b % 2 = 1
    · rw [if_pos (by omega), mulB_eq hC ha l b _ (plus_GP hC hh ha), mulN_plus hC hh ha, dbl, md, c, Nat.mul_one, plus_assoc hC (mulN_GP hC h _) (mulN_GP hC ha _) (mulN_GP hC ha _), ← mulN_add hC ha, Nat.add_comm (2 ^ b) (l % 2 ^ b)]
    · have c0 : l / 2 ^ b % 2 = 0 := by omega
      rw [if_neg (by omega), mulB_eq hC ha l b _ hh, dbl, md, c0, Nat.mul_zero]
      rfl
/-- sums over a row -/
def gS (p : Int) (F : Nat → Int) (g : Int) (f : Nat → UV) : Nat → UV
  | 0 => czero
  | n + 1 => cplus p F g (gS p F g f n) (f n)
theorem gS_GP {p g : Int} {F : Nat → Int} (hC : CS p g F) {f : Nat → UV} : ∀ n : Nat, (∀ i : Nat, i < n → GP p g F (f i)) → GP p g F (gS p F g f n)
  | 0, _ => zero_GP hC.1
  | n + 1, h => plus_GP hC (gS_GP hC n (fun i hi => h i (by omega))) (h n (by omega))
theorem gS_ext {p : Int} {F : Nat → Int} {g : Int} {f f' : Nat → UV} : ∀ n : Nat, (∀ i : Nat, i < n → f i = f' i) → gS p F g f n = gS p F g f' n
  | 0, _ => rfl
  | n + 1, h => by
    show cplus p F g (gS p F g f n) (f n) = cplus p F g (gS p F g f' n) (f' n)
    rw [gS_ext n (fun i hi => h i (by omega)), h n (by omega)]
/-- one of them is more -/
theorem gS_up {p g : Int} {F : Nat → Int} (hC : CS p g F) {f f' : Nat → UV} {k : Nat} {w : UV} (hw : GP p g F w) (hk : f' k = cplus p F g (f k) w) (ho : ∀ i : Nat, i ≠ k → f' i = f i) : ∀ n : Nat, k < n → (∀ i : Nat, i < n → GP p g F (f i)) → gS p F g f' n = cplus p F g (gS p F g f n) w
  | 0, h, _ => by omega
  | n + 1, h, hf => by
    have g1 := gS_GP hC n (fun i hi => hf i (by omega))
    show cplus p F g (gS p F g f' n) (f' n) = cplus p F g (cplus p F g (gS p F g f n) (f n)) w
    by_cases c : k = n
    · rw [gS_ext n (f := f') (f' := f) (fun i hi => ho i (by omega)), ← c, hk]
      rw [← c] at g1
      exact (plus_assoc hC g1 (hf k (by omega)) hw).symm
    · rw [gS_up hC hw hk ho n (by omega) (fun i hi => hf i (by omega)), ho n (by omega), plus_assoc hC g1 hw (hf n (by omega)), plus_comm hC hw (hf n (by omega)), plus_assoc hC g1 (hf n (by omega)) hw]
/-- what the reference adds for a place -/
def tt (p : Int) (F O : Nat → Int) (x y : Nat) : UV := if O (13 * x + y) = 0 then czero else zN p F (gen F) (pnt p x y) (O (13 * x + y))
def OnC (p : Int) (F O : Nat → Int) : Prop := ∀ x y : Nat, y < 13 → O (13 * x + y) ≠ 0 → GP p (gen F) F (pnt p x y) ∧ (O (13 * x + y)).natAbs < 4096
theorem tt_GP {p : Int} {F O : Nat → Int} (hC : CS p (gen F) F) (hO : OnC p F O) (x : Nat) {y : Nat} (hy : y < 13) : GP p (gen F) F (tt p F O x y) := by
  unfold tt
  split
  · exact zero_GP hC.1
  · rename_i h; exact zN_GP hC (hO x y hy h).1 _
theorem mClY_eq {p : Int} {F O : Nat → Int} (hC : CS p (gen F) F) (hO : OnC p F O) (x : Nat) {B : UV} (hB : GP p (gen F) F B) : ∀ (m y : Nat) (A : UV), y + m ≤ 13 → A = cplus p F (gen F) B (gS p F (gen F) (tt p F O x) y) → mClY p F O x m y A = cplus p F (gen F) B (gS p F (gen F) (tt p F O x) (y + m))
  | 0, y, A, _, h => h
  | m + 1, y, A, hm, h => by
    unfold mClY
    have g1 := gS_GP hC (f := tt p F O x) y (fun i hi => tt_GP hC hO x (by omega))
    have gA : GP p (gen F) F A := by rw [h]; exact plus_GP hC hB g1
    rw [mClY_eq hC hO x hB m (y + 1) _ (by omega) ?_, show y + 1 + m = y + (m + 1) from by omega]
    show _ = cplus p F (gen F) B (cplus p F (gen F) (gS p F (gen F) (tt p F O x) y) (tt p F O x y))
    rw [← plus_assoc hC hB g1 (tt_GP hC hO x (by omega)), ← h]
    unfold tt
    split
    · exact (plus_zero hC gA).symm
    · rename_i h0
      obtain ⟨o1, o2⟩ := hO x y (by omega) h0
      rw [tmT_eq hC o1 o2]
def rowS (p : Int) (F O : Nat → Int) (x : Nat) : UV := gS p F (gen F) (tt p F O x) p.toNat
theorem rowS_GP {p : Int} {F O : Nat → Int} (hC : CS p (gen F) F) (hO : OnC p F O) (x : Nat) : GP p (gen F) F (rowS p F O x) := gS_GP hC _ (fun i hi => tt_GP hC hO x (by have := hC.1.1.rg; omega))
theorem mClX_eq {p : Int} {F O : Nat → Int} (hC : CS p (gen F) F) (hO : OnC p F O) : ∀ (m x : Nat) (A : UV), A = gS p F (gen F) (rowS p F O) x → mClX p F O m x A = gS p F (gen F) (rowS p F O) (x + m)
  | 0, x, A, h => h
  | m + 1, x, A, h => by
    unfold mClX
    have hr := hC.1.1.rg
    have gA : GP p (gen F) F A := by rw [h]; exact gS_GP hC x (fun i _ => rowS_GP hC hO i)
    rw [mClX_eq hC hO m (x + 1) _ ?_, show x + 1 + m = x + (m + 1) from by omega]
    rw [mClY_eq hC hO x gA p.toNat 0 A (by omega) (plus_zero hC gA).symm, Nat.zero_add, h]
    rfl
theorem mCl_eq {p : Int} {F O : Nat → Int} (hC : CS p (gen F) F) (hO : OnC p F O) : mCl p F O = gS p F (gen F) (rowS p F O) p.toNat := by
  unfold mCl
  rw [mClX_eq hC hO p.toNat 0 czero rfl, Nat.zero_add]
theorem mCl_up {p : Int} {F O : Nat → Int} (hC : CS p (gen F) F) (hO : OnC p F O) {X Y : Nat} {w : Int} (hX : (X : Int) < p) (hY : (Y : Int) < p) (hP : GP p (gen F) F (pnt p X Y)) (hO' : OnC p F (upf O (13 * X + Y) (O (13 * X + Y) + w))) : mCl p F (upf O (13 * X + Y) (O (13 * X + Y) + w)) = cplus p F (gen F) (mCl p F O) (zN p F (gen F) (pnt p X Y) w) := by
  have hr := hC.1.1.rg
  have gw := zN_GP hC hP w
  rw [mCl_eq hC hO, mCl_eq hC hO']
  have one : ∀ (Q : Nat → Int) (x y : Nat), Q (13 * x + y) = 0 ∨ True → tt p F Q x y = zN p F (gen F) (pnt p x y) (Q (13 * x + y)) := fun Q x y _ => by
    unfold tt
    split
    · rename_i h; rw [h]; rfl
    · rfl
  refine gS_up hC (k := X) gw ?_ ?_ p.toNat (by omega) (fun i _ => rowS_GP hC hO i)
  · refine gS_up hC (k := Y) gw ?_ ?_ p.toNat (by omega) (fun i hi => tt_GP hC hO X (by omega))
    · rw [one _ _ _ (Or.inr trivial), one _ _ _ (Or.inr trivial), upf_at, zN_add hC hP]
    · intro i hi
      unfold tt
      rw [upf_ot (show 13 * X + i ≠ 13 * X + Y by omega)]
  · intro x hx
    refine gS_ext _ (fun i hi => ?_)
    unfold tt
    rw [upf_ot (show 13 * x + i ≠ 13 * X + Y by omega)]
theorem cneg_pnt {p X Y : Int} (hp : 0 < p) : cneg p (pnt p X Y) = pnt p X (-Y) := Prod.ext rfl (funext fun i => by
  show pscl p (pcon (Y % p)) (-1) i = pcon (-Y % p) i
  unfold pscl pcon
  split
  · rw [mul_md, Int.mul_neg, Int.mul_one]
  · rw [Int.zero_mul]; rfl)
theorem ent_GP {p : Int} {F r : Nat → Int} (hC : CF p (gen F) F) (hr : SumR r) (hc : carr (pall p F) r = true) {i : Nat} (hi : i < (r 0).toNat) : ((0 ≤ eX r i ∧ eX r i < p) ∧ (0 ≤ eY r i ∧ eY r i < p)) ∧ GP p (gen F) F (pnt p (eX r i) (eY r i)) := by
  have hpr := hC.1.rg
  obtain ⟨q, -, q2, q3, q4⟩ := ent_pt hr hc (i := i) hi
  have hm := pts_mem (p := p) (F := F) (by omega) (e := (pts p F).getD q (0, 0)) (by
    rw [List.getD_eq_getElem?_getD, List.getElem?_eq_getElem q2]; exact List.getElem_mem q2)
  rw [← pall_pts q2, q3, q4] at hm
  exact ⟨⟨hm.1, hm.2.1⟩, pnt_GP hC hm.2.2⟩
theorem mOf_on {p : Int} {F r : Nat → Int} (hC : CF p (gen F) F) (hr : SumR r) (hc : carr (pall p F) r = true) : ∀ n : Nat, n ≤ (r 0).toNat → OnC p F (mOf r 1 n) ∧ ∀ j : Nat, (mOf r 1 n j).natAbs ≤ 5 * n
  | 0, _ => ⟨fun x y _ h => absurd rfl h, fun j => by show (0 : Int).natAbs ≤ 0; decide⟩
  | n + 1, h => by
    obtain ⟨i1, i2⟩ := mOf_on hC hr hc n (by omega)
    obtain ⟨⟨e1, e2⟩, e3⟩ := ent_GP hC hr hc (i := n) (by omega)
    have hpr := hC.1.rg
    have h8 := hr.1
    have ho := (hr.2.2 n (by omega)).2.2
    have bd : ∀ j : Nat, (mOf r 1 (n + 1) j).natAbs ≤ 5 * (n + 1) := fun j => by
      show (upf (mOf r 1 n) (13 * eX r n + eY r n).toNat (mOf r 1 n (13 * eX r n + eY r n).toNat + 1 * eO r n) j).natAbs ≤ _
      unfold upf
      split
      · have := i2 (13 * eX r n + eY r n).toNat; omega
      · have := i2 j; omega
    refine ⟨fun x y hy hne => ⟨?_, by have := bd (13 * x + y); omega⟩, bd⟩
    by_cases c : 13 * x + y = (13 * eX r n + eY r n).toNat
    · have ex : (x : Int) = eX r n := by omega
      have ey : (y : Int) = eY r n := by omega
      rw [ex, ey]; exact e3
    · have hne : upf (mOf r 1 n) (13 * eX r n + eY r n).toNat (mOf r 1 n (13 * eX r n + eY r n).toNat + 1 * eO r n) (13 * x + y) ≠ 0 := hne
      rw [upf_ot c] at hne
      exact (i1 x y hy hne).1
/-- the class of a sum's first n entries -/
def SK (p : Int) (F : Nat → Int) (r : Nat → Int) : Nat → UV := gS p F (gen F) (fun i => zN p F (gen F) (pnt p (eX r i) (eY r i)) (eO r i))
theorem mCl_SK {p : Int} {F r : Nat → Int} (hC : CS p (gen F) F) (hr : SumR r) (hc : carr (pall p F) r = true) : ∀ n : Nat, n ≤ (r 0).toNat → mCl p F (mOf r 1 n) = SK p F r n
  | 0, _ => by
    have h0 : OnC p F (mOf r 1 0) := fun x y _ h => absurd rfl h
    rw [mCl_eq hC h0]
    have z : ∀ n : Nat, gS p F (gen F) (fun _ => czero) n = czero := fun n => by
      induction n with
      | zero => rfl
      | succ n ih =>
        show cplus p F (gen F) (gS p F (gen F) (fun _ => czero) n) czero = czero
        rw [ih]; exact plus_zero hC (zero_GP hC.1)
    show _ = czero
    rw [gS_ext (f' := fun _ => czero) _ (fun x _ => ?_), z]
    unfold rowS
    rw [gS_ext (f' := fun _ => czero) _ (fun y _ => ?_), z]
    unfold tt
    exact if_pos rfl
  | n + 1, h => by
    obtain ⟨⟨e1, e2⟩, e3⟩ := ent_GP hC.1 hr hc (i := n) (by omega)
    have e : mOf r 1 (n + 1) = upf (mOf r 1 n) (13 * (eX r n).toNat + (eY r n).toNat) (mOf r 1 n (13 * (eX r n).toNat + (eY r n).toNat) + eO r n) := by
      show upf (mOf r 1 n) (13 * eX r n + eY r n).toNat (mOf r 1 n (13 * eX r n + eY r n).toNat + 1 * eO r n) = _
      rw [show (13 * eX r n + eY r n).toNat = 13 * (eX r n).toNat + (eY r n).toNat from by omega, Int.one_mul]
    have o1 := (mOf_on hC.1 hr hc n (by omega)).1
    have o2 := (mOf_on hC.1 hr hc (n + 1) h).1
    rw [e] at o2 ⊢
    have ex : (((eX r n).toNat : Nat) : Int) = eX r n := by omega
    have ey : (((eY r n).toNat : Nat) : Int) = eY r n := by omega
    rw [mCl_up hC o1 (by omega) (by omega) (by rw [ex, ey]; exact e3) o2, mCl_SK hC hr hc n (by omega), ex, ey]
    rfl
theorem sumF_SK {p : Int} {F r : Nat → Int} (hC : CS p (gen F) F) (hr : SumR r) (hc : carr (pall p F) r = true) : ∀ (m i : Nat), i + m ≤ (r 0).toNat → sumF p F (gen F) r i m (SK p F r i) = SK p F r (i + m)
  | 0, i, _ => rfl
  | m + 1, i, h => by
    unfold sumF
    obtain ⟨⟨e1, e2⟩, e3⟩ := ent_GP hC.1 hr hc (i := i) (by omega)
    have hpr := hC.1.1.rg
    have h8 := hr.1
    have ho := (hr.2.2 i (by omega)).2.2
    have gi : GP p (gen F) F (SK p F r i) := gS_GP hC i (fun j hj => zN_GP hC (ent_GP hC.1 hr hc (i := j) (by omega)).2 _)
    have ep : ePt p r i = if eO r i < 0 then cneg p (pnt p (eX r i) (eY r i)) else pnt p (eX r i) (eY r i) := by
      unfold ePt
      by_cases c : eO r i < 0
      · rw [if_pos c, if_pos c, cneg_pnt (by omega)]
      · rw [if_neg c, if_neg c]
    have gp : GP p (gen F) F (ePt p r i) := by
      rw [ep]
      split
      · exact neg_GP hC.1 e3
      · exact e3
    rw [addN_eq hC gp _ _ gi, show min (eO r i).natAbs 5 = (eO r i).natAbs from by omega, ep]
    rw [show i + (m + 1) = i + 1 + m from by omega, ← sumF_SK hC hr hc m (i + 1) (by omega)]
    rfl
theorem Td.cs {T : Td} (hV : TdV T) {q : Nat} (hq : (q : Int) < T.ct 0) : CS (T.p q) (gen (T.F q)) (T.F q) := ⟨(Td.crv hV hq).1, (Td.crv hV hq).2.2.2.2.2.2.2⟩
theorem K_mK {T : Td} (hV : TdV T) {c s : Int} (h : fitB T c s = true) : T.K c.toNat s.toNat = T.mK c.toNat s.toNat ∧ GP (T.p c.toNat) (gen (T.F c.toNat)) (T.F c.toNat) (T.mK c.toNat s.toNat) := by
  obtain ⟨h1, h2, h3⟩ := fitB_c.mp h
  have hC := Td.cs hV (q := c.toNat) (by omega)
  have hS := (hV.2.2.2.2.2.2.2.2.1 s.toNat (by omega)).1
  have e1 := mCl_SK hC hS h3 _ (Nat.le_refl _)
  have e2 := sumF_SK hC hS h3 (T.rw (2 + s.toNat) 0).toNat 0 (by omega)
  rw [Nat.zero_add] at e2
  refine ⟨?_, ?_⟩
  · show sumF _ _ _ _ 0 _ czero = mCl _ _ (rO _ 1)
    unfold rO
    rw [e1, ← e2]; rfl
  · show GP _ _ _ (mCl _ _ (rO _ 1))
    unfold rO
    rw [e1]
    exact gS_GP hC _ (fun j hj => zN_GP hC (ent_GP hC.1 hS h3 (i := j) hj).2 _)
theorem tie_times {T : Td} (hV : TdV T) (c s m w : Int) : aTimes T c s m w = mATimes T c s m w := by
  unfold aTimes mATimes
  by_cases h : fitB T c s = true ∧ (-99 ≤ m ∧ m ≤ 99) ∧ 0 ≤ w ∧ w ≤ 4
  · obtain ⟨k1, k2⟩ := K_mK hV h.1
    have hC := Td.cs hV (q := c.toNat) (by have := (fitB_c.mp h.1).1; omega)
    rw [if_pos h, if_pos h, k1, tmT_eq hC k2 (by omega)]
    have gp : GP (T.p c.toNat) (gen (T.F c.toNat)) (T.F c.toNat) (if m < 0 then cneg (T.p c.toNat) (T.mK c.toNat s.toNat) else T.mK c.toNat s.toNat) := by
      split
      · exact neg_GP hC.1 k2
      · exact k2
    have e := mulB_eq hC gp m.natAbs 7 czero (zero_GP hC.1)
    rw [mulN_0 hC, zero_plus hC (mulN_GP hC gp _), show m.natAbs % 2 ^ 7 = m.natAbs from Nat.mod_eq_of_lt (by omega)] at e
    show ptV (mulB (T.p c.toNat) (T.F c.toNat) (gen (T.F c.toNat)) _ (m.natAbs : Int) 7 czero) w = _
    rw [e]; rfl
  · rw [if_neg h, if_neg h]
theorem fit2 {T : Td} {c s t : Int} (h : (fitB T c s && fitB T c t) = true) : fitB T c s = true ∧ fitB T c t = true := by
  rw [Bool.and_eq_true] at h; exact h
theorem tie_added {T : Td} (hV : TdV T) (c s t w : Int) : aAdded T c s t w = mAAdded T c s t w := by
  unfold aAdded mAAdded
  by_cases h : (fitB T c s && fitB T c t) = true ∧ 0 ≤ w ∧ w ≤ 4
  · rw [if_pos h, if_pos h, (K_mK hV (fit2 h.1).1).1, (K_mK hV (fit2 h.1).2).1]
  · rw [if_neg h, if_neg h]
theorem tie_same {T : Td} (hV : TdV T) (c s t : Int) : aSame T c s t ↔ mASame T c s t := by
  unfold aSame mASame
  constructor
  · rintro ⟨h1, h2, h3⟩
    exact ⟨h1, by rw [← (K_mK hV (fit2 h1).1).1, ← (K_mK hV (fit2 h1).2).1]; exact h2, h3⟩
  · rintro ⟨h1, h2, h3⟩
    exact ⟨h1, by rw [(K_mK hV (fit2 h1).1).1, (K_mK hV (fit2 h1).2).1]; exact h2, h3⟩
