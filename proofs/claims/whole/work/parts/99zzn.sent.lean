/-! ===== CODE: places, values, SENT tied ===== -/
theorem tie_torsion2 {T : Td} (hV : TdV T) (c d : Int) : ((0 ≤ c ∧ c < T.ct 0) → (mAl (T.p c.toNat) (T.F c.toNat)).length ≤ 579) ∧ aTorsion T c d = mATorsion T c d := tie_torsion hV (fun q hq => cls_450 (Td.cs hV hq)) c d
theorem pl_eq {p : Int} {F r : Nat → Int} (hr : SumR r) (hc : carr (pall p F) r = true) : cdT p F r = mPl p F (rT r) := by
  unfold cdT mPl
  rw [nmd_of hr hc _ (Nat.le_refl _)]
  rfl
theorem pwV_md {p : Int} (e X : Int) : ∀ i : Nat, pwV p e X i % p = (e * X ^ i) % p
  | 0 => by show e % p = (e * X ^ 0) % p; rw [Int.pow_zero, Int.mul_one]
  | i + 1 => by
    show (pwV p e X i * X % p) % p = _
    rw [Int.emod_emod, ← mul_md, pwV_md e X i, mul_md, Int.pow_succ, Int.mul_assoc]
theorem va_sum {p : Int} {g : Nat} {w : Sv} {a : Nat} {X Y : Int} : ∀ n : Nat, vaN p g w a X Y n % p = smT n (fun j => if j % 2 = 1 ∧ j < 2 * g + 1 then 0 else mBa p w a j * powA p g j X Y) % p
  | 0 => rfl
  | n + 1 => by
    unfold vaN
    show _ = (smT n (fun j => if j % 2 = 1 ∧ j < 2 * g + 1 then 0 else mBa p w a j * powA p g j X Y) + (if n % 2 = 1 ∧ n < 2 * g + 1 then 0 else mBa p w a n * powA p g n X Y)) % p
    by_cases c : n % 2 = 1 ∧ n < 2 * g + 1
    · rw [if_pos c, if_pos c, Int.add_zero]; exact va_sum n
    · rw [if_neg c, if_neg c, Int.emod_emod, ← Int.emod_add_emod, va_sum n, Int.emod_add_emod]
/-- a power, by UNDER or not -/
theorem pwr_pow {p : Int} {F : Nat → Int} {po e X y : Int} {j : Nat} (hj : (j : Int) ≤ po) (h1 : ¬ (j % 2 = 1 ∧ j < 2 * (gen F).toNat + 1)) : askW (fun i _ => pwV p e X i) (fun i _ => pwV p e X i * y % p) (gen F).toNat po (pwN po) 0 j % p = (e * powA p (gen F).toNat j X y) % p := by
  unfold askW powA
  by_cases c : j % 2 = 0
  · rw [if_pos c, if_pos c, if_pos (by unfold pwN; omega), pwV_md, Int.mul_comm e (pwV p 1 X (j / 2)), ← mul_md (pwV p 1 X (j / 2)), pwV_md, mul_md, Int.one_mul, Int.mul_comm]
  · rw [if_neg c, if_neg c, if_pos ⟨by omega, hj, by unfold pwN; omega⟩, Int.emod_emod, ← mul_md, pwV_md, mul_md, Int.mul_comm e (pwV p y X ((j - 2 * (gen F).toNat - 1) / 2)), ← mul_md (pwV p y X ((j - 2 * (gen F).toNat - 1) / 2)), pwV_md, mul_md]
    congr 1
    grind
theorem pwr_ill {p : Int} {F : Nat → Int} {po e X y : Int} {j : Nat} (h1 : j % 2 = 1 ∧ j < 2 * (gen F).toNat + 1) : askW (fun i _ => pwV p e X i) (fun i _ => pwV p e X i * y % p) (gen F).toNat po (pwN po) 0 j = 0 := by
  unfold askW
  rw [if_neg (by omega), if_neg (by omega)]
theorem val_eq {p : Int} (hp : IsP p) {F r : Nat → Int} (hr : SumR r) (hc : carr (pall p F) r = true) {k t : Nat} (hk : k < mRoo p F r) : cdV p F r k t = mVal p F r k t := by
  have hpr := hp.rg
  obtain ⟨d1, d2⟩ := room_dim hp hr hc
  have ep := pole_eq hp hr hc
  have eu := und_eq hp hr hc
  have el := pl_eq (p := p) (F := F) hr hc
  have hk' : k < (rmS p F r).2.2.2.2 := by rw [d1]; exact hk
  unfold cdV mVal mCv vpt valW cdP pwrW
  rw [eu, el, ← ep]
  generalize ((pall p F).getD ((mPl p F (rT r)).2 t) (0, 0)).1 = X
  generalize ((pall p F).getD ((mPl p F (rT r)).2 t) (0, 0)).2 = y
  generalize inv p (evU p (mUn p F (rO r 1) (rT r)) X) = e
  rw [← mul_md (vaN p (gen F).toNat (mSl p F (r 1) (rO r 1) (rT r)) k X y (rmP p F r + 1).toNat), va_sum, mul_md, ← smT_c]
  refine smT_md (fun j hj => ?_)
  by_cases c : j % 2 = 1 ∧ j < 2 * (gen F).toNat + 1
  · show cofR p F r k j * askW (fun i _ => pwV p e X i) (fun i _ => pwV p e X i * y % p) (gen F).toNat (rmP p F r) (pwN (rmP p F r)) 0 j % p = (if j % 2 = 1 ∧ j < 2 * (gen F).toNat + 1 then 0 else _) * e % p
    rw [pwr_ill c, if_pos c, Int.mul_zero, Int.zero_mul]
  · show cofR p F r k j * askW (fun i _ => pwV p e X i) (fun i _ => pwV p e X i * y % p) (gen F).toNat (rmP p F r) (pwN (rmP p F r)) 0 j % p = (if j % 2 = 1 ∧ j < 2 * (gen F).toNat + 1 then 0 else mBa p (mSl p F (r 1) (rO r 1) (rT r)) k j * powA p (gen F).toNat j X y) * e % p
    rw [if_neg c, Int.mul_comm, ← mul_md, pwr_pow (by omega) c, mul_md, d2 k j (by omega) (by omega)]
    congr 1
    grind
theorem cdD_eq {p : Int} {F r : Nat → Int} (hF : CF p (gen F) F) (hr : SumR r) (hc : carr (pall p F) r = true) : cdD p F r = mRoo p F r := by
  have d1 := (room_dim hF.1 hr hc).1
  have := (rr hF hr hc).2
  unfold cdD
  rw [d1]
  show min (mRm p F (r 1) (rO r 1) (rT r)) 50 = mRm p F (r 1) (rO r 1) (rT r)
  omega
theorem snt_eq {p : Int} {F r : Nat → Int} (hF : CF p (gen F) F) (hr : SumR r) (hc : carr (pall p F) r = true) (m : Int) : sntF p F r m = mSnt p F r m := funext fun i => by
  unfold sntF mSnt wdW mLen
  rw [pl_eq hr hc, cdD_eq hF hr hc]
  by_cases c : i < (mPl p F (rT r)).1
  · rw [if_pos c, if_pos c]
    exact lcw_ext (fun j hj => ⟨rfl, val_eq hF.1 hr hc hj⟩)
  · rw [if_neg c, if_neg c]
theorem tie_sent {T : Td} (hV : TdV T) (c s m i : Int) : aSent T c s m i = mASent T c s m i := by
  unfold aSent mASent
  by_cases h : fitB T c s = true
  · obtain ⟨h1, h2, h3⟩ := fitB_c.mp h
    have hF := (Td.crv hV (q := c.toNat) (by omega)).1
    have hS := (hV.2.2.2.2.2.2.2.2.1 s.toNat (by omega)).1
    have e1 : cdT (T.p c.toNat) (T.F c.toNat) (T.rw (2 + s.toNat)) = mPl (T.p c.toNat) (T.F c.toNat) (rT (T.rw (2 + s.toNat))) := pl_eq hS h3
    have e2 : sntF (T.p c.toNat) (T.F c.toNat) (T.rw (2 + s.toNat)) m = mSnt (T.p c.toNat) (T.F c.toNat) (T.rw (2 + s.toNat)) m := snt_eq hF hS h3 m
    rw [e1, e2]
    rfl
  · rw [if_neg (fun e => h e.1), if_neg (fun e => h e.1)]
