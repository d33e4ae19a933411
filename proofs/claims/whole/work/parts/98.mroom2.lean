/-! ===== the reference: rooms: depths, series ===== -/
theorem undX_ok {p X : Int} (hp : 0 < p) : ∀ (n : Nat) (w : Un), UnOk p w → UnOk p (undX p X n w)
  | 0, _, h => h
  | n + 1, w, h => undX_ok hp n _ (unS_ok hp h)
theorem sp_X12_wantsAt {k n : Nat} {x : Wx} {Z : Zt} {Q : Option Value → Wx → Zt → Prop} {b : Nat} {X : Int} (o : Is12 x b) {p fr : Int} {F O D : Nat → Int} {u : Un} (hF : MF Z b p F) (hS : MSq Z b fr O D) (hO : ORg O) (hX : 0 ≤ X ∧ X < p) (hU : MU Z b u) (hk : UnOk p u ∧ (u.1 : Int) + mDp p F O X ≤ 90) (h : ∀ Z' : Zt, (MU Z' b (undX p X (mDp p F O X).toNat u) ∧ UF b Z Z') → Q none x Z') : V mX12_wantsAt k n 0 [some (r_ b), some (i_ X), none, none] [] x Z Q := by
  have hp := hF.2.1.1
  have hpr := hp.rg
  have b11 := hF.1.1.1
  have hd := mDp_rg hp (F := F) hO hX
  refine b_X12_wantsAt_0 o ⟨p, fr, F, O, D, hF, hS, hO, hX, ?_⟩
  generalize mDp p F O X = e at hd hk h
  have lp : ∀ (m i : Nat) (Z1 : Zt) (u1 : Un), (i : Int) + m = e → UF b Z Z1 → MU Z1 b u1 → UnOk p u1 → (u1.1 : Int) + m ≤ 90 → undX p X m u1 = undX p X e.toNat u → V mX12_wantsAt k n 8 [some (r_ b), some (i_ X), some (i_ e), some (i_ (i : Int))] [] x Z1 Q := by
    intro m
    induction m with
    | zero =>
      intro i Z1 u1 hi hf hU1 hk1 hb1 he
      have he : u1 = undX p X e.toNat u := he
      exact b_X12_wantsAt_8 o ⟨⟨by omega, by omega⟩, ⟨by omega, by omega⟩, fun _ => h Z1 ⟨by rw [← he]; exact hU1, hf⟩, fun c => by omega⟩
    | succ m ih =>
      intro i Z1 u1 hi hf hU1 hk1 hb1 he
      have b1 : Z1 b 11 = p := by rw [hf.2 11 (by decide)]; exact b11
      exact b_X12_wantsAt_8 o ⟨⟨by omega, by omega⟩, ⟨by omega, by omega⟩, fun c => by omega, fun _ => ⟨p, u1, ⟨hp, b1⟩, hU1, ⟨hk1, by omega⟩, hX, fun Z2 hz2 => ih (i + 1) Z2 _ (by omega) (hf.tr hz2.2) hz2.1 (unS_ok (by omega) hk1) (by show ((u1.1 + 1 : Nat) : Int) + m ≤ 90; omega) he⟩⟩
  exact lp e.toNat 0 Z u (by omega) UF.rf hU hk.1 (by omega) rfl
theorem rtS_lin {W : Nat → Int} {n : Nat} : ∀ (m i : Nat) (v c : Int), rtS W n m i (v + c) = rtS W n m i v + c
  | 0, _, _, _ => rfl
  | m + 1, i, v, c => by
    unfold rtS
    rw [show v + c - W i * W (n - i) = (v - W i * W (n - i)) + c from by omega]
    exact rtS_lin m (i + 1) _ c
theorem rtS_md {W : Nat → Int} {n : Nat} (p : Int) (m i : Nat) (v : Int) : rtS W n m i (v % p) % p = rtS W n m i v % p := by
  have h1 := Int.emod_add_mul_ediv v p
  have h2 := rtS_lin (W := W) (n := n) m i (v % p) (p * (v / p))
  rw [h1] at h2
  rw [h2, Int.add_mul_emod_self_left]
/-- y as a row in x - X, of 95 terms -/
def mSr (p : Int) (F : Nat → Int) (X y : Int) : Nat → Int := rtT p (inv p (2 * y % p)) y (mvd p 1 X F) 95
theorem rtT_eq {p h y : Int} {M : Nat → Int} {q : Nat} (h1 : 1 ≤ q) (h2 : q ≤ 95) : rtT p h y M 95 q = rtS (rtT p h y M 95) q (q - 1) 1 (if q < 6 then M q else 0) % p * h % p := by
  obtain ⟨m, rfl⟩ : ∃ m : Nat, q = m + 1 := ⟨q - 1, by omega⟩
  have e := rtT_up (p := p) (h := h) (y := y) (M := M) (95 - (m + 1)) (m + 1) (m + 1) (Nat.le_refl _)
  rw [show m + 1 + (95 - (m + 1)) = 95 from by omega] at e
  rw [e]
  show upf (rtT p h y M m) (m + 1) _ (m + 1) = _
  rw [upf_at, show m + 1 - 1 = m from by omega]
  rw [rtS_ext (W := rtT p h y M m) (W' := rtT p h y M 95) m 1 _ (Nat.le_refl 1) (by omega) (fun j hj => by
    have e2 := rtT_up (p := p) (h := h) (y := y) (M := M) (95 - m) m j (by omega)
    rw [show m + (95 - m) = 95 from by omega] at e2
    exact e2.symm)]
theorem rtT_z {p h y : Int} {M : Nat → Int} : rtT p h y M 95 0 = y := by
  have e := rtT_up (p := p) (h := h) (y := y) (M := M) 95 0 0 (Nat.le_refl 0)
  rw [Nat.zero_add] at e
  rw [e]; rfl
theorem sp_X12_seriesAt {k n : Nat} {x : Wx} {Z : Zt} {Q : Option Value → Wx → Zt → Prop} {b : Nat} {X y w : Int} (o : Is12 x b) {p : Int} {F : Nat → Int} (hF : MF Z b p F) (hX : 0 ≤ X ∧ X < p) (hy : 0 < y ∧ y < p) (hw : 0 ≤ w ∧ w ≤ 95) (h : ∀ Z' : Zt, ((∀ q : Nat, (q : Int) < w → Z' (b + 16) q = mSr p F X y q) ∧ Oth Z Z' (fun c => c = b + 16 ∨ c = b + 17)) → Q none x Z') : V mX12_seriesAt k n 0 [some (r_ b), some (i_ X), some (i_ y), some (i_ w), none, none, none, none] [] x Z Q := by
  obtain ⟨hMC, hCF, P, mP, p0⟩ := hF
  have hp := hCF.1
  have hpr := hp.rg
  have iF := hCF.2.1
  have fF := hCF.2.2.1
  have b11 := hMC.1.1
  have hpd5 : pd F ≤ 5 := by have := hCF.2.2.2; omega
  have t0 : (0 : Int).toNat = 0 := rfl
  obtain ⟨A, hA⟩ : ∃ A : Nat → Int, mvd p 1 X F = A := ⟨_, rfl⟩
  have iA : InP p A := by rw [← hA]; exact mvd_in (by omega) _ _ _
  obtain ⟨hh, hhe⟩ : ∃ hh : Int, inv p (2 * y % p) = hh := ⟨_, rfl⟩
  have h2y : 0 < 2 * y % p ∧ 2 * y % p < p := by
    have h1 := emr (2 * y) (show 0 < p by omega)
    have h2 := (nzp hp 2 y ⟨by decide, by omega⟩ hy).1
    omega
  have hhr : 0 < hh ∧ hh < p := by rw [← hhe]; exact inv_rg hp h2y
  obtain ⟨S, hS⟩ : ∃ S : Nat → Int, mSr p F X y = S := ⟨_, rfl⟩
  have iS : InP p S := fun j => by rw [← hS]; exact rtT_rg (by omega) (by omega) 95 j
  have S0 : S 0 = y := by rw [← hS]; exact rtT_z
  have Sq : ∀ q : Nat, 1 ≤ q → q ≤ 95 → S q = rtS S q (q - 1) 1 (if q < 6 then A q else 0) % p * hh % p := fun q h1 h2 => by
    rw [← hS, ← hA, ← hhe]; exact rtT_eq h1 h2
  rw [hS] at h
  -- the root
  have root : ∀ (m q : Nat) (Z1 : Zt), 1 ≤ q → ((q : Int) + m = w ∨ (w = 0 ∧ q = 1 ∧ m = 0)) → Oth Z Z1 (fun c => c = b + 16 ∨ c = b + 17) → (∀ j : Nat, j < q → Z1 (b + 16) j = S j) → (∀ j : Nat, j < 96 → Z1 (b + 17) j = if j < 6 then A j else 0) → V mX12_seriesAt k n 136 [some (r_ b), none, none, some (i_ w), some (i_ hh), some (i_ (q : Int)), none, none] [] x Z1 Q := by
    intro m
    induction m with
    | zero =>
      intro q Z1 h1 hq ho hs _
      exact b_X12_seriesAt_136 o ⟨⟨by omega, by omega⟩, ⟨by omega, by omega⟩, fun _ => h Z1 ⟨fun j hj => hs j (by omega), ho⟩, fun c => by omega⟩
    | succ m ih =>
      intro q Z1 h1 hq ho hs ha
      have b1 : Z1 b 11 = p := by rw [ho b (by show ¬ (b = b + 16 ∨ b = b + 17); omega)]; exact b11
      have inn : ∀ (r i : Nat) (v : Int), 1 ≤ i → i + r = q → (0 ≤ v ∧ v < p) → rtS S q r i v % p = rtS S q (q - 1) 1 (if q < 6 then A q else 0) % p → V mX12_seriesAt k n 154 [some (r_ b), none, none, some (i_ w), some (i_ hh), some (i_ (q : Int)), some (i_ v), some (i_ (i : Int))] [] x Z1 Q := by
        intro r
        induction r with
        | zero =>
          intro i v hi hr hv he
          have he : v % p = rtS S q (q - 1) 1 (if q < 6 then A q else 0) % p := he
          have q1 := mul13 (a := v) (b := hh) (by omega) (by omega)
          refine b_X12_seriesAt_154 o ?_
          rw [b1]
          refine ⟨⟨by omega, by omega⟩, ⟨by omega, by omega⟩, fun _ => ⟨⟨by omega, by omega⟩, by omega, by omega, by omega, by omega, fun Z2 e2 => ?_⟩, fun c => by omega⟩
          rw [Int.toNat_natCast] at e2
          refine ih (q + 1) Z2 (by omega) (by omega) (ho.tr (fun c hc => by rw [e2, up_row _ _ _ _ _ (fun e => hc (Or.inl e))])) (fun j hj => ?_) (fun j hj => by rw [e2, up_row _ _ _ _ _ (by omega)]; exact ha j hj)
          rw [e2, up_at]
          by_cases c : j = q
          · rw [if_pos c, c, Sq q h1 (by omega), ← he, mul_md]
          · rw [if_neg c]; exact hs j (by omega)
        | succ r ihr =>
          intro i v hi hr hv he
          have s1 := hs i (by omega)
          have s2 := hs (q - i) (by omega)
          have i1 := iS i
          have i2 := iS (q - i)
          have q1 := mul13 (a := S i) (b := S (q - i)) (by omega) (by omega)
          refine b_X12_seriesAt_154 o ?_
          rw [b1, Int.toNat_natCast i, show ((q : Int) - (i : Int)).toNat = q - i from by omega, s1, s2]
          refine ⟨⟨by omega, by omega⟩, ⟨by omega, by omega⟩, fun c => by omega, fun _ => ⟨by omega, by omega, by omega, by omega, ⟨by omega, by omega⟩, by omega, by omega, fun v' hv' => ?_⟩⟩
          refine ihr (i + 1) v' (by omega) (by omega) (by rw [hv']; exact emr _ (by omega)) ?_
          rw [hv', rtS_md]
          exact he
      have hav := ha q (by omega)
      refine b_X12_seriesAt_136 o ⟨⟨by omega, by omega⟩, ⟨by omega, by omega⟩, fun c => by omega, fun _ => ⟨by omega, by omega, ?_⟩⟩
      rw [Int.toNat_natCast, hav]
      refine inn (q - 1) 1 _ (Nat.le_refl 1) (by omega) ?_ rfl
      split
      · exact iA q
      · omega
  -- F, begun at X
  have outer : ∀ (M : Nat) (G : Nat → Int) (Z1 : Zt), M ≤ 6 → Oth Z Z1 (fun c => c = b + 16 ∨ c = b + 17) → (∀ j : Nat, j < 96 → Z1 (b + 17) j = G j) → InP p G → (∀ j : Nat, 6 - M ≤ j → G j = 0) → mvN p 1 X F M G = A → V mX12_seriesAt k n 31 [some (r_ b), some (i_ X), some (i_ y), some (i_ w), some (i_ ((M : Int) - 1)), none, none, none] [] x Z1 Q := by
    intro M
    induction M with
    | zero =>
      intro G Z1 hM ho hg iG zG he
      have he : G = A := he
      have b1 : Z1 b 11 = p := by rw [ho b (by show ¬ (b = b + 16 ∨ b = b + 17); omega)]; exact b11
      refine b_X12_seriesAt_31 o ?_
      rw [b1]
      refine ⟨⟨by omega, by omega⟩, fun _ => ⟨⟨by omega, by omega⟩, by omega, by omega, p, ⟨hp, rfl⟩, h2y, fun Z2 e2 => ?_⟩, fun c => by omega⟩
      rw [hhe]
      refine root (w - 1).toNat 1 Z2 (Nat.le_refl 1) (by omega) (ho.tr (fun c hc => by rw [e2, up_row _ _ _ _ _ (fun e => hc (Or.inl e))])) (fun j hj => ?_) (fun j hj => ?_)
      · have ej : j = 0 := by omega
        subst ej
        rw [e2, up_self, S0]
      · rw [e2, up_row _ _ _ _ _ (by omega), hg j hj, ← he]
        by_cases c : j < 6
        · rw [if_pos c]
        · rw [if_neg c, zG j (by omega)]
    | succ M ih =>
      intro G Z1 hM ho hg iG zG he
      have he : mvN p 1 X F M (mvS p 1 X (F M) G) = A := he
      have inn : ∀ (r : Nat) (Z2 : Zt), r ≤ 6 → Oth Z Z2 (fun c => c = b + 16 ∨ c = b + 17) → (∀ j : Nat, j < 96 → Z2 (b + 17) j = if r < j then mvS p 1 X (F M) G j else G j) → V mX12_seriesAt k n 40 [some (r_ b), some (i_ X), some (i_ y), some (i_ w), some (i_ (((M + 1 : Nat) : Int) - 1)), some (i_ (r : Int)), none, none] [] x Z2 Q := by
        intro r
        induction r with
        | zero =>
          intro Z2 hr h2 hg2
          have b2 : Z2 b 11 = p := by rw [h2 b (by show ¬ (b = b + 16 ∨ b = b + 17); omega)]; exact b11
          have m2 : MS Z2 b P := mP.kept (h2 _ (by show ¬ (b + 4 = b + 16 ∨ b + 4 = b + 17); omega))
          have ea := m2.at (u := 0) (i := ((M + 1 : Nat) : Int) - 1) (by decide) (by omega)
          rw [t0, p0, show (((M + 1 : Nat) : Int) - 1).toNat = M from by omega] at ea
          have g0 := hg2 0 (by decide)
          rw [if_neg (by omega)] at g0
          have i0 := iG 0
          have i1 := iF M
          have q1 := mul13 (a := G 0) (b := X) (by omega) (by omega)
          refine b_X12_seriesAt_40 o ?_
          rw [ea, g0, b2]
          refine ⟨⟨by omega, by omega⟩, fun _ => ⟨by omega, ⟨by omega, by omega⟩, by omega, by omega, fun Z3 e3 => ?_⟩, fun c => by omega⟩
          rw [show ((M + 1 : Nat) : Int) - 1 + (-1) = (M : Int) - 1 from by omega]
          refine ih (mvS p 1 X (F M) G) Z3 (by omega) (h2.tr (fun c hc => by rw [e3, up_row _ _ _ _ _ (fun e => hc (Or.inr e))])) (fun j hj => ?_) (fun j => mvS_rg (by omega) _ _ _ _ j) (fun j hj => ?_) he
          · rw [e3, up_at]
            by_cases c : j = 0
            · rw [if_pos c, c]
              unfold mvS
              rw [if_pos rfl, Int.mul_comm X]
            · rw [if_neg c, hg2 j hj, if_pos (by omega)]
          · unfold mvS
            rw [if_neg (by omega), zG j (by omega), zG (j - 1) (by omega), Int.mul_zero, Int.mul_zero, Int.zero_add, Int.zero_emod]
        | succ r ihr =>
          intro Z2 hr h2 hg2
          have b2 : Z2 b 11 = p := by rw [h2 b (by show ¬ (b = b + 16 ∨ b = b + 17); omega)]; exact b11
          have g0 := hg2 (r + 1) (by omega)
          rw [if_neg (by omega)] at g0
          have g1 := hg2 r (by omega)
          rw [if_neg (by omega)] at g1
          have i0 := iG (r + 1)
          have i1 := iG r
          have q1 := mul13 (a := G (r + 1)) (b := X) (by omega) (by omega)
          refine b_X12_seriesAt_40 o ?_
          rw [Int.toNat_natCast, show (((r + 1 : Nat) : Int) - 1).toNat = r from by omega, g0, g1, b2]
          refine ⟨⟨by omega, by omega⟩, fun c => by omega, fun _ => ⟨by omega, by omega, by omega, by omega, ⟨by omega, by omega⟩, by omega, by omega, fun Z3 e3 => ?_⟩⟩
          rw [show ((r + 1 : Nat) : Int) + (-1) = (r : Int) from by omega]
          refine ihr Z3 (by omega) (h2.tr (fun c hc => by rw [e3, up_row _ _ _ _ _ (fun e => hc (Or.inr e))])) (fun j hj => ?_)
          rw [e3, up_at]
          by_cases c : j = r + 1
          · rw [if_pos c, if_pos (by omega), c]
            unfold mvS
            rw [if_neg (by omega), Int.mul_comm X, Int.one_mul, show r + 1 - 1 = r from by omega]
          · rw [if_neg c, hg2 j hj]
            by_cases c2 : r + 1 < j
            · rw [if_pos c2, if_pos (by omega)]
            · rw [if_neg c2, if_neg (by omega)]
      refine b_X12_seriesAt_31 o ⟨⟨by omega, by omega⟩, fun c => by omega, fun _ => inn 6 Z1 (Nat.le_refl 6) ho (fun j hj => ?_)⟩
      rw [hg j hj]
      by_cases c : 6 < j
      · rw [if_pos c, zG j (by omega)]
        unfold mvS
        rw [if_neg (by omega), zG j (by omega), zG (j - 1) (by omega), Int.mul_zero, Int.mul_zero, Int.zero_add, Int.zero_emod]
      · rw [if_neg c]
  have zero : ∀ (m i : Nat) (Z1 : Zt), i + m = 96 → Oth Z Z1 (fun c => c = b + 16 ∨ c = b + 17) → (∀ j : Nat, j < i → Z1 (b + 17) j = 0) → V mX12_seriesAt k n 3 [some (r_ b), some (i_ X), some (i_ y), some (i_ w), some (i_ (i : Int)), none, none, none] [] x Z1 Q := by
    intro m
    induction m with
    | zero =>
      intro i Z1 hi ho hz
      have m1 : MS Z1 b P := mP.kept (ho _ (by show ¬ (b + 4 = b + 16 ∨ b + 4 = b + 17); omega))
      have g1 := pd_ge F
      refine b_X12_seriesAt_3 o ⟨⟨by omega, by omega⟩, fun _ => ⟨P, m1, by decide, ?_, ?_⟩, fun c => by omega⟩
      · rw [t0, p0]; intro j hj; have := iF j; exact ⟨by omega, by omega⟩
      · rw [t0, p0]
        have := outer (pd F + 1).toNat (fun _ => 0) Z1 (by omega) ho (fun j hj => hz j (by omega)) (fun j => by show (0 : Int) ≤ 0 ∧ 0 < p; omega) (fun _ _ => rfl) ?_
        · rw [show (((pd F + 1).toNat : Nat) : Int) - 1 = pd F from by omega] at this; exact this
        · rw [← hA]
          unfold mvd
          have hz := mvN_0 (p := p) (A := 1) (B := X) (F := F) (24 - (pd F + 1).toNat) (pd F + 1).toNat (fun i h3 h4 => pd_hi fF i (by omega))
          rw [show (pd F + 1).toNat + (24 - (pd F + 1).toNat) = 24 from by omega] at hz
          exact hz.symm
    | succ m ih =>
      intro i Z1 hi ho hz
      refine b_X12_seriesAt_3 o ⟨⟨by omega, by omega⟩, fun c => by omega, fun _ => ⟨by omega, fun Z2 e2 => ?_⟩⟩
      rw [Int.toNat_natCast] at e2
      refine ih (i + 1) Z2 (by omega) (ho.tr (fun c hc => by rw [e2, up_row _ _ _ _ _ (fun e => hc (Or.inr e))])) (fun j hj => ?_)
      rw [e2, up_at]
      by_cases c : j = i
      · rw [if_pos c]
      · rw [if_neg c]; exact hz j (by omega)
  exact b_X12_seriesAt_0 (zero 96 0 Z rfl Oth.rf (fun j hj => absurd hj (Nat.not_lt_zero j)))
theorem dX12_wants_0 : decode cX12_wants 0 = .ok (.iconst 0, 1) := by decide +kernel
theorem dX12_wants_1 : decode cX12_wants 1 = .ok (.istore 4, 2) := by decide +kernel
theorem dX12_wants_3 : decode cX12_wants 3 = .ok (.iload 4, 2) := by decide +kernel
theorem dX12_wants_5 : decode cX12_wants 5 = .ok (.bipush 96, 2) := by decide +kernel
theorem dX12_wants_7 : decode cX12_wants 7 = .ok (.if_icmp .ge 26, 3) := by decide +kernel
theorem dX12_wants_10 : decode cX12_wants 10 = .ok (.aload_n 0, 1) := by decide +kernel
theorem dX12_wants_11 : decode cX12_wants 11 = .ok (.getfield 63, 3) := by decide +kernel
theorem dX12_wants_14 : decode cX12_wants 14 = .ok (.iload 4, 2) := by decide +kernel
theorem dX12_wants_16 : decode cX12_wants 16 = .ok (.iload 4, 2) := by decide +kernel
theorem dX12_wants_18 : decode cX12_wants 18 = .ok (.ifCond .ne 7, 3) := by decide +kernel
theorem dX12_wants_21 : decode cX12_wants 21 = .ok (.iconst 1, 1) := by decide +kernel
theorem dX12_wants_22 : decode cX12_wants 22 = .ok (.goto 4, 3) := by decide +kernel
theorem dX12_wants_25 : decode cX12_wants 25 = .ok (.iconst 0, 1) := by decide +kernel
theorem dX12_wants_26 : decode cX12_wants 26 = .ok (.iastore, 1) := by decide +kernel
theorem dX12_wants_27 : decode cX12_wants 27 = .ok (.iinc 4 1, 3) := by decide +kernel
theorem dX12_wants_30 : decode cX12_wants 30 = .ok (.goto (-27), 3) := by decide +kernel
theorem dX12_wants_33 : decode cX12_wants 33 = .ok (.iconst 0, 1) := by decide +kernel
theorem dX12_wants_34 : decode cX12_wants 34 = .ok (.istore 4, 2) := by decide +kernel
theorem dX12_wants_36 : decode cX12_wants 36 = .ok (.iload 4, 2) := by decide +kernel
theorem dX12_wants_38 : decode cX12_wants 38 = .ok (.aload_n 0, 1) := by decide +kernel
theorem dX12_wants_39 : decode cX12_wants 39 = .ok (.getfield 306, 3) := by decide +kernel
theorem dX12_wants_42 : decode cX12_wants 42 = .ok (.iconst 2, 1) := by decide +kernel
theorem dX12_wants_43 : decode cX12_wants 43 = .ok (.idiv, 1) := by decide +kernel
theorem dX12_wants_44 : decode cX12_wants 44 = .ok (.if_icmp .gt 268, 3) := by decide +kernel
theorem dX12_wants_47 : decode cX12_wants 47 = .ok (.iconst 0, 1) := by decide +kernel
theorem dX12_wants_48 : decode cX12_wants 48 = .ok (.istore 5, 2) := by decide +kernel
theorem dX12_wants_50 : decode cX12_wants 50 = .ok (.iload 5, 2) := by decide +kernel
theorem dX12_wants_52 : decode cX12_wants 52 = .ok (.iload_n 2, 1) := by decide +kernel
theorem dX12_wants_53 : decode cX12_wants 53 = .ok (.if_icmp .ge 82, 3) := by decide +kernel
theorem dX12_wants_56 : decode cX12_wants 56 = .ok (.iconst 0, 1) := by decide +kernel
theorem dX12_wants_57 : decode cX12_wants 57 = .ok (.istore 6, 2) := by decide +kernel
theorem dX12_wants_59 : decode cX12_wants 59 = .ok (.iconst 0, 1) := by decide +kernel
theorem dX12_wants_60 : decode cX12_wants 60 = .ok (.istore 7, 2) := by decide +kernel
theorem dX12_wants_62 : decode cX12_wants 62 = .ok (.iload 7, 2) := by decide +kernel
theorem dX12_wants_64 : decode cX12_wants 64 = .ok (.iload 5, 2) := by decide +kernel
theorem dX12_wants_66 : decode cX12_wants 66 = .ok (.if_icmp .gt 40, 3) := by decide +kernel
theorem dX12_wants_69 : decode cX12_wants 69 = .ok (.iload_n 3, 1) := by decide +kernel
theorem dX12_wants_70 : decode cX12_wants 70 = .ok (.ifCond .ne 36, 3) := by decide +kernel
theorem dX12_wants_73 : decode cX12_wants 73 = .ok (.aload_n 0, 1) := by decide +kernel
theorem dX12_wants_74 : decode cX12_wants 74 = .ok (.iload 6, 2) := by decide +kernel
theorem dX12_wants_76 : decode cX12_wants 76 = .ok (.aload_n 0, 1) := by decide +kernel
theorem dX12_wants_77 : decode cX12_wants 77 = .ok (.getfield 63, 3) := by decide +kernel
theorem dX12_wants_80 : decode cX12_wants 80 = .ok (.iload 7, 2) := by decide +kernel
theorem dX12_wants_82 : decode cX12_wants 82 = .ok (.iaload, 1) := by decide +kernel
theorem dX12_wants_83 : decode cX12_wants 83 = .ok (.aload_n 0, 1) := by decide +kernel
theorem dX12_wants_84 : decode cX12_wants 84 = .ok (.getfield 57, 3) := by decide +kernel
theorem dX12_wants_87 : decode cX12_wants 87 = .ok (.iload 5, 2) := by decide +kernel
theorem dX12_wants_89 : decode cX12_wants 89 = .ok (.iload 7, 2) := by decide +kernel
theorem dX12_wants_91 : decode cX12_wants 91 = .ok (.isub, 1) := by decide +kernel
theorem dX12_wants_92 : decode cX12_wants 92 = .ok (.iaload, 1) := by decide +kernel
theorem dX12_wants_93 : decode cX12_wants 93 = .ok (.imul, 1) := by decide +kernel
theorem dX12_wants_94 : decode cX12_wants 94 = .ok (.iadd, 1) := by decide +kernel
theorem dX12_wants_95 : decode cX12_wants 95 = .ok (.invokevirtual 182, 3) := by decide +kernel
theorem dX12_wants_98 : decode cX12_wants 98 = .ok (.istore 6, 2) := by decide +kernel
theorem dX12_wants_100 : decode cX12_wants 100 = .ok (.iinc 7 1, 3) := by decide +kernel
theorem dX12_wants_103 : decode cX12_wants 103 = .ok (.goto (-41), 3) := by decide +kernel
theorem dX12_wants_106 : decode cX12_wants 106 = .ok (.aload_n 0, 1) := by decide +kernel
theorem dX12_wants_107 : decode cX12_wants 107 = .ok (.getfield 66, 3) := by decide +kernel
theorem dX12_wants_110 : decode cX12_wants 110 = .ok (.iload 5, 2) := by decide +kernel
theorem dX12_wants_112 : decode cX12_wants 112 = .ok (.iload_n 3, 1) := by decide +kernel
theorem dX12_wants_113 : decode cX12_wants 113 = .ok (.ifCond .ne 8, 3) := by decide +kernel
theorem dX12_wants_116 : decode cX12_wants 116 = .ok (.iload 6, 2) := by decide +kernel
theorem dX12_wants_118 : decode cX12_wants 118 = .ok (.goto 10, 3) := by decide +kernel
theorem dX12_wants_121 : decode cX12_wants 121 = .ok (.aload_n 0, 1) := by decide +kernel
theorem dX12_wants_122 : decode cX12_wants 122 = .ok (.getfield 63, 3) := by decide +kernel
theorem dX12_wants_125 : decode cX12_wants 125 = .ok (.iload 5, 2) := by decide +kernel
theorem dX12_wants_127 : decode cX12_wants 127 = .ok (.iaload, 1) := by decide +kernel
theorem dX12_wants_128 : decode cX12_wants 128 = .ok (.iastore, 1) := by decide +kernel
theorem dX12_wants_129 : decode cX12_wants 129 = .ok (.iinc 5 1, 3) := by decide +kernel
theorem dX12_wants_132 : decode cX12_wants 132 = .ok (.goto (-82), 3) := by decide +kernel
theorem dX12_wants_135 : decode cX12_wants 135 = .ok (.iconst 0, 1) := by decide +kernel
theorem dX12_wants_136 : decode cX12_wants 136 = .ok (.istore 5, 2) := by decide +kernel
theorem dX12_wants_138 : decode cX12_wants 138 = .ok (.iload 5, 2) := by decide +kernel
theorem dX12_wants_140 : decode cX12_wants 140 = .ok (.iload_n 2, 1) := by decide +kernel
theorem dX12_wants_141 : decode cX12_wants 141 = .ok (.if_icmp .ge 102, 3) := by decide +kernel
theorem dX12_wants_144 : decode cX12_wants 144 = .ok (.iload_n 3, 1) := by decide +kernel
theorem dX12_wants_145 : decode cX12_wants 145 = .ok (.iconst 2, 1) := by decide +kernel
theorem dX12_wants_146 : decode cX12_wants 146 = .ok (.if_icmp .eq 30, 3) := by decide +kernel
theorem dX12_wants_149 : decode cX12_wants 149 = .ok (.aload_n 0, 1) := by decide +kernel
theorem dX12_wants_150 : decode cX12_wants 150 = .ok (.getfield 48, 3) := by decide +kernel
theorem dX12_wants_153 : decode cX12_wants 153 = .ok (.bipush 96, 2) := by decide +kernel
theorem dX12_wants_155 : decode cX12_wants 155 = .ok (.aload_n 0, 1) := by decide +kernel
theorem dX12_wants_156 : decode cX12_wants 156 = .ok (.getfield 309, 3) := by decide +kernel
theorem dX12_wants_159 : decode cX12_wants 159 = .ok (.iload 5, 2) := by decide +kernel
theorem dX12_wants_161 : decode cX12_wants 161 = .ok (.iadd, 1) := by decide +kernel
theorem dX12_wants_162 : decode cX12_wants 162 = .ok (.imul, 1) := by decide +kernel
theorem dX12_wants_163 : decode cX12_wants 163 = .ok (.iconst 2, 1) := by decide +kernel
theorem dX12_wants_164 : decode cX12_wants 164 = .ok (.iload 4, 2) := by decide +kernel
theorem dX12_wants_166 : decode cX12_wants 166 = .ok (.imul, 1) := by decide +kernel
theorem dX12_wants_167 : decode cX12_wants 167 = .ok (.iadd, 1) := by decide +kernel
theorem dX12_wants_168 : decode cX12_wants 168 = .ok (.aload_n 0, 1) := by decide +kernel
theorem dX12_wants_169 : decode cX12_wants 169 = .ok (.getfield 63, 3) := by decide +kernel
theorem dX12_wants_172 : decode cX12_wants 172 = .ok (.iload 5, 2) := by decide +kernel
theorem dX12_wants_174 : decode cX12_wants 174 = .ok (.iaload, 1) := by decide +kernel
theorem dX12_wants_175 : decode cX12_wants 175 = .ok (.iastore, 1) := by decide +kernel
theorem dX12_wants_176 : decode cX12_wants 176 = .ok (.iload_n 3, 1) := by decide +kernel
theorem dX12_wants_177 : decode cX12_wants 177 = .ok (.iconst 1, 1) := by decide +kernel
theorem dX12_wants_178 : decode cX12_wants 178 = .ok (.if_icmp .eq 59, 3) := by decide +kernel
theorem dX12_wants_181 : decode cX12_wants 181 = .ok (.iconst 2, 1) := by decide +kernel
theorem dX12_wants_182 : decode cX12_wants 182 = .ok (.iload 4, 2) := by decide +kernel
theorem dX12_wants_184 : decode cX12_wants 184 = .ok (.imul, 1) := by decide +kernel
theorem dX12_wants_185 : decode cX12_wants 185 = .ok (.iconst 2, 1) := by decide +kernel
theorem dX12_wants_186 : decode cX12_wants 186 = .ok (.aload_n 0, 1) := by decide +kernel
theorem dX12_wants_187 : decode cX12_wants 187 = .ok (.getfield 221, 3) := by decide +kernel
theorem dX12_wants_190 : decode cX12_wants 190 = .ok (.imul, 1) := by decide +kernel
theorem dX12_wants_191 : decode cX12_wants 191 = .ok (.iadd, 1) := by decide +kernel
theorem dX12_wants_192 : decode cX12_wants 192 = .ok (.iconst 1, 1) := by decide +kernel
theorem dX12_wants_193 : decode cX12_wants 193 = .ok (.iadd, 1) := by decide +kernel
theorem dX12_wants_194 : decode cX12_wants 194 = .ok (.aload_n 0, 1) := by decide +kernel
theorem dX12_wants_195 : decode cX12_wants 195 = .ok (.getfield 306, 3) := by decide +kernel
theorem dX12_wants_198 : decode cX12_wants 198 = .ok (.if_icmp .gt 39, 3) := by decide +kernel
theorem dX12_wants_201 : decode cX12_wants 201 = .ok (.aload_n 0, 1) := by decide +kernel
theorem dX12_wants_202 : decode cX12_wants 202 = .ok (.getfield 48, 3) := by decide +kernel
theorem dX12_wants_205 : decode cX12_wants 205 = .ok (.bipush 96, 2) := by decide +kernel
theorem dX12_wants_207 : decode cX12_wants 207 = .ok (.aload_n 0, 1) := by decide +kernel
theorem dX12_wants_208 : decode cX12_wants 208 = .ok (.getfield 309, 3) := by decide +kernel
theorem dX12_wants_211 : decode cX12_wants 211 = .ok (.iload 5, 2) := by decide +kernel
theorem dX12_wants_213 : decode cX12_wants 213 = .ok (.iadd, 1) := by decide +kernel
theorem dX12_wants_214 : decode cX12_wants 214 = .ok (.imul, 1) := by decide +kernel
theorem dX12_wants_215 : decode cX12_wants 215 = .ok (.iconst 2, 1) := by decide +kernel
theorem dX12_wants_216 : decode cX12_wants 216 = .ok (.iload 4, 2) := by decide +kernel
theorem dX12_wants_218 : decode cX12_wants 218 = .ok (.imul, 1) := by decide +kernel
theorem dX12_wants_219 : decode cX12_wants 219 = .ok (.iadd, 1) := by decide +kernel
theorem dX12_wants_220 : decode cX12_wants 220 = .ok (.iconst 2, 1) := by decide +kernel
theorem dX12_wants_221 : decode cX12_wants 221 = .ok (.aload_n 0, 1) := by decide +kernel
theorem dX12_wants_222 : decode cX12_wants 222 = .ok (.getfield 221, 3) := by decide +kernel
theorem dX12_wants_225 : decode cX12_wants 225 = .ok (.imul, 1) := by decide +kernel
theorem dX12_wants_226 : decode cX12_wants 226 = .ok (.iadd, 1) := by decide +kernel
theorem dX12_wants_227 : decode cX12_wants 227 = .ok (.iconst 1, 1) := by decide +kernel
theorem dX12_wants_228 : decode cX12_wants 228 = .ok (.iadd, 1) := by decide +kernel
theorem dX12_wants_229 : decode cX12_wants 229 = .ok (.aload_n 0, 1) := by decide +kernel
theorem dX12_wants_230 : decode cX12_wants 230 = .ok (.getfield 66, 3) := by decide +kernel
theorem dX12_wants_233 : decode cX12_wants 233 = .ok (.iload 5, 2) := by decide +kernel
theorem dX12_wants_235 : decode cX12_wants 235 = .ok (.iaload, 1) := by decide +kernel
theorem dX12_wants_236 : decode cX12_wants 236 = .ok (.iastore, 1) := by decide +kernel
theorem dX12_wants_237 : decode cX12_wants 237 = .ok (.iinc 5 1, 3) := by decide +kernel
theorem dX12_wants_240 : decode cX12_wants 240 = .ok (.goto (-102), 3) := by decide +kernel
theorem dX12_wants_243 : decode cX12_wants 243 = .ok (.bipush 95, 2) := by decide +kernel
theorem dX12_wants_245 : decode cX12_wants 245 = .ok (.istore 5, 2) := by decide +kernel
theorem dX12_wants_247 : decode cX12_wants 247 = .ok (.iload 5, 2) := by decide +kernel
theorem dX12_wants_249 : decode cX12_wants 249 = .ok (.ifCond .le 39, 3) := by decide +kernel
theorem dX12_wants_252 : decode cX12_wants 252 = .ok (.aload_n 0, 1) := by decide +kernel
theorem dX12_wants_253 : decode cX12_wants 253 = .ok (.getfield 63, 3) := by decide +kernel
theorem dX12_wants_256 : decode cX12_wants 256 = .ok (.iload 5, 2) := by decide +kernel
theorem dX12_wants_258 : decode cX12_wants 258 = .ok (.aload_n 0, 1) := by decide +kernel
theorem dX12_wants_259 : decode cX12_wants 259 = .ok (.aload_n 0, 1) := by decide +kernel
theorem dX12_wants_260 : decode cX12_wants 260 = .ok (.getfield 63, 3) := by decide +kernel
theorem dX12_wants_263 : decode cX12_wants 263 = .ok (.iload 5, 2) := by decide +kernel
theorem dX12_wants_265 : decode cX12_wants 265 = .ok (.iaload, 1) := by decide +kernel
theorem dX12_wants_266 : decode cX12_wants 266 = .ok (.iload_n 1, 1) := by decide +kernel
theorem dX12_wants_267 : decode cX12_wants 267 = .ok (.imul, 1) := by decide +kernel
theorem dX12_wants_268 : decode cX12_wants 268 = .ok (.aload_n 0, 1) := by decide +kernel
theorem dX12_wants_269 : decode cX12_wants 269 = .ok (.getfield 63, 3) := by decide +kernel
theorem dX12_wants_272 : decode cX12_wants 272 = .ok (.iload 5, 2) := by decide +kernel
theorem dX12_wants_274 : decode cX12_wants 274 = .ok (.iconst 1, 1) := by decide +kernel
theorem dX12_wants_275 : decode cX12_wants 275 = .ok (.isub, 1) := by decide +kernel
theorem dX12_wants_276 : decode cX12_wants 276 = .ok (.iaload, 1) := by decide +kernel
theorem dX12_wants_277 : decode cX12_wants 277 = .ok (.iadd, 1) := by decide +kernel
theorem dX12_wants_278 : decode cX12_wants 278 = .ok (.invokevirtual 182, 3) := by decide +kernel
theorem dX12_wants_281 : decode cX12_wants 281 = .ok (.iastore, 1) := by decide +kernel
theorem dX12_wants_282 : decode cX12_wants 282 = .ok (.iinc 5 (-1), 3) := by decide +kernel
theorem dX12_wants_285 : decode cX12_wants 285 = .ok (.goto (-38), 3) := by decide +kernel
theorem dX12_wants_288 : decode cX12_wants 288 = .ok (.aload_n 0, 1) := by decide +kernel
theorem dX12_wants_289 : decode cX12_wants 289 = .ok (.getfield 63, 3) := by decide +kernel
theorem dX12_wants_292 : decode cX12_wants 292 = .ok (.iconst 0, 1) := by decide +kernel
theorem dX12_wants_293 : decode cX12_wants 293 = .ok (.aload_n 0, 1) := by decide +kernel
theorem dX12_wants_294 : decode cX12_wants 294 = .ok (.aload_n 0, 1) := by decide +kernel
theorem dX12_wants_295 : decode cX12_wants 295 = .ok (.getfield 63, 3) := by decide +kernel
theorem dX12_wants_298 : decode cX12_wants 298 = .ok (.iconst 0, 1) := by decide +kernel
theorem dX12_wants_299 : decode cX12_wants 299 = .ok (.iaload, 1) := by decide +kernel
theorem dX12_wants_300 : decode cX12_wants 300 = .ok (.iload_n 1, 1) := by decide +kernel
theorem dX12_wants_301 : decode cX12_wants 301 = .ok (.imul, 1) := by decide +kernel
theorem dX12_wants_302 : decode cX12_wants 302 = .ok (.invokevirtual 182, 3) := by decide +kernel
theorem dX12_wants_305 : decode cX12_wants 305 = .ok (.iastore, 1) := by decide +kernel
theorem dX12_wants_306 : decode cX12_wants 306 = .ok (.iinc 4 1, 3) := by decide +kernel
theorem dX12_wants_309 : decode cX12_wants 309 = .ok (.goto (-273), 3) := by decide +kernel
theorem dX12_wants_312 : decode cX12_wants 312 = .ok (.aload_n 0, 1) := by decide +kernel
theorem dX12_wants_313 : decode cX12_wants 313 = .ok (.dup, 1) := by decide +kernel
theorem dX12_wants_314 : decode cX12_wants 314 = .ok (.getfield 309, 3) := by decide +kernel
theorem dX12_wants_317 : decode cX12_wants 317 = .ok (.iload_n 2, 1) := by decide +kernel
theorem dX12_wants_318 : decode cX12_wants 318 = .ok (.iadd, 1) := by decide +kernel
theorem dX12_wants_319 : decode cX12_wants 319 = .ok (.putfield 309, 3) := by decide +kernel
theorem dX12_wants_322 : decode cX12_wants 322 = .ok (.return_, 1) := by decide +kernel
set_option maxRecDepth 20000 in
theorem b_X12_wants_0 {k n : Nat} {x : Wx} {Z : Zt} {Q : Option Value → Wx → Zt → Prop} {a0 : Nat} {v1 : Int} {v2 : Int} {v3 : Int} 
    (h : V mX12_wants k n 3 [some (r_ a0), some (i_ v1), some (i_ v2), some (i_ v3), some (i_ 0), none, none, none] [] x Z Q) :
    V mX12_wants k n 0 [some (r_ a0), some (i_ v1), some (i_ v2), some (i_ v3), none, none, none, none] [] x Z Q :=
  V_iconst dX12_wants_0 (V_istore (lv' := [some (r_ a0), some (i_ v1), some (i_ v2), some (i_ v3), some (i_ 0), none, none, none]) dX12_wants_1 (Nat.le_of_ble_eq_true rfl) rfl (V_msk [true, true, true, true, true, false, false, false] rfl h))
set_option maxRecDepth 20000 in
theorem b_X12_wants_3 {k n : Nat} {x : Wx} {Z : Zt} {Q : Option Value → Wx → Zt → Prop} {a0 : Nat} {v1 : Int} {v2 : Int} {v3 : Int} {v4 : Int} (o_a0 : Is12 x a0)
    (h : Rg v4 ∧ (((96 ≤ v4) → (V mX12_wants k n 36 [some (r_ a0), some (i_ v1), some (i_ v2), some (i_ v3), some (i_ 0), none, none, none] [] x Z Q)) ∧ ((v4 < 96) → (((v4 ≠ 0) → (V mX12_wants k n 26 [some (r_ a0), some (i_ v1), some (i_ v2), some (i_ v3), some (i_ v4), none, none, none] [i_ 0, i_ v4, r_ (a0 + 18)] x Z Q)) ∧ ((v4 = 0) → (V mX12_wants k n 26 [some (r_ a0), some (i_ v1), some (i_ v2), some (i_ v3), some (i_ v4), none, none, none] [i_ 1, i_ v4, r_ (a0 + 18)] x Z Q)))))) :
    V mX12_wants k n 3 [some (r_ a0), some (i_ v1), some (i_ v2), some (i_ v3), some (i_ v4), none, none, none] [] x Z Q :=
  V_iload dX12_wants_3 rfl (V_bipush dX12_wants_5 rfl (V_icmp_ge (tgt := 33) dX12_wants_7 rfl h.1 (rg_c rfl) (fun c1 => V_iconst dX12_wants_33 (V_istore (lv' := [some (r_ a0), some (i_ v1), some (i_ v2), some (i_ v3), some (i_ 0), none, none, none]) dX12_wants_34 (Nat.le_of_ble_eq_true rfl) rfl (V_msk [true, true, true, true, true, false, false, false] rfl (h.2.1 c1)))) (fun c1 => V_aload_n dX12_wants_10 rfl (G_12_32 o_a0.1 o_a0.qR32 lf_12_63 dX12_wants_11 (V_iload dX12_wants_14 rfl (V_iload dX12_wants_16 rfl (V_if_ne (tgt := 25) dX12_wants_18 rfl h.1 (fun c2 => V_iconst dX12_wants_25 (V_msk [true, true, true, true, true, false, false, false] rfl ((h.2.2 c1).1 c2))) (fun c2 => V_iconst dX12_wants_21 (V_goto (tgt := 26) dX12_wants_22 rfl (V_msk [true, true, true, true, true, false, false, false] rfl ((h.2.2 c1).2 c2)))))))))))
set_option maxRecDepth 20000 in
theorem b_X12_wants_26 {k n : Nat} {x : Wx} {Z : Zt} {Q : Option Value → Wx → Zt → Prop} {a0 : Nat} {v1 : Int} {v2 : Int} {v3 : Int} {v4 : Int} {b0_ : Nat} {t1 : Int} {t2 : Int} (s_b0 : x.1 b0_ = some (100, 96))
    (h : 0 ≤ t1 ∧ t1 < 96 ∧ (∀ Z1 : Zt, Z1 = up Z b0_ t1.toNat t2 → (V mX12_wants k n 3 [some (r_ a0), some (i_ v1), some (i_ v2), some (i_ v3), some (i_ (v4 + 1)), none, none, none] [] x Z1 Q))) :
    V mX12_wants k n 26 [some (r_ a0), some (i_ v1), some (i_ v2), some (i_ v3), some (i_ v4), none, none, none] [i_ t2, i_ t1, r_ b0_] x Z Q :=
  V_iast (t := 100) s_b0 (by decide) (by decide) rfl h.1 h.2.1 (Nat.le_of_ble_eq_true rfl) dX12_wants_26 (V_nmZ (fun Z1 eZ1 => V_iinc (lv' := [some (r_ a0), some (i_ v1), some (i_ v2), some (i_ v3), some (i_ (v4 + 1)), none, none, none]) dX12_wants_27 rfl (Nat.le_of_ble_eq_true rfl) rfl (V_goto (tgt := 3) dX12_wants_30 rfl (V_msk [true, true, true, true, true, false, false, false] rfl (h.2.2 Z1 eZ1)))))
set_option maxRecDepth 20000 in
theorem b_X12_wants_36 {k n : Nat} {x : Wx} {Z : Zt} {Q : Option Value → Wx → Zt → Prop} {a0 : Nat} {v1 : Int} {v2 : Int} {v3 : Int} {v4 : Int} (o_a0 : Is12 x a0)
    (h : Rg (Z a0 24) ∧ (Rg v4 ∧ Rg (Int.tdiv (Z a0 24) 2) ∧ (((Int.tdiv (Z a0 24) 2 < v4) → (∀ Z1 : Zt, Z1 = up Z a0 26 ((Z a0 26) + v2) → (Q none x Z1))) ∧ ((v4 ≤ Int.tdiv (Z a0 24) 2) → (V mX12_wants k n 50 [some (r_ a0), some (i_ v1), some (i_ v2), some (i_ v3), some (i_ v4), some (i_ 0), none, none] [] x Z Q))))) :
    V mX12_wants k n 36 [some (r_ a0), some (i_ v1), some (i_ v2), some (i_ v3), some (i_ v4), none, none, none] [] x Z Q :=
  V_iload dX12_wants_36 rfl (V_aload_n dX12_wants_38 rfl (G_12_24 o_a0.1 lf_12_306 dX12_wants_39 (V_iconst dX12_wants_42 (V_idiv dX12_wants_43 h.1 (rg_c rfl) (by decide) (V_icmp_gt (tgt := 312) dX12_wants_44 rfl h.2.1 h.2.2.1 (fun c1 => V_aload_n dX12_wants_312 rfl (V_dup dX12_wants_313 rfl (G_12_26 o_a0.1 lf_12_309 dX12_wants_314 (V_iload_n dX12_wants_317 rfl (V_iadd dX12_wants_318 (P_12_26 o_a0.1 lf_12_309 dX12_wants_319 (V_nmZ (fun Z1 eZ1 => V_ret dX12_wants_322 rfl ((h.2.2.2.1 c1) Z1 eZ1))))))))) (fun c1 => V_iconst dX12_wants_47 (V_istore (lv' := [some (r_ a0), some (i_ v1), some (i_ v2), some (i_ v3), some (i_ v4), some (i_ 0), none, none]) dX12_wants_48 (Nat.le_of_ble_eq_true rfl) rfl (V_msk [true, true, true, true, true, true, false, false] rfl (h.2.2.2.2 c1)))))))))
set_option maxRecDepth 20000 in
theorem b_X12_wants_50 {k n : Nat} {x : Wx} {Z : Zt} {Q : Option Value → Wx → Zt → Prop} {a0 : Nat} {v1 : Int} {v2 : Int} {v3 : Int} {v4 : Int} {v5 : Int} 
    (h : Rg v5 ∧ Rg v2 ∧ (((v2 ≤ v5) → (V mX12_wants k n 138 [some (r_ a0), some (i_ v1), some (i_ v2), some (i_ v3), some (i_ v4), some (i_ 0), none, none] [] x Z Q)) ∧ ((v5 < v2) → (V mX12_wants k n 62 [some (r_ a0), some (i_ v1), some (i_ v2), some (i_ v3), some (i_ v4), some (i_ v5), some (i_ 0), some (i_ 0)] [] x Z Q)))) :
    V mX12_wants k n 50 [some (r_ a0), some (i_ v1), some (i_ v2), some (i_ v3), some (i_ v4), some (i_ v5), none, none] [] x Z Q :=
  V_iload dX12_wants_50 rfl (V_iload_n dX12_wants_52 rfl (V_icmp_ge (tgt := 135) dX12_wants_53 rfl h.1 h.2.1 (fun c1 => V_iconst dX12_wants_135 (V_istore (lv' := [some (r_ a0), some (i_ v1), some (i_ v2), some (i_ v3), some (i_ v4), some (i_ 0), none, none]) dX12_wants_136 (Nat.le_of_ble_eq_true rfl) rfl (V_msk [true, true, true, true, true, true, false, false] rfl (h.2.2.1 c1)))) (fun c1 => V_iconst dX12_wants_56 (V_istore (lv' := [some (r_ a0), some (i_ v1), some (i_ v2), some (i_ v3), some (i_ v4), some (i_ v5), some (i_ 0), none]) dX12_wants_57 (Nat.le_of_ble_eq_true rfl) rfl (V_iconst dX12_wants_59 (V_istore (lv' := [some (r_ a0), some (i_ v1), some (i_ v2), some (i_ v3), some (i_ v4), some (i_ v5), some (i_ 0), some (i_ 0)]) dX12_wants_60 (Nat.le_of_ble_eq_true rfl) rfl (V_msk [true, true, true, true, true, true, true, true] rfl (h.2.2.2 c1))))))))
set_option maxRecDepth 20000 in
theorem b_X12_wants_62 {k n : Nat} {x : Wx} {Z : Zt} {Q : Option Value → Wx → Zt → Prop} {a0 : Nat} {v1 : Int} {v2 : Int} {v3 : Int} {v4 : Int} {v5 : Int} {v6 : Int} {v7 : Int} (o_a0 : Is12 x a0)
    (h : Rg v7 ∧ Rg v5 ∧ (((v5 < v7) → (V mX12_wants k n 106 [some (r_ a0), some (i_ v1), some (i_ v2), some (i_ v3), some (i_ v4), some (i_ v5), some (i_ v6), none] [] x Z Q)) ∧ ((v7 ≤ v5) → (Rg v3 ∧ (((v3 ≠ 0) → (V mX12_wants k n 106 [some (r_ a0), some (i_ v1), some (i_ v2), some (i_ v3), some (i_ v4), some (i_ v5), some (i_ v6), none] [] x Z Q)) ∧ ((v3 = 0) → (0 ≤ v7 ∧ v7 < 96 ∧ (0 ≤ v5 - v7 ∧ v5 - v7 < 96 ∧ (Rg (v6 + ((Z (a0 + 18) v7.toNat) * (Z (a0 + 16) (v5 - v7).toNat))) ∧ 0 < Z a0 11 ∧ Z a0 11 ≤ 13 ∧ (∀ i1 : Int, i1 = (v6 + ((Z (a0 + 18) v7.toNat) * (Z (a0 + 16) (v5 - v7).toNat))) % Z a0 11 → (V mX12_wants k n 62 [some (r_ a0), some (i_ v1), some (i_ v2), some (i_ v3), some (i_ v4), some (i_ v5), some (i_ i1), some (i_ (v7 + 1))] [] x Z Q))))))))))) :
    V mX12_wants k n 62 [some (r_ a0), some (i_ v1), some (i_ v2), some (i_ v3), some (i_ v4), some (i_ v5), some (i_ v6), some (i_ v7)] [] x Z Q :=
  V_iload dX12_wants_62 rfl (V_iload dX12_wants_64 rfl (V_icmp_gt (tgt := 106) dX12_wants_66 rfl h.1 h.2.1 (fun c1 => V_msk [true, true, true, true, true, true, true, false] rfl (h.2.2.1 c1)) (fun c1 => V_iload_n dX12_wants_69 rfl (V_if_ne (tgt := 106) dX12_wants_70 rfl (h.2.2.2 c1).1 (fun c2 => V_msk [true, true, true, true, true, true, true, false] rfl ((h.2.2.2 c1).2.1 c2)) (fun c2 => V_aload_n dX12_wants_73 rfl (V_iload dX12_wants_74 rfl (V_aload_n dX12_wants_76 rfl (G_12_32 o_a0.1 o_a0.qR32 lf_12_63 dX12_wants_77 (V_iload dX12_wants_80 rfl (V_iald (t := 100) o_a0.qK32 (by decide) rfl ((h.2.2.2 c1).2.2 c2).1 ((h.2.2.2 c1).2.2 c2).2.1 (Nat.le_of_ble_eq_true rfl) dX12_wants_82 (V_aload_n dX12_wants_83 rfl (G_12_30 o_a0.1 o_a0.qR30 lf_12_57 dX12_wants_84 (V_iload dX12_wants_87 rfl (V_iload dX12_wants_89 rfl (V_isub dX12_wants_91 (V_iald (t := 100) o_a0.qK30 (by decide) rfl ((h.2.2.2 c1).2.2 c2).2.2.1 ((h.2.2.2 c1).2.2 c2).2.2.2.1 (Nat.le_of_ble_eq_true rfl) dX12_wants_92 (V_imul dX12_wants_93 (V_iadd dX12_wants_94 (V_callV (k' := 0) (n' := 0) (t := 12) (q := (RX12, TX12, 46)) [i_ (v6 + ((Z (a0 + 18) v7.toNat) * (Z (a0 + 16) (v5 - v7).toNat)))] [] okX12_mod o_a0.1 rfl rfl lm_12_182 liX12_mod lqX12_mod (Nat.le_of_ble_eq_true rfl) (Nat.le_of_ble_eq_true rfl) (Nat.le_of_ble_eq_true rfl) (cat_of rfl) (Nat.le_of_ble_eq_true rfl) (Nat.zero_le _) (Nat.zero_le _) rfl dX12_wants_95 (sp_X12_mod o_a0 ((h.2.2.2 c1).2.2 c2).2.2.2.2.1 ((h.2.2.2 c1).2.2 c2).2.2.2.2.2.1 ((h.2.2.2 c1).2.2 c2).2.2.2.2.2.2.1 (V_nmi (fun i1 ei1 => V_istore (lv' := [some (r_ a0), some (i_ v1), some (i_ v2), some (i_ v3), some (i_ v4), some (i_ v5), some (i_ i1), some (i_ v7)]) dX12_wants_98 (Nat.le_of_ble_eq_true rfl) rfl (V_iinc (lv' := [some (r_ a0), some (i_ v1), some (i_ v2), some (i_ v3), some (i_ v4), some (i_ v5), some (i_ i1), some (i_ (v7 + 1))]) dX12_wants_100 rfl (Nat.le_of_ble_eq_true rfl) rfl (V_goto (tgt := 62) dX12_wants_103 rfl (V_msk [true, true, true, true, true, true, true, true] rfl (((h.2.2.2 c1).2.2 c2).2.2.2.2.2.2.2 i1 ei1))))))))))))))))))))))))))
set_option maxRecDepth 20000 in
theorem b_X12_wants_106 {k n : Nat} {x : Wx} {Z : Zt} {Q : Option Value → Wx → Zt → Prop} {a0 : Nat} {v1 : Int} {v2 : Int} {v3 : Int} {v4 : Int} {v5 : Int} {v6 : Int} (o_a0 : Is12 x a0)
    (h : Rg v3 ∧ (((v3 ≠ 0) → (0 ≤ v5 ∧ v5 < 96 ∧ (V mX12_wants k n 128 [some (r_ a0), some (i_ v1), some (i_ v2), some (i_ v3), some (i_ v4), some (i_ v5), none, none] [i_ (Z (a0 + 18) v5.toNat), i_ v5, r_ (a0 + 19)] x Z Q))) ∧ ((v3 = 0) → (V mX12_wants k n 128 [some (r_ a0), some (i_ v1), some (i_ v2), some (i_ v3), some (i_ v4), some (i_ v5), none, none] [i_ v6, i_ v5, r_ (a0 + 19)] x Z Q)))) :
    V mX12_wants k n 106 [some (r_ a0), some (i_ v1), some (i_ v2), some (i_ v3), some (i_ v4), some (i_ v5), some (i_ v6), none] [] x Z Q :=
  V_aload_n dX12_wants_106 rfl (G_12_33 o_a0.1 o_a0.qR33 lf_12_66 dX12_wants_107 (V_iload dX12_wants_110 rfl (V_iload_n dX12_wants_112 rfl (V_if_ne (tgt := 121) dX12_wants_113 rfl h.1 (fun c1 => V_aload_n dX12_wants_121 rfl (G_12_32 o_a0.1 o_a0.qR32 lf_12_63 dX12_wants_122 (V_iload dX12_wants_125 rfl (V_iald (t := 100) o_a0.qK32 (by decide) rfl (h.2.1 c1).1 (h.2.1 c1).2.1 (Nat.le_of_ble_eq_true rfl) dX12_wants_127 (V_msk [true, true, true, true, true, true, false, false] rfl (h.2.1 c1).2.2))))) (fun c1 => V_iload dX12_wants_116 rfl (V_goto (tgt := 128) dX12_wants_118 rfl (V_msk [true, true, true, true, true, true, false, false] rfl (h.2.2 c1))))))))
set_option maxRecDepth 20000 in
theorem b_X12_wants_128 {k n : Nat} {x : Wx} {Z : Zt} {Q : Option Value → Wx → Zt → Prop} {a0 : Nat} {v1 : Int} {v2 : Int} {v3 : Int} {v4 : Int} {v5 : Int} {b0_ : Nat} {t1 : Int} {t2 : Int} (s_b0 : x.1 b0_ = some (100, 96))
    (h : 0 ≤ t1 ∧ t1 < 96 ∧ (∀ Z1 : Zt, Z1 = up Z b0_ t1.toNat t2 → (V mX12_wants k n 50 [some (r_ a0), some (i_ v1), some (i_ v2), some (i_ v3), some (i_ v4), some (i_ (v5 + 1)), none, none] [] x Z1 Q))) :
    V mX12_wants k n 128 [some (r_ a0), some (i_ v1), some (i_ v2), some (i_ v3), some (i_ v4), some (i_ v5), none, none] [i_ t2, i_ t1, r_ b0_] x Z Q :=
  V_iast (t := 100) s_b0 (by decide) (by decide) rfl h.1 h.2.1 (Nat.le_of_ble_eq_true rfl) dX12_wants_128 (V_nmZ (fun Z1 eZ1 => V_iinc (lv' := [some (r_ a0), some (i_ v1), some (i_ v2), some (i_ v3), some (i_ v4), some (i_ (v5 + 1)), none, none]) dX12_wants_129 rfl (Nat.le_of_ble_eq_true rfl) rfl (V_goto (tgt := 50) dX12_wants_132 rfl (V_msk [true, true, true, true, true, true, false, false] rfl (h.2.2 Z1 eZ1)))))
set_option maxRecDepth 20000 in
theorem b_X12_wants_138 {k n : Nat} {x : Wx} {Z : Zt} {Q : Option Value → Wx → Zt → Prop} {a0 : Nat} {v1 : Int} {v2 : Int} {v3 : Int} {v4 : Int} {v5 : Int} (o_a0 : Is12 x a0)
    (h : Rg v5 ∧ Rg v2 ∧ (((v2 ≤ v5) → (V mX12_wants k n 247 [some (r_ a0), some (i_ v1), some (i_ v2), some (i_ v3), some (i_ v4), some (i_ 95), none, none] [] x Z Q)) ∧ ((v5 < v2) → (Rg v3 ∧ (((v3 = 2) → (V mX12_wants k n 176 [some (r_ a0), some (i_ v1), some (i_ v2), some (i_ v3), some (i_ v4), some (i_ v5), none, none] [] x Z Q)) ∧ ((v3 ≠ 2) → (0 ≤ v5 ∧ v5 < 96 ∧ (0 ≤ (96 * ((Z a0 26) + v5)) + (2 * v4) ∧ (96 * ((Z a0 26) + v5)) + (2 * v4) < 9600 ∧ (∀ Z1 : Zt, Z1 = up Z (a0 + 13) ((96 * ((Z a0 26) + v5)) + (2 * v4)).toNat (Z (a0 + 18) v5.toNat) → (V mX12_wants k n 176 [some (r_ a0), some (i_ v1), some (i_ v2), some (i_ v3), some (i_ v4), some (i_ v5), none, none] [] x Z1 Q)))))))))) :
    V mX12_wants k n 138 [some (r_ a0), some (i_ v1), some (i_ v2), some (i_ v3), some (i_ v4), some (i_ v5), none, none] [] x Z Q :=
  V_iload dX12_wants_138 rfl (V_iload_n dX12_wants_140 rfl (V_icmp_ge (tgt := 243) dX12_wants_141 rfl h.1 h.2.1 (fun c1 => V_bipush dX12_wants_243 rfl (V_istore (lv' := [some (r_ a0), some (i_ v1), some (i_ v2), some (i_ v3), some (i_ v4), some (i_ 95), none, none]) dX12_wants_245 (Nat.le_of_ble_eq_true rfl) rfl (V_msk [true, true, true, true, true, true, false, false] rfl (h.2.2.1 c1)))) (fun c1 => V_iload_n dX12_wants_144 rfl (V_iconst dX12_wants_145 (V_icmp_eq (tgt := 176) dX12_wants_146 rfl (h.2.2.2 c1).1 (rg_c rfl) (fun c2 => V_msk [true, true, true, true, true, true, false, false] rfl ((h.2.2.2 c1).2.1 c2)) (fun c2 => V_aload_n dX12_wants_149 rfl (G_12_25 o_a0.1 o_a0.qR25 lf_12_48 dX12_wants_150 (V_bipush dX12_wants_153 rfl (V_aload_n dX12_wants_155 rfl (G_12_26 o_a0.1 lf_12_309 dX12_wants_156 (V_iload dX12_wants_159 rfl (V_iadd dX12_wants_161 (V_imul dX12_wants_162 (V_iconst dX12_wants_163 (V_iload dX12_wants_164 rfl (V_imul dX12_wants_166 (V_iadd dX12_wants_167 (V_aload_n dX12_wants_168 rfl (G_12_32 o_a0.1 o_a0.qR32 lf_12_63 dX12_wants_169 (V_iload dX12_wants_172 rfl (V_iald (t := 100) o_a0.qK32 (by decide) rfl ((h.2.2.2 c1).2.2 c2).1 ((h.2.2.2 c1).2.2 c2).2.1 (Nat.le_of_ble_eq_true rfl) dX12_wants_174 (V_iast (t := 100) o_a0.qK25 (by decide) (by decide) rfl ((h.2.2.2 c1).2.2 c2).2.2.1 ((h.2.2.2 c1).2.2 c2).2.2.2.1 (Nat.le_of_ble_eq_true rfl) dX12_wants_175 (V_nmZ (fun Z1 eZ1 => V_msk [true, true, true, true, true, true, false, false] rfl (((h.2.2.2 c1).2.2 c2).2.2.2.2 Z1 eZ1)))))))))))))))))))))))))
set_option maxRecDepth 20000 in
theorem b_X12_wants_176 {k n : Nat} {x : Wx} {Z : Zt} {Q : Option Value → Wx → Zt → Prop} {a0 : Nat} {v1 : Int} {v2 : Int} {v3 : Int} {v4 : Int} {v5 : Int} (o_a0 : Is12 x a0)
    (h : Rg v3 ∧ (((v3 = 1) → (V mX12_wants k n 237 [some (r_ a0), some (i_ v1), some (i_ v2), some (i_ v3), some (i_ v4), some (i_ v5), none, none] [] x Z Q)) ∧ ((v3 ≠ 1) → (Rg (((2 * v4) + (2 * (Z a0 12))) + 1) ∧ Rg (Z a0 24) ∧ (((Z a0 24 < ((2 * v4) + (2 * (Z a0 12))) + 1) → (V mX12_wants k n 237 [some (r_ a0), some (i_ v1), some (i_ v2), some (i_ v3), some (i_ v4), some (i_ v5), none, none] [] x Z Q)) ∧ ((((2 * v4) + (2 * (Z a0 12))) + 1 ≤ Z a0 24) → (0 ≤ v5 ∧ v5 < 96 ∧ (0 ≤ (((96 * ((Z a0 26) + v5)) + (2 * v4)) + (2 * (Z a0 12))) + 1 ∧ (((96 * ((Z a0 26) + v5)) + (2 * v4)) + (2 * (Z a0 12))) + 1 < 9600 ∧ (∀ Z1 : Zt, Z1 = up Z (a0 + 13) ((((96 * ((Z a0 26) + v5)) + (2 * v4)) + (2 * (Z a0 12))) + 1).toNat (Z (a0 + 19) v5.toNat) → (V mX12_wants k n 237 [some (r_ a0), some (i_ v1), some (i_ v2), some (i_ v3), some (i_ v4), some (i_ v5), none, none] [] x Z1 Q)))))))))) :
    V mX12_wants k n 176 [some (r_ a0), some (i_ v1), some (i_ v2), some (i_ v3), some (i_ v4), some (i_ v5), none, none] [] x Z Q :=
  V_iload_n dX12_wants_176 rfl (V_iconst dX12_wants_177 (V_icmp_eq (tgt := 237) dX12_wants_178 rfl h.1 (rg_c rfl) (fun c1 => V_msk [true, true, true, true, true, true, false, false] rfl (h.2.1 c1)) (fun c1 => V_iconst dX12_wants_181 (V_iload dX12_wants_182 rfl (V_imul dX12_wants_184 (V_iconst dX12_wants_185 (V_aload_n dX12_wants_186 rfl (G_12_12 o_a0.1 lf_12_221 dX12_wants_187 (V_imul dX12_wants_190 (V_iadd dX12_wants_191 (V_iconst dX12_wants_192 (V_iadd dX12_wants_193 (V_aload_n dX12_wants_194 rfl (G_12_24 o_a0.1 lf_12_306 dX12_wants_195 (V_icmp_gt (tgt := 237) dX12_wants_198 rfl (h.2.2 c1).1 (h.2.2 c1).2.1 (fun c2 => V_msk [true, true, true, true, true, true, false, false] rfl ((h.2.2 c1).2.2.1 c2)) (fun c2 => V_aload_n dX12_wants_201 rfl (G_12_25 o_a0.1 o_a0.qR25 lf_12_48 dX12_wants_202 (V_bipush dX12_wants_205 rfl (V_aload_n dX12_wants_207 rfl (G_12_26 o_a0.1 lf_12_309 dX12_wants_208 (V_iload dX12_wants_211 rfl (V_iadd dX12_wants_213 (V_imul dX12_wants_214 (V_iconst dX12_wants_215 (V_iload dX12_wants_216 rfl (V_imul dX12_wants_218 (V_iadd dX12_wants_219 (V_iconst dX12_wants_220 (V_aload_n dX12_wants_221 rfl (G_12_12 o_a0.1 lf_12_221 dX12_wants_222 (V_imul dX12_wants_225 (V_iadd dX12_wants_226 (V_iconst dX12_wants_227 (V_iadd dX12_wants_228 (V_aload_n dX12_wants_229 rfl (G_12_33 o_a0.1 o_a0.qR33 lf_12_66 dX12_wants_230 (V_iload dX12_wants_233 rfl (V_iald (t := 100) o_a0.qK33 (by decide) rfl ((h.2.2 c1).2.2.2 c2).1 ((h.2.2 c1).2.2.2 c2).2.1 (Nat.le_of_ble_eq_true rfl) dX12_wants_235 (V_iast (t := 100) o_a0.qK25 (by decide) (by decide) rfl ((h.2.2 c1).2.2.2 c2).2.2.1 ((h.2.2 c1).2.2.2 c2).2.2.2.1 (Nat.le_of_ble_eq_true rfl) dX12_wants_236 (V_nmZ (fun Z1 eZ1 => V_msk [true, true, true, true, true, true, false, false] rfl (((h.2.2 c1).2.2.2 c2).2.2.2.2 Z1 eZ1))))))))))))))))))))))))))))))))))))))))))
set_option maxRecDepth 20000 in
theorem b_X12_wants_237 {k n : Nat} {x : Wx} {Z : Zt} {Q : Option Value → Wx → Zt → Prop} {a0 : Nat} {v1 : Int} {v2 : Int} {v3 : Int} {v4 : Int} {v5 : Int} 
    (h : V mX12_wants k n 138 [some (r_ a0), some (i_ v1), some (i_ v2), some (i_ v3), some (i_ v4), some (i_ (v5 + 1)), none, none] [] x Z Q) :
    V mX12_wants k n 237 [some (r_ a0), some (i_ v1), some (i_ v2), some (i_ v3), some (i_ v4), some (i_ v5), none, none] [] x Z Q :=
  V_iinc (lv' := [some (r_ a0), some (i_ v1), some (i_ v2), some (i_ v3), some (i_ v4), some (i_ (v5 + 1)), none, none]) dX12_wants_237 rfl (Nat.le_of_ble_eq_true rfl) rfl (V_goto (tgt := 138) dX12_wants_240 rfl (V_msk [true, true, true, true, true, true, false, false] rfl h))
set_option maxRecDepth 20000 in
theorem b_X12_wants_247 {k n : Nat} {x : Wx} {Z : Zt} {Q : Option Value → Wx → Zt → Prop} {a0 : Nat} {v1 : Int} {v2 : Int} {v3 : Int} {v4 : Int} {v5 : Int} (o_a0 : Is12 x a0)
    (h : Rg v5 ∧ (((v5 ≤ 0) → (Rg ((Z (a0 + 18) 0) * v1) ∧ 0 < Z a0 11 ∧ Z a0 11 ≤ 13 ∧ (∀ Z1 : Zt, Z1 = up Z (a0 + 18) 0 (((Z (a0 + 18) 0) * v1) % Z a0 11) → (V mX12_wants k n 36 [some (r_ a0), some (i_ v1), some (i_ v2), some (i_ v3), some (i_ (v4 + 1)), none, none, none] [] x Z1 Q)))) ∧ ((0 < v5) → (0 ≤ v5 ∧ v5 < 96 ∧ (0 ≤ v5 - 1 ∧ v5 - 1 < 96 ∧ (Rg (((Z (a0 + 18) v5.toNat) * v1) + (Z (a0 + 18) (v5 - 1).toNat)) ∧ 0 < Z a0 11 ∧ Z a0 11 ≤ 13 ∧ (∀ Z2 : Zt, Z2 = up Z (a0 + 18) v5.toNat ((((Z (a0 + 18) v5.toNat) * v1) + (Z (a0 + 18) (v5 - 1).toNat)) % Z a0 11) → (V mX12_wants k n 247 [some (r_ a0), some (i_ v1), some (i_ v2), some (i_ v3), some (i_ v4), some (i_ (v5 + (-1))), none, none] [] x Z2 Q)))))))) :
    V mX12_wants k n 247 [some (r_ a0), some (i_ v1), some (i_ v2), some (i_ v3), some (i_ v4), some (i_ v5), none, none] [] x Z Q :=
  V_iload dX12_wants_247 rfl (V_if_le (tgt := 288) dX12_wants_249 rfl h.1 (fun c1 => V_aload_n dX12_wants_288 rfl (G_12_32 o_a0.1 o_a0.qR32 lf_12_63 dX12_wants_289 (V_iconst dX12_wants_292 (V_aload_n dX12_wants_293 rfl (V_aload_n dX12_wants_294 rfl (G_12_32 o_a0.1 o_a0.qR32 lf_12_63 dX12_wants_295 (V_iconst dX12_wants_298 (V_iald (t := 100) o_a0.qK32 (by decide) rfl (by decide) (by decide) (Nat.le_of_ble_eq_true rfl) dX12_wants_299 (V_iload_n dX12_wants_300 rfl (V_imul dX12_wants_301 (V_callV (k' := 0) (n' := 0) (t := 12) (q := (RX12, TX12, 46)) [i_ ((Z (a0 + 18) 0) * v1)] [i_ 0, r_ (a0 + 18)] okX12_mod o_a0.1 rfl rfl lm_12_182 liX12_mod lqX12_mod (Nat.le_of_ble_eq_true rfl) (Nat.le_of_ble_eq_true rfl) (Nat.le_of_ble_eq_true rfl) (cat_of rfl) (Nat.le_of_ble_eq_true rfl) (Nat.zero_le _) (Nat.zero_le _) rfl dX12_wants_302 (sp_X12_mod o_a0 (h.2.1 c1).1 (h.2.1 c1).2.1 (h.2.1 c1).2.2.1 (V_iast (t := 100) o_a0.qK32 (by decide) (by decide) rfl (by decide) (by decide) (Nat.le_of_ble_eq_true rfl) dX12_wants_305 (V_nmZ (fun Z1 eZ1 => V_iinc (lv' := [some (r_ a0), some (i_ v1), some (i_ v2), some (i_ v3), some (i_ (v4 + 1)), some (i_ v5), none, none]) dX12_wants_306 rfl (Nat.le_of_ble_eq_true rfl) rfl (V_goto (tgt := 36) dX12_wants_309 rfl (V_msk [true, true, true, true, true, false, false, false] rfl ((h.2.1 c1).2.2.2 Z1 eZ1)))))))))))))))))) (fun c1 => V_aload_n dX12_wants_252 rfl (G_12_32 o_a0.1 o_a0.qR32 lf_12_63 dX12_wants_253 (V_iload dX12_wants_256 rfl (V_aload_n dX12_wants_258 rfl (V_aload_n dX12_wants_259 rfl (G_12_32 o_a0.1 o_a0.qR32 lf_12_63 dX12_wants_260 (V_iload dX12_wants_263 rfl (V_iald (t := 100) o_a0.qK32 (by decide) rfl (h.2.2 c1).1 (h.2.2 c1).2.1 (Nat.le_of_ble_eq_true rfl) dX12_wants_265 (V_iload_n dX12_wants_266 rfl (V_imul dX12_wants_267 (V_aload_n dX12_wants_268 rfl (G_12_32 o_a0.1 o_a0.qR32 lf_12_63 dX12_wants_269 (V_iload dX12_wants_272 rfl (V_iconst dX12_wants_274 (V_isub dX12_wants_275 (V_iald (t := 100) o_a0.qK32 (by decide) rfl (h.2.2 c1).2.2.1 (h.2.2 c1).2.2.2.1 (Nat.le_of_ble_eq_true rfl) dX12_wants_276 (V_iadd dX12_wants_277 (V_callV (k' := 0) (n' := 0) (t := 12) (q := (RX12, TX12, 46)) [i_ (((Z (a0 + 18) v5.toNat) * v1) + (Z (a0 + 18) (v5 - 1).toNat))] [i_ v5, r_ (a0 + 18)] okX12_mod o_a0.1 rfl rfl lm_12_182 liX12_mod lqX12_mod (Nat.le_of_ble_eq_true rfl) (Nat.le_of_ble_eq_true rfl) (Nat.le_of_ble_eq_true rfl) (cat_of rfl) (Nat.le_of_ble_eq_true rfl) (Nat.zero_le _) (Nat.zero_le _) rfl dX12_wants_278 (sp_X12_mod o_a0 (h.2.2 c1).2.2.2.2.1 (h.2.2 c1).2.2.2.2.2.1 (h.2.2 c1).2.2.2.2.2.2.1 (V_iast (t := 100) o_a0.qK32 (by decide) (by decide) rfl (h.2.2 c1).1 (h.2.2 c1).2.1 (Nat.le_of_ble_eq_true rfl) dX12_wants_281 (V_nmZ (fun Z2 eZ2 => V_iinc (lv' := [some (r_ a0), some (i_ v1), some (i_ v2), some (i_ v3), some (i_ v4), some (i_ (v5 + (-1))), none, none]) dX12_wants_282 rfl (Nat.le_of_ble_eq_true rfl) rfl (V_goto (tgt := 247) dX12_wants_285 rfl (V_msk [true, true, true, true, true, true, false, false] rfl ((h.2.2 c1).2.2.2.2.2.2.2 Z2 eZ2))))))))))))))))))))))))))
