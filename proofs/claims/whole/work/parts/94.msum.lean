/-! ===== the reference: sums ===== -/
theorem dX12_clears_0 : decode cX12_clears 0 = .ok (.iconst 0, 1) := by decide +kernel
theorem dX12_clears_1 : decode cX12_clears 1 = .ok (.istore_n 1, 1) := by decide +kernel
theorem dX12_clears_2 : decode cX12_clears 2 = .ok (.iload_n 1, 1) := by decide +kernel
theorem dX12_clears_3 : decode cX12_clears 3 = .ok (.sipush 169, 3) := by decide +kernel
theorem dX12_clears_6 : decode cX12_clears 6 = .ok (.if_icmp .ge 16, 3) := by decide +kernel
theorem dX12_clears_9 : decode cX12_clears 9 = .ok (.aload_n 0, 1) := by decide +kernel
theorem dX12_clears_10 : decode cX12_clears 10 = .ok (.getfield 39, 3) := by decide +kernel
theorem dX12_clears_13 : decode cX12_clears 13 = .ok (.iload_n 1, 1) := by decide +kernel
theorem dX12_clears_14 : decode cX12_clears 14 = .ok (.iconst 0, 1) := by decide +kernel
theorem dX12_clears_15 : decode cX12_clears 15 = .ok (.iastore, 1) := by decide +kernel
theorem dX12_clears_16 : decode cX12_clears 16 = .ok (.iinc 1 1, 3) := by decide +kernel
theorem dX12_clears_19 : decode cX12_clears 19 = .ok (.goto (-17), 3) := by decide +kernel
theorem dX12_clears_22 : decode cX12_clears 22 = .ok (.iconst 0, 1) := by decide +kernel
theorem dX12_clears_23 : decode cX12_clears 23 = .ok (.istore_n 1, 1) := by decide +kernel
theorem dX12_clears_24 : decode cX12_clears 24 = .ok (.iload_n 1, 1) := by decide +kernel
theorem dX12_clears_25 : decode cX12_clears 25 = .ok (.bipush 13, 2) := by decide +kernel
theorem dX12_clears_27 : decode cX12_clears 27 = .ok (.if_icmp .ge 16, 3) := by decide +kernel
theorem dX12_clears_30 : decode cX12_clears 30 = .ok (.aload_n 0, 1) := by decide +kernel
theorem dX12_clears_31 : decode cX12_clears 31 = .ok (.getfield 42, 3) := by decide +kernel
theorem dX12_clears_34 : decode cX12_clears 34 = .ok (.iload_n 1, 1) := by decide +kernel
theorem dX12_clears_35 : decode cX12_clears 35 = .ok (.iconst 0, 1) := by decide +kernel
theorem dX12_clears_36 : decode cX12_clears 36 = .ok (.bastore, 1) := by decide +kernel
theorem dX12_clears_37 : decode cX12_clears 37 = .ok (.iinc 1 1, 3) := by decide +kernel
theorem dX12_clears_40 : decode cX12_clears 40 = .ok (.goto (-16), 3) := by decide +kernel
theorem dX12_clears_43 : decode cX12_clears 43 = .ok (.aload_n 0, 1) := by decide +kernel
theorem dX12_clears_44 : decode cX12_clears 44 = .ok (.iconst 0, 1) := by decide +kernel
theorem dX12_clears_45 : decode cX12_clears 45 = .ok (.putfield 294, 3) := by decide +kernel
theorem dX12_clears_48 : decode cX12_clears 48 = .ok (.return_, 1) := by decide +kernel
set_option maxRecDepth 20000 in
theorem b_X12_clears_0 {k n : Nat} {x : Wx} {Z : Zt} {Q : Option Value → Wx → Zt → Prop} {a0 : Nat} 
    (h : V mX12_clears k n 2 [some (r_ a0), some (i_ 0)] [] x Z Q) :
    V mX12_clears k n 0 [some (r_ a0), none] [] x Z Q :=
  V_iconst dX12_clears_0 (V_istore_n (lv' := [some (r_ a0), some (i_ 0)]) dX12_clears_1 (Nat.le_of_ble_eq_true rfl) rfl (V_msk [true, true] rfl h))
set_option maxRecDepth 20000 in
theorem b_X12_clears_2 {k n : Nat} {x : Wx} {Z : Zt} {Q : Option Value → Wx → Zt → Prop} {a0 : Nat} {v1 : Int} (o_a0 : Is12 x a0)
    (h : Rg v1 ∧ (((169 ≤ v1) → (V mX12_clears k n 24 [some (r_ a0), some (i_ 0)] [] x Z Q)) ∧ ((v1 < 169) → (0 ≤ v1 ∧ (∀ Z1 : Zt, Z1 = up Z (a0 + 10) v1.toNat 0 → (V mX12_clears k n 2 [some (r_ a0), some (i_ (v1 + 1))] [] x Z1 Q)))))) :
    V mX12_clears k n 2 [some (r_ a0), some (i_ v1)] [] x Z Q :=
  V_iload_n dX12_clears_2 rfl (V_sipush dX12_clears_3 rfl (V_icmp_ge (tgt := 22) dX12_clears_6 rfl h.1 (rg_c rfl) (fun c1 => V_iconst dX12_clears_22 (V_istore_n (lv' := [some (r_ a0), some (i_ 0)]) dX12_clears_23 (Nat.le_of_ble_eq_true rfl) rfl (V_msk [true, true] rfl (h.2.1 c1)))) (fun c1 => V_aload_n dX12_clears_9 rfl (G_12_19 o_a0.1 o_a0.qR19 lf_12_39 dX12_clears_10 (V_iload_n dX12_clears_13 rfl (V_iconst dX12_clears_14 (V_iast (t := 100) o_a0.qK19 (by decide) (by decide) rfl (h.2.2 c1).1 c1 (Nat.le_of_ble_eq_true rfl) dX12_clears_15 (V_nmZ (fun Z1 eZ1 => V_iinc (lv' := [some (r_ a0), some (i_ (v1 + 1))]) dX12_clears_16 rfl (Nat.le_of_ble_eq_true rfl) rfl (V_goto (tgt := 2) dX12_clears_19 rfl (V_msk [true, true] rfl ((h.2.2 c1).2 Z1 eZ1))))))))))))
set_option maxRecDepth 20000 in
theorem b_X12_clears_24 {k n : Nat} {x : Wx} {Z : Zt} {Q : Option Value → Wx → Zt → Prop} {a0 : Nat} {v1 : Int} (o_a0 : Is12 x a0)
    (h : Rg v1 ∧ (((13 ≤ v1) → (∀ Z1 : Zt, Z1 = up Z a0 21 0 → (Q none x Z1))) ∧ ((v1 < 13) → (0 ≤ v1 ∧ (∀ Z2 : Zt, Z2 = up Z (a0 + 11) v1.toNat 0 → (V mX12_clears k n 24 [some (r_ a0), some (i_ (v1 + 1))] [] x Z2 Q)))))) :
    V mX12_clears k n 24 [some (r_ a0), some (i_ v1)] [] x Z Q :=
  V_iload_n dX12_clears_24 rfl (V_bipush dX12_clears_25 rfl (V_icmp_ge (tgt := 43) dX12_clears_27 rfl h.1 (rg_c rfl) (fun c1 => V_aload_n dX12_clears_43 rfl (V_iconst dX12_clears_44 (P_12_21 o_a0.1 lf_12_294 dX12_clears_45 (V_nmZ (fun Z1 eZ1 => V_ret dX12_clears_48 rfl ((h.2.1 c1) Z1 eZ1)))))) (fun c1 => V_aload_n dX12_clears_30 rfl (G_12_20 o_a0.1 o_a0.qR20 lf_12_42 dX12_clears_31 (V_iload_n dX12_clears_34 rfl (V_iconst dX12_clears_35 (V_zast (t := 102) o_a0.qK20 (by decide) (by decide) rfl (h.2.2 c1).1 c1 (Nat.le_of_ble_eq_true rfl) rfl dX12_clears_36 (V_nmZ (fun Z2 eZ2 => V_iinc (lv' := [some (r_ a0), some (i_ (v1 + 1))]) dX12_clears_37 rfl (Nat.le_of_ble_eq_true rfl) rfl (V_goto (tgt := 24) dX12_clears_40 rfl (V_msk [true, true] rfl ((h.2.2 c1).2 Z2 eZ2))))))))))))
/-- how often each place 13 X + Y is named, times t; which X are named -/
def mOf (r : Nat → Int) (t : Int) : Nat → Nat → Int
  | 0 => fun _ => 0
  | i + 1 => upf (mOf r t i) (13 * eX r i + eY r i).toNat (mOf r t i (13 * eX r i + eY r i).toNat + t * eO r i)
def mTd (r : Nat → Int) : Nat → Nat → Int
  | 0 => fun _ => 0
  | i + 1 => upf (mTd r i) (eX r i).toNat 1
/-- a sum is taken: its far, how often, which X -/
def MSq (Z : Zt) (b : Nat) (fr : Int) (O D : Nat → Int) : Prop := Z b 21 = fr ∧ (∀ j : Nat, j < 169 → Z (b + 10) j = O j) ∧ ∀ q : Nat, q < 13 → Z (b + 11) q = D q
def SFr (b : Nat) (Z Z' : Zt) : Prop := (∀ c, c ≠ b → c ≠ b + 10 → c ≠ b + 11 → Z' c = Z c) ∧ ∀ i : Nat, i ≠ 21 → Z' b i = Z b i
theorem SFr.rf {b : Nat} {Z : Zt} : SFr b Z Z := ⟨fun _ _ _ _ => rfl, fun _ _ => rfl⟩
theorem SFr.tr {b : Nat} {Z Z1 Z2 : Zt} (h : SFr b Z Z1) (g : SFr b Z1 Z2) : SFr b Z Z2 := ⟨fun c h1 h2 h3 => (g.1 c h1 h2 h3).trans (h.1 c h1 h2 h3), fun i hi => (g.2 i hi).trans (h.2 i hi)⟩
theorem SFr.mq {b : Nat} {Z Z1 : Zt} (h : SFr b Z Z1) : Mq b Z Z1 := ⟨h.1 _ (by omega) (by omega) (by omega), h.1 _ (by omega) (by omega) (by omega), fun c hc => h.1 c (by omega) (by omega) (by omega)⟩
theorem MF.sf {b : Nat} {Z Z1 : Zt} {p : Int} {F : Nat → Int} (h : MF Z b p F) (g : SFr b Z Z1) : MF Z1 b p F := by
  obtain ⟨h1, h2, P, h3, h4⟩ := h
  exact ⟨h1.kept ⟨g.2 _ (by decide), g.2 _ (by decide), g.2 _ (by decide)⟩ (g.1 _ (by omega) (by omega) (by omega)) (g.1 _ (by omega) (by omega) (by omega)), h2, P, h3.kept (g.1 _ (by omega) (by omega) (by omega)), h4⟩
theorem sp_X12_clears {k n : Nat} {x : Wx} {Z : Zt} {Q : Option Value → Wx → Zt → Prop} {b : Nat} (o : Is12 x b) (h : ∀ Z' : Zt, (MSq Z' b 0 (fun _ => 0) (fun _ => 0) ∧ SFr b Z Z') → Q none x Z') : V mX12_clears k n 0 [some (r_ b), none] [] x Z Q := by
  have lp2 : ∀ (m i : Nat) (Z1 : Zt), i + m = 13 → SFr b Z Z1 → (∀ j : Nat, j < 169 → Z1 (b + 10) j = 0) → (∀ q : Nat, q < i → Z1 (b + 11) q = 0) → V mX12_clears k n 24 [some (r_ b), some (i_ (i : Int))] [] x Z1 Q := by
    intro m
    induction m with
    | zero =>
      intro i Z1 hi hf h1 h2
      refine b_X12_clears_24 o ⟨⟨by omega, by omega⟩, fun _ Z2 e2 => h Z2 ⟨⟨by rw [e2, up_self], fun j hj => by rw [e2, up_row _ _ _ _ _ (by omega)]; exact h1 j hj, fun q hq => by rw [e2, up_row _ _ _ _ _ (by omega)]; exact h2 q (by omega)⟩, hf.tr ⟨fun c c1 _ _ => by rw [e2, up_row _ _ _ _ _ c1], fun j hj => by rw [e2, up_at, if_neg hj]⟩⟩, fun c => by omega⟩
    | succ m ih =>
      intro i Z1 hi hf h1 h2
      refine b_X12_clears_24 o ⟨⟨by omega, by omega⟩, fun c => by omega, fun _ => ⟨by omega, fun Z2 e2 => ?_⟩⟩
      rw [Int.toNat_natCast] at e2
      refine ih (i + 1) Z2 (by omega) (hf.tr ⟨fun c _ _ c3 => by rw [e2, up_row _ _ _ _ _ c3], fun j _ => by rw [e2, up_row _ _ _ _ _ (by omega)]⟩) (fun j hj => by rw [e2, up_row _ _ _ _ _ (by omega)]; exact h1 j hj) (fun q hq => ?_)
      rw [e2, up_at]
      by_cases c : q = i
      · rw [if_pos c]
      · rw [if_neg c]; exact h2 q (by omega)
  have lp1 : ∀ (m i : Nat) (Z1 : Zt), i + m = 169 → SFr b Z Z1 → (∀ j : Nat, j < i → Z1 (b + 10) j = 0) → V mX12_clears k n 2 [some (r_ b), some (i_ (i : Int))] [] x Z1 Q := by
    intro m
    induction m with
    | zero =>
      intro i Z1 hi hf h1
      refine b_X12_clears_2 o ⟨⟨by omega, by omega⟩, fun _ => lp2 13 0 Z1 rfl hf (fun j hj => h1 j (by omega)) (fun q hq => absurd hq (Nat.not_lt_zero q)), fun c => by omega⟩
    | succ m ih =>
      intro i Z1 hi hf h1
      refine b_X12_clears_2 o ⟨⟨by omega, by omega⟩, fun c => by omega, fun _ => ⟨by omega, fun Z2 e2 => ?_⟩⟩
      rw [Int.toNat_natCast] at e2
      refine ih (i + 1) Z2 (by omega) (hf.tr ⟨fun c _ c2 _ => by rw [e2, up_row _ _ _ _ _ c2], fun j _ => by rw [e2, up_row _ _ _ _ _ (by omega)]⟩) (fun j hj => ?_)
      rw [e2, up_at]
      by_cases c : j = i
      · rw [if_pos c]
      · rw [if_neg c]; exact h1 j (by omega)
  exact b_X12_clears_0 (lp1 169 0 Z rfl SFr.rf (fun j hj => absurd hj (Nat.not_lt_zero j)))
theorem rowY_in {p v x y : Int} : ∀ (m : Nat) (y0 : Int), y0 ≤ y → y < y0 + m → y * y % p = v → (x, y) ∈ rowY p v x m y0
  | 0, y0, h1, h2, _ => by omega
  | m + 1, y0, h1, h2, h3 => by
    unfold rowY
    by_cases c : y0 = y
    · rw [if_pos (by rw [c]; exact h3), c]; exact List.mem_cons_self
    · have := rowY_in (p := p) (v := v) (x := x) (y := y) m (y0 + 1) (by omega) (by omega) h3
      split
      · exact List.mem_cons_of_mem _ this
      · exact this
theorem colX_in {p : Int} {F : Nat → Int} {x y : Int} (hy : 0 ≤ y ∧ y < p) (hv : y * y % p = ev p F x) : ∀ (m : Nat) (x0 : Int), x0 ≤ x → x < x0 + m → (x, y) ∈ colX p F m x0
  | 0, x0, h1, h2 => by omega
  | m + 1, x0, h1, h2 => by
    unfold colX
    by_cases c : x0 = x
    · rw [c]
      exact List.mem_append_left _ (rowY_in p.toNat 0 hy.1 (by omega) hv)
    · exact List.mem_append_right _ (colX_in hy hv m (x0 + 1) (by omega) (by omega))
theorem pAt_in {L : List (Int × Int)} {x y : Int} : ∀ (m k : Nat), (∃ j : Nat, k ≤ j ∧ j < k + m ∧ (L.getD j (0, 0)).1 = x ∧ (L.getD j (0, 0)).2 = y) → pAt L x y m k ≠ -1
  | 0, k, h => by obtain ⟨j, h1, h2, _⟩ := h; omega
  | m + 1, k, h => by
    unfold pAt
    by_cases c : (L.getD k (0, 0)).1 = x ∧ (L.getD k (0, 0)).2 = y
    · rw [if_pos c]; omega
    · rw [if_neg c]
      refine pAt_in m (k + 1) ?_
      obtain ⟨j, h1, h2, h3⟩ := h
      refine ⟨j, ?_, by omega, h3⟩
      by_cases e : j = k
      · rw [e] at h3; exact absurd h3 c
      · omega
/-- a POINT is one whose square is F -/
theorem ptN_iff {p : Int} (hp : IsP p) {F : Nat → Int} {x y : Int} (hx : 0 ≤ x) (hy : 0 ≤ y) : ptN (pall p F) x y ≠ -1 ↔ (x < p ∧ y < p ∧ y * y % p = ev p F x) := by
  have hpr := hp.rg
  constructor
  · intro h
    have hr := pAt_rg (pall p F) x y (pall p F).length 0
    have h0 : 0 ≤ pAt (pall p F) x y (pall p F).length 0 := by
      have h' : pAt (pall p F) x y (pall p F).length 0 ≠ -1 := h
      omega
    have he := pAt_eq _ _ h0
    generalize pAt (pall p F) x y (pall p F).length 0 = q at hr h0 he
    by_cases c : q.toNat + 1 < (pall p F).length
    · have g := pall_get (p := p) (F := F) (by omega) c
      rw [he.1, he.2] at g
      exact ⟨g.1.2, g.2.1.2, g.2.2⟩
    · exfalso
      have hl : (pall p F).length = (pts p F).length + 1 := by unfold pall; rw [List.length_append]; rfl
      have e2 : q.toNat = (pts p F).length := by omega
      rw [e2] at he
      have : (pall p F).getD (pts p F).length (0, 0) = (-2, -2) := by
        unfold pall; rw [getD_app, if_neg (by omega), if_pos rfl]
      rw [this] at he
      have : (-2 : Int) = x := he.1
      omega
  · rintro ⟨h1, h2, h3⟩
    have hm : (x, y) ∈ pall p F := List.mem_append_left _ (colX_in ⟨hy, h2⟩ h3 p.toNat 0 hx (by omega))
    obtain ⟨j, hj, e⟩ := List.getElem_of_mem hm
    refine pAt_in (pall p F).length 0 ⟨j, Nat.zero_le j, by omega, ?_⟩
    rw [List.getD_eq_getElem?_getD, List.getElem?_eq_getElem hj, e]
    exact ⟨rfl, rfl⟩
theorem crs_iff {L : List (Int × Int)} {r : Nat → Int} : ∀ (m i : Nat), crs L r m i = true ↔ ∀ j : Nat, i ≤ j → j < i + m → ptN L (eX r j) (eY r j) ≠ -1
  | 0, i => ⟨fun _ j h1 h2 => by omega, fun _ => rfl⟩
  | m + 1, i => by
    have e3 : r (3 + 3 * i) = eY r i := by unfold eY; rw [show 3 + 3 * i = 2 + 3 * i + 1 from by omega]
    have e2 : r (2 + 3 * i) = eX r i := rfl
    unfold crs
    rw [e2, e3]
    by_cases c : ptN L (eX r i) (eY r i) = -1
    · rw [if_pos c]
      exact ⟨fun e => (by cases e), fun e => absurd c (e i (Nat.le_refl i) (by omega))⟩
    · rw [if_neg c, crs_iff m (i + 1)]
      constructor
      · intro e j h1 h2
        by_cases cj : j = i
        · rw [cj]; exact c
        · exact e j (by omega) (by omega)
      · intro e j h1 h2
        exact e j (by omega) (by omega)
theorem dX12_takesSum_0 : decode cX12_takesSum 0 = .ok (.aload_n 0, 1) := by decide +kernel
theorem dX12_takesSum_1 : decode cX12_takesSum 1 = .ok (.iconst 1, 1) := by decide +kernel
theorem dX12_takesSum_2 : decode cX12_takesSum 2 = .ok (.iload_n 1, 1) := by decide +kernel
theorem dX12_takesSum_3 : decode cX12_takesSum 3 = .ok (.invokevirtual 156, 3) := by decide +kernel
theorem dX12_takesSum_6 : decode cX12_takesSum 6 = .ok (.ifCond .ne 5, 3) := by decide +kernel
theorem dX12_takesSum_9 : decode cX12_takesSum 9 = .ok (.iconst 0, 1) := by decide +kernel
theorem dX12_takesSum_10 : decode cX12_takesSum 10 = .ok (.ireturn, 1) := by decide +kernel
theorem dX12_takesSum_11 : decode cX12_takesSum 11 = .ok (.iconst 1, 1) := by decide +kernel
theorem dX12_takesSum_12 : decode cX12_takesSum 12 = .ok (.iload_n 1, 1) := by decide +kernel
theorem dX12_takesSum_13 : decode cX12_takesSum 13 = .ok (.invokestatic 176, 3) := by decide +kernel
theorem dX12_takesSum_16 : decode cX12_takesSum 16 = .ok (.istore_n 3, 1) := by decide +kernel
theorem dX12_takesSum_17 : decode cX12_takesSum 17 = .ok (.aload_n 0, 1) := by decide +kernel
theorem dX12_takesSum_18 : decode cX12_takesSum 18 = .ok (.invokevirtual 297, 3) := by decide +kernel
theorem dX12_takesSum_21 : decode cX12_takesSum 21 = .ok (.aload_n 0, 1) := by decide +kernel
theorem dX12_takesSum_22 : decode cX12_takesSum 22 = .ok (.iload_n 2, 1) := by decide +kernel
theorem dX12_takesSum_23 : decode cX12_takesSum 23 = .ok (.aload_n 0, 1) := by decide +kernel
theorem dX12_takesSum_24 : decode cX12_takesSum 24 = .ok (.getfield 7, 3) := by decide +kernel
theorem dX12_takesSum_27 : decode cX12_takesSum 27 = .ok (.iload_n 3, 1) := by decide +kernel
theorem dX12_takesSum_28 : decode cX12_takesSum 28 = .ok (.iconst 1, 1) := by decide +kernel
theorem dX12_takesSum_29 : decode cX12_takesSum 29 = .ok (.iadd, 1) := by decide +kernel
theorem dX12_takesSum_30 : decode cX12_takesSum 30 = .ok (.iaload, 1) := by decide +kernel
theorem dX12_takesSum_31 : decode cX12_takesSum 31 = .ok (.imul, 1) := by decide +kernel
theorem dX12_takesSum_32 : decode cX12_takesSum 32 = .ok (.putfield 294, 3) := by decide +kernel
theorem dX12_takesSum_35 : decode cX12_takesSum 35 = .ok (.iconst 1, 1) := by decide +kernel
theorem dX12_takesSum_36 : decode cX12_takesSum 36 = .ok (.istore 4, 2) := by decide +kernel
theorem dX12_takesSum_38 : decode cX12_takesSum 38 = .ok (.iconst 0, 1) := by decide +kernel
theorem dX12_takesSum_39 : decode cX12_takesSum 39 = .ok (.istore 5, 2) := by decide +kernel
theorem dX12_takesSum_41 : decode cX12_takesSum 41 = .ok (.iload 5, 2) := by decide +kernel
theorem dX12_takesSum_43 : decode cX12_takesSum 43 = .ok (.aload_n 0, 1) := by decide +kernel
theorem dX12_takesSum_44 : decode cX12_takesSum 44 = .ok (.getfield 7, 3) := by decide +kernel
theorem dX12_takesSum_47 : decode cX12_takesSum 47 = .ok (.iload_n 3, 1) := by decide +kernel
theorem dX12_takesSum_48 : decode cX12_takesSum 48 = .ok (.iaload, 1) := by decide +kernel
theorem dX12_takesSum_49 : decode cX12_takesSum 49 = .ok (.if_icmp .ge 135, 3) := by decide +kernel
theorem dX12_takesSum_52 : decode cX12_takesSum 52 = .ok (.iload 4, 2) := by decide +kernel
theorem dX12_takesSum_54 : decode cX12_takesSum 54 = .ok (.ifCond .eq 130, 3) := by decide +kernel
theorem dX12_takesSum_57 : decode cX12_takesSum 57 = .ok (.aload_n 0, 1) := by decide +kernel
theorem dX12_takesSum_58 : decode cX12_takesSum 58 = .ok (.getfield 7, 3) := by decide +kernel
theorem dX12_takesSum_61 : decode cX12_takesSum 61 = .ok (.iload_n 3, 1) := by decide +kernel
theorem dX12_takesSum_62 : decode cX12_takesSum 62 = .ok (.iconst 2, 1) := by decide +kernel
theorem dX12_takesSum_63 : decode cX12_takesSum 63 = .ok (.iadd, 1) := by decide +kernel
theorem dX12_takesSum_64 : decode cX12_takesSum 64 = .ok (.iconst 3, 1) := by decide +kernel
theorem dX12_takesSum_65 : decode cX12_takesSum 65 = .ok (.iload 5, 2) := by decide +kernel
theorem dX12_takesSum_67 : decode cX12_takesSum 67 = .ok (.imul, 1) := by decide +kernel
theorem dX12_takesSum_68 : decode cX12_takesSum 68 = .ok (.iadd, 1) := by decide +kernel
theorem dX12_takesSum_69 : decode cX12_takesSum 69 = .ok (.iaload, 1) := by decide +kernel
theorem dX12_takesSum_70 : decode cX12_takesSum 70 = .ok (.istore 6, 2) := by decide +kernel
theorem dX12_takesSum_72 : decode cX12_takesSum 72 = .ok (.aload_n 0, 1) := by decide +kernel
theorem dX12_takesSum_73 : decode cX12_takesSum 73 = .ok (.getfield 7, 3) := by decide +kernel
theorem dX12_takesSum_76 : decode cX12_takesSum 76 = .ok (.iload_n 3, 1) := by decide +kernel
theorem dX12_takesSum_77 : decode cX12_takesSum 77 = .ok (.iconst 3, 1) := by decide +kernel
theorem dX12_takesSum_78 : decode cX12_takesSum 78 = .ok (.iadd, 1) := by decide +kernel
theorem dX12_takesSum_79 : decode cX12_takesSum 79 = .ok (.iconst 3, 1) := by decide +kernel
theorem dX12_takesSum_80 : decode cX12_takesSum 80 = .ok (.iload 5, 2) := by decide +kernel
theorem dX12_takesSum_82 : decode cX12_takesSum 82 = .ok (.imul, 1) := by decide +kernel
theorem dX12_takesSum_83 : decode cX12_takesSum 83 = .ok (.iadd, 1) := by decide +kernel
theorem dX12_takesSum_84 : decode cX12_takesSum 84 = .ok (.iaload, 1) := by decide +kernel
theorem dX12_takesSum_85 : decode cX12_takesSum 85 = .ok (.istore 7, 2) := by decide +kernel
theorem dX12_takesSum_87 : decode cX12_takesSum 87 = .ok (.iload 6, 2) := by decide +kernel
theorem dX12_takesSum_89 : decode cX12_takesSum 89 = .ok (.aload_n 0, 1) := by decide +kernel
theorem dX12_takesSum_90 : decode cX12_takesSum 90 = .ok (.getfield 179, 3) := by decide +kernel
theorem dX12_takesSum_93 : decode cX12_takesSum 93 = .ok (.if_icmp .ge 35, 3) := by decide +kernel
theorem dX12_takesSum_96 : decode cX12_takesSum 96 = .ok (.iload 7, 2) := by decide +kernel
theorem dX12_takesSum_98 : decode cX12_takesSum 98 = .ok (.aload_n 0, 1) := by decide +kernel
theorem dX12_takesSum_99 : decode cX12_takesSum 99 = .ok (.getfield 179, 3) := by decide +kernel
theorem dX12_takesSum_102 : decode cX12_takesSum 102 = .ok (.if_icmp .ge 26, 3) := by decide +kernel
theorem dX12_takesSum_105 : decode cX12_takesSum 105 = .ok (.aload_n 0, 1) := by decide +kernel
theorem dX12_takesSum_106 : decode cX12_takesSum 106 = .ok (.iload 7, 2) := by decide +kernel
theorem dX12_takesSum_108 : decode cX12_takesSum 108 = .ok (.iload 7, 2) := by decide +kernel
theorem dX12_takesSum_110 : decode cX12_takesSum 110 = .ok (.imul, 1) := by decide +kernel
theorem dX12_takesSum_111 : decode cX12_takesSum 111 = .ok (.invokevirtual 182, 3) := by decide +kernel
theorem dX12_takesSum_114 : decode cX12_takesSum 114 = .ok (.aload_n 0, 1) := by decide +kernel
theorem dX12_takesSum_115 : decode cX12_takesSum 115 = .ok (.iconst 0, 1) := by decide +kernel
theorem dX12_takesSum_116 : decode cX12_takesSum 116 = .ok (.iload 6, 2) := by decide +kernel
theorem dX12_takesSum_118 : decode cX12_takesSum 118 = .ok (.invokevirtual 230, 3) := by decide +kernel
theorem dX12_takesSum_121 : decode cX12_takesSum 121 = .ok (.if_icmp .ne 7, 3) := by decide +kernel
theorem dX12_takesSum_124 : decode cX12_takesSum 124 = .ok (.iconst 1, 1) := by decide +kernel
theorem dX12_takesSum_125 : decode cX12_takesSum 125 = .ok (.goto 4, 3) := by decide +kernel
theorem dX12_takesSum_128 : decode cX12_takesSum 128 = .ok (.iconst 0, 1) := by decide +kernel
theorem dX12_takesSum_129 : decode cX12_takesSum 129 = .ok (.istore 4, 2) := by decide +kernel
theorem dX12_takesSum_131 : decode cX12_takesSum 131 = .ok (.iload 4, 2) := by decide +kernel
theorem dX12_takesSum_133 : decode cX12_takesSum 133 = .ok (.ifCond .ne 6, 3) := by decide +kernel
theorem dX12_takesSum_136 : decode cX12_takesSum 136 = .ok (.goto 42, 3) := by decide +kernel
theorem dX12_takesSum_139 : decode cX12_takesSum 139 = .ok (.aload_n 0, 1) := by decide +kernel
theorem dX12_takesSum_140 : decode cX12_takesSum 140 = .ok (.getfield 42, 3) := by decide +kernel
theorem dX12_takesSum_143 : decode cX12_takesSum 143 = .ok (.iload 6, 2) := by decide +kernel
theorem dX12_takesSum_145 : decode cX12_takesSum 145 = .ok (.iconst 1, 1) := by decide +kernel
theorem dX12_takesSum_146 : decode cX12_takesSum 146 = .ok (.bastore, 1) := by decide +kernel
theorem dX12_takesSum_147 : decode cX12_takesSum 147 = .ok (.aload_n 0, 1) := by decide +kernel
theorem dX12_takesSum_148 : decode cX12_takesSum 148 = .ok (.getfield 39, 3) := by decide +kernel
theorem dX12_takesSum_151 : decode cX12_takesSum 151 = .ok (.bipush 13, 2) := by decide +kernel
theorem dX12_takesSum_153 : decode cX12_takesSum 153 = .ok (.iload 6, 2) := by decide +kernel
theorem dX12_takesSum_155 : decode cX12_takesSum 155 = .ok (.imul, 1) := by decide +kernel
theorem dX12_takesSum_156 : decode cX12_takesSum 156 = .ok (.iload 7, 2) := by decide +kernel
theorem dX12_takesSum_158 : decode cX12_takesSum 158 = .ok (.iadd, 1) := by decide +kernel
theorem dX12_takesSum_159 : decode cX12_takesSum 159 = .ok (.dup2, 1) := by decide +kernel
theorem dX12_takesSum_160 : decode cX12_takesSum 160 = .ok (.iaload, 1) := by decide +kernel
theorem dX12_takesSum_161 : decode cX12_takesSum 161 = .ok (.iload_n 2, 1) := by decide +kernel
theorem dX12_takesSum_162 : decode cX12_takesSum 162 = .ok (.aload_n 0, 1) := by decide +kernel
theorem dX12_takesSum_163 : decode cX12_takesSum 163 = .ok (.getfield 7, 3) := by decide +kernel
theorem dX12_takesSum_166 : decode cX12_takesSum 166 = .ok (.iload_n 3, 1) := by decide +kernel
theorem dX12_takesSum_167 : decode cX12_takesSum 167 = .ok (.iconst 4, 1) := by decide +kernel
theorem dX12_takesSum_168 : decode cX12_takesSum 168 = .ok (.iadd, 1) := by decide +kernel
theorem dX12_takesSum_169 : decode cX12_takesSum 169 = .ok (.iconst 3, 1) := by decide +kernel
theorem dX12_takesSum_170 : decode cX12_takesSum 170 = .ok (.iload 5, 2) := by decide +kernel
theorem dX12_takesSum_172 : decode cX12_takesSum 172 = .ok (.imul, 1) := by decide +kernel
theorem dX12_takesSum_173 : decode cX12_takesSum 173 = .ok (.iadd, 1) := by decide +kernel
theorem dX12_takesSum_174 : decode cX12_takesSum 174 = .ok (.iaload, 1) := by decide +kernel
theorem dX12_takesSum_175 : decode cX12_takesSum 175 = .ok (.imul, 1) := by decide +kernel
theorem dX12_takesSum_176 : decode cX12_takesSum 176 = .ok (.iadd, 1) := by decide +kernel
theorem dX12_takesSum_177 : decode cX12_takesSum 177 = .ok (.iastore, 1) := by decide +kernel
theorem dX12_takesSum_178 : decode cX12_takesSum 178 = .ok (.iinc 5 1, 3) := by decide +kernel
theorem dX12_takesSum_181 : decode cX12_takesSum 181 = .ok (.goto (-140), 3) := by decide +kernel
theorem dX12_takesSum_184 : decode cX12_takesSum 184 = .ok (.iload 4, 2) := by decide +kernel
theorem dX12_takesSum_186 : decode cX12_takesSum 186 = .ok (.ireturn, 1) := by decide +kernel
set_option maxRecDepth 20000 in
theorem b_X12_takesSum_0 {k n : Nat} {x : Wx} {Z : Zt} {Q : Option Value → Wx → Zt → Prop} {a0 : Nat} {v1 : Int} {v2 : Int} (o_a0 : Is12 x a0)
    (h : (0 ≤ (1 : Int) ∧ (1 : Int) < 3) ∧ Rg v1 ∧ Rg (Z (a0 + 1) (1 : Int).toNat - 1) ∧ (∀ (r1 : Int), (((r1 = 1 ∧ 0 ≤ v1 ∧ v1 < Z (a0 + 1) (1 : Int).toNat) ∨ (r1 = 0 ∧ (v1 < 0 ∨ Z (a0 + 1) (1 : Int).toNat ≤ v1)))) → (Rg r1 ∧ (((r1 ≠ 0) → (Rg (1 : Int) ∧ (∀ (Z'1 : Zt), (MSq Z'1 a0 0 (fun _ => 0) (fun _ => 0) ∧ SFr a0 Z Z'1) → (0 ≤ (plcO (1 : Int) v1) + 1 ∧ (plcO (1 : Int) v1) + 1 < 2912 ∧ (∀ Z1 : Zt, Z1 = up Z'1 a0 21 (v2 * (Z'1 (a0 + 1) ((plcO (1 : Int) v1) + 1).toNat)) → (V mX12_takesSum k n 41 [some (r_ a0), none, some (i_ v2), some (i_ (plcO (1 : Int) v1)), some (i_ 1), some (i_ 0), none, none] [] x Z1 Q)))))) ∧ ((r1 = 0) → (Q (some (i_ 0)) x Z)))))) :
    V mX12_takesSum k n 0 [some (r_ a0), some (i_ v1), some (i_ v2), none, none, none, none, none] [] x Z Q :=
  V_aload_n dX12_takesSum_0 rfl (V_iconst dX12_takesSum_1 (V_iload_n dX12_takesSum_2 rfl (V_callV (k' := 0) (n' := 0) (t := 12) (q := (RX12, TX12, 46)) [i_ 1, i_ v1] [] okX12_isOf o_a0.1 rfl rfl lm_12_156 liX12_isOf lqX12_isOf (Nat.le_of_ble_eq_true rfl) (Nat.le_of_ble_eq_true rfl) (Nat.le_of_ble_eq_true rfl) (cat_of rfl) (Nat.le_of_ble_eq_true rfl) (Nat.zero_le _) (Nat.zero_le _) rfl dX12_takesSum_3 (sp_X12_isOf o_a0 h.1 h.2.1 h.2.2.1 (fun r1 p1 => V_if_ne (tgt := 11) dX12_takesSum_6 rfl (h.2.2.2 r1 p1).1 (fun c1 => V_iconst dX12_takesSum_11 (V_iload_n dX12_takesSum_12 rfl (V_callS (k' := 0) (n' := 0) [i_ 1, i_ v1] [] okX12_placeOf lm_12_176 lsX12_placeOf (Nat.le_of_ble_eq_true rfl) (Nat.le_of_ble_eq_true rfl) (Nat.le_of_ble_eq_true rfl) (cat_of rfl) (Nat.le_of_ble_eq_true rfl) (Nat.zero_le _) (Nat.zero_le _) rfl dX12_takesSum_13 (sp_X12_placeOf  ((h.2.2.2 r1 p1).2.1 c1).1 (V_istore_n (lv' := [some (r_ a0), some (i_ v1), some (i_ v2), some (i_ (plcO (1 : Int) v1)), none, none, none, none]) dX12_takesSum_16 (Nat.le_of_ble_eq_true rfl) rfl (V_aload_n dX12_takesSum_17 rfl (V_callV (k' := 0) (n' := 0) (t := 12) (q := (RX12, TX12, 46)) [] [] okX12_clears o_a0.1 rfl rfl lm_12_297 liX12_clears lqX12_clears (Nat.le_of_ble_eq_true rfl) (Nat.le_of_ble_eq_true rfl) (Nat.le_of_ble_eq_true rfl) (cat_of rfl) (Nat.le_of_ble_eq_true rfl) (Nat.zero_le _) (Nat.zero_le _) rfl dX12_takesSum_18 (sp_X12_clears o_a0  (fun Z'1 p2 => V_aload_n dX12_takesSum_21 rfl (V_iload_n dX12_takesSum_22 rfl (V_aload_n dX12_takesSum_23 rfl (G_12_0 o_a0.1 o_a0.qR0 lf_12_7 dX12_takesSum_24 (V_iload_n dX12_takesSum_27 rfl (V_iconst dX12_takesSum_28 (V_iadd dX12_takesSum_29 (V_iald (t := 100) o_a0.qK0 (by decide) rfl (((h.2.2.2 r1 p1).2.1 c1).2 Z'1 p2).1 (((h.2.2.2 r1 p1).2.1 c1).2 Z'1 p2).2.1 (Nat.le_of_ble_eq_true rfl) dX12_takesSum_30 (V_imul dX12_takesSum_31 (P_12_21 o_a0.1 lf_12_294 dX12_takesSum_32 (V_nmZ (fun Z1 eZ1 => V_iconst dX12_takesSum_35 (V_istore (lv' := [some (r_ a0), some (i_ v1), some (i_ v2), some (i_ (plcO (1 : Int) v1)), some (i_ 1), none, none, none]) dX12_takesSum_36 (Nat.le_of_ble_eq_true rfl) rfl (V_iconst dX12_takesSum_38 (V_istore (lv' := [some (r_ a0), some (i_ v1), some (i_ v2), some (i_ (plcO (1 : Int) v1)), some (i_ 1), some (i_ 0), none, none]) dX12_takesSum_39 (Nat.le_of_ble_eq_true rfl) rfl (V_msk [true, false, true, true, true, true, false, false] rfl ((((h.2.2.2 r1 p1).2.1 c1).2 Z'1 p2).2.2 Z1 eZ1))))))))))))))))))))))))) (fun c1 => V_iconst dX12_takesSum_9 (V_iret (ty := .boolean) dX12_takesSum_10 rfl rfl ((h.2.2.2 r1 p1).2.2 c1))))))))
set_option maxRecDepth 20000 in
theorem b_X12_takesSum_41 {k n : Nat} {x : Wx} {Z : Zt} {Q : Option Value → Wx → Zt → Prop} {a0 : Nat} {v2 : Int} {v3 : Int} {v4 : Int} {v5 : Int} (o_a0 : Is12 x a0)
    (h : 0 ≤ v3 ∧ v3 < 2912 ∧ (Rg v5 ∧ Rg (Z (a0 + 1) v3.toNat) ∧ (((Z (a0 + 1) v3.toNat ≤ v5) → (V mX12_takesSum k n 184 [none, none, none, none, some (i_ v4), none, none, none] [] x Z Q)) ∧ ((v5 < Z (a0 + 1) v3.toNat) → (Rg v4 ∧ (((v4 = 0) → (V mX12_takesSum k n 184 [none, none, none, none, some (i_ v4), none, none, none] [] x Z Q)) ∧ ((v4 ≠ 0) → (0 ≤ (v3 + 2) + (3 * v5) ∧ (v3 + 2) + (3 * v5) < 2912 ∧ (0 ≤ (v3 + 3) + (3 * v5) ∧ (v3 + 3) + (3 * v5) < 2912 ∧ (Rg (Z (a0 + 1) ((v3 + 2) + (3 * v5)).toNat) ∧ Rg (Z a0 11) ∧ (((Z a0 11 ≤ Z (a0 + 1) ((v3 + 2) + (3 * v5)).toNat) → (V mX12_takesSum k n 128 [some (r_ a0), none, some (i_ v2), some (i_ v3), none, some (i_ v5), some (i_ (Z (a0 + 1) ((v3 + 2) + (3 * v5)).toNat)), some (i_ (Z (a0 + 1) ((v3 + 3) + (3 * v5)).toNat))] [] x Z Q)) ∧ ((Z (a0 + 1) ((v3 + 2) + (3 * v5)).toNat < Z a0 11) → (Rg (Z (a0 + 1) ((v3 + 3) + (3 * v5)).toNat) ∧ (((Z a0 11 ≤ Z (a0 + 1) ((v3 + 3) + (3 * v5)).toNat) → (V mX12_takesSum k n 128 [some (r_ a0), none, some (i_ v2), some (i_ v3), none, some (i_ v5), some (i_ (Z (a0 + 1) ((v3 + 2) + (3 * v5)).toNat)), some (i_ (Z (a0 + 1) ((v3 + 3) + (3 * v5)).toNat))] [] x Z Q)) ∧ ((Z (a0 + 1) ((v3 + 3) + (3 * v5)).toNat < Z a0 11) → (Rg ((Z (a0 + 1) ((v3 + 3) + (3 * v5)).toNat) * (Z (a0 + 1) ((v3 + 3) + (3 * v5)).toNat)) ∧ 0 < Z a0 11 ∧ Z a0 11 ≤ 13 ∧ (∃ g1 : Nat → Nat → Int, (∃ g2 : Int, ((IsP g2 ∧ Z a0 11 = g2) ∧ MS Z a0 g1 ∧ (0 ≤ (0 : Int) ∧ (0 : Int) < 27) ∧ (0 ≤ (Z (a0 + 1) ((v3 + 2) + (3 * v5)).toNat) ∧ (Z (a0 + 1) ((v3 + 2) + (3 * v5)).toNat) ≤ 13) ∧ InP g2 (g1 (0 : Int).toNat) ∧ (Rg (((Z (a0 + 1) ((v3 + 3) + (3 * v5)).toNat) * (Z (a0 + 1) ((v3 + 3) + (3 * v5)).toNat)) % Z a0 11) ∧ Rg (ev g2 (g1 (0 : Int).toNat) (Z (a0 + 1) ((v3 + 2) + (3 * v5)).toNat)) ∧ (((((Z (a0 + 1) ((v3 + 3) + (3 * v5)).toNat) * (Z (a0 + 1) ((v3 + 3) + (3 * v5)).toNat)) % Z a0 11 ≠ ev g2 (g1 (0 : Int).toNat) (Z (a0 + 1) ((v3 + 2) + (3 * v5)).toNat)) → (V mX12_takesSum k n 128 [some (r_ a0), none, some (i_ v2), some (i_ v3), none, some (i_ v5), some (i_ (Z (a0 + 1) ((v3 + 2) + (3 * v5)).toNat)), some (i_ (Z (a0 + 1) ((v3 + 3) + (3 * v5)).toNat))] [] x Z Q)) ∧ ((((Z (a0 + 1) ((v3 + 3) + (3 * v5)).toNat) * (Z (a0 + 1) ((v3 + 3) + (3 * v5)).toNat)) % Z a0 11 = ev g2 (g1 (0 : Int).toNat) (Z (a0 + 1) ((v3 + 2) + (3 * v5)).toNat)) → (V mX12_takesSum k n 129 [some (r_ a0), none, some (i_ v2), some (i_ v3), none, some (i_ v5), some (i_ (Z (a0 + 1) ((v3 + 2) + (3 * v5)).toNat)), some (i_ (Z (a0 + 1) ((v3 + 3) + (3 * v5)).toNat))] [i_ 1] x Z Q))))))))))))))))))))))) :
    V mX12_takesSum k n 41 [some (r_ a0), none, some (i_ v2), some (i_ v3), some (i_ v4), some (i_ v5), none, none] [] x Z Q :=
  V_iload dX12_takesSum_41 rfl (V_aload_n dX12_takesSum_43 rfl (G_12_0 o_a0.1 o_a0.qR0 lf_12_7 dX12_takesSum_44 (V_iload_n dX12_takesSum_47 rfl (V_iald (t := 100) o_a0.qK0 (by decide) rfl h.1 h.2.1 (Nat.le_of_ble_eq_true rfl) dX12_takesSum_48 (V_icmp_ge (tgt := 184) dX12_takesSum_49 rfl h.2.2.1 h.2.2.2.1 (fun c1 => V_msk [false, false, false, false, true, false, false, false] rfl (h.2.2.2.2.1 c1)) (fun c1 => V_iload dX12_takesSum_52 rfl (V_if_eq (tgt := 184) dX12_takesSum_54 rfl (h.2.2.2.2.2 c1).1 (fun c2 => V_msk [false, false, false, false, true, false, false, false] rfl ((h.2.2.2.2.2 c1).2.1 c2)) (fun c2 => V_aload_n dX12_takesSum_57 rfl (G_12_0 o_a0.1 o_a0.qR0 lf_12_7 dX12_takesSum_58 (V_iload_n dX12_takesSum_61 rfl (V_iconst dX12_takesSum_62 (V_iadd dX12_takesSum_63 (V_iconst dX12_takesSum_64 (V_iload dX12_takesSum_65 rfl (V_imul dX12_takesSum_67 (V_iadd dX12_takesSum_68 (V_iald (t := 100) o_a0.qK0 (by decide) rfl ((h.2.2.2.2.2 c1).2.2 c2).1 ((h.2.2.2.2.2 c1).2.2 c2).2.1 (Nat.le_of_ble_eq_true rfl) dX12_takesSum_69 (V_istore (lv' := [some (r_ a0), none, some (i_ v2), some (i_ v3), some (i_ v4), some (i_ v5), some (i_ (Z (a0 + 1) ((v3 + 2) + (3 * v5)).toNat)), none]) dX12_takesSum_70 (Nat.le_of_ble_eq_true rfl) rfl (V_aload_n dX12_takesSum_72 rfl (G_12_0 o_a0.1 o_a0.qR0 lf_12_7 dX12_takesSum_73 (V_iload_n dX12_takesSum_76 rfl (V_iconst dX12_takesSum_77 (V_iadd dX12_takesSum_78 (V_iconst dX12_takesSum_79 (V_iload dX12_takesSum_80 rfl (V_imul dX12_takesSum_82 (V_iadd dX12_takesSum_83 (V_iald (t := 100) o_a0.qK0 (by decide) rfl ((h.2.2.2.2.2 c1).2.2 c2).2.2.1 ((h.2.2.2.2.2 c1).2.2 c2).2.2.2.1 (Nat.le_of_ble_eq_true rfl) dX12_takesSum_84 (V_istore (lv' := [some (r_ a0), none, some (i_ v2), some (i_ v3), some (i_ v4), some (i_ v5), some (i_ (Z (a0 + 1) ((v3 + 2) + (3 * v5)).toNat)), some (i_ (Z (a0 + 1) ((v3 + 3) + (3 * v5)).toNat))]) dX12_takesSum_85 (Nat.le_of_ble_eq_true rfl) rfl (V_iload dX12_takesSum_87 rfl (V_aload_n dX12_takesSum_89 rfl (G_12_11 o_a0.1 lf_12_179 dX12_takesSum_90 (V_icmp_ge (tgt := 128) dX12_takesSum_93 rfl ((h.2.2.2.2.2 c1).2.2 c2).2.2.2.2.1 ((h.2.2.2.2.2 c1).2.2 c2).2.2.2.2.2.1 (fun c3 => V_msk [true, false, true, true, false, true, true, true] rfl (((h.2.2.2.2.2 c1).2.2 c2).2.2.2.2.2.2.1 c3)) (fun c3 => V_iload dX12_takesSum_96 rfl (V_aload_n dX12_takesSum_98 rfl (G_12_11 o_a0.1 lf_12_179 dX12_takesSum_99 (V_icmp_ge (tgt := 128) dX12_takesSum_102 rfl (((h.2.2.2.2.2 c1).2.2 c2).2.2.2.2.2.2.2 c3).1 ((h.2.2.2.2.2 c1).2.2 c2).2.2.2.2.2.1 (fun c4 => V_msk [true, false, true, true, false, true, true, true] rfl ((((h.2.2.2.2.2 c1).2.2 c2).2.2.2.2.2.2.2 c3).2.1 c4)) (fun c4 => V_aload_n dX12_takesSum_105 rfl (V_iload dX12_takesSum_106 rfl (V_iload dX12_takesSum_108 rfl (V_imul dX12_takesSum_110 (V_callV (k' := 0) (n' := 0) (t := 12) (q := (RX12, TX12, 46)) [i_ ((Z (a0 + 1) ((v3 + 3) + (3 * v5)).toNat) * (Z (a0 + 1) ((v3 + 3) + (3 * v5)).toNat))] [] okX12_mod o_a0.1 rfl rfl lm_12_182 liX12_mod lqX12_mod (Nat.le_of_ble_eq_true rfl) (Nat.le_of_ble_eq_true rfl) (Nat.le_of_ble_eq_true rfl) (cat_of rfl) (Nat.le_of_ble_eq_true rfl) (Nat.zero_le _) (Nat.zero_le _) rfl dX12_takesSum_111 (sp_X12_mod o_a0 ((((h.2.2.2.2.2 c1).2.2 c2).2.2.2.2.2.2.2 c3).2.2 c4).1 ((((h.2.2.2.2.2 c1).2.2 c2).2.2.2.2.2.2.2 c3).2.2 c4).2.1 ((((h.2.2.2.2.2 c1).2.2 c2).2.2.2.2.2.2.2 c3).2.2 c4).2.2.1 (V_aload_n dX12_takesSum_114 rfl (V_iconst dX12_takesSum_115 (V_iload dX12_takesSum_116 rfl (Exists.elim ((((h.2.2.2.2.2 c1).2.2 c2).2.2.2.2.2.2.2 c3).2.2 c4).2.2.2 (fun g1 w1 => Exists.elim w1 (fun g2 w2 => V_callV (k' := 0) (n' := 0) (t := 12) (q := (RX12, TX12, 46)) [i_ 0, i_ (Z (a0 + 1) ((v3 + 2) + (3 * v5)).toNat)] [i_ (((Z (a0 + 1) ((v3 + 3) + (3 * v5)).toNat) * (Z (a0 + 1) ((v3 + 3) + (3 * v5)).toNat)) % Z a0 11)] okX12_value o_a0.1 rfl rfl lm_12_230 liX12_value lqX12_value (Nat.le_of_ble_eq_true rfl) (Nat.le_of_ble_eq_true rfl) (Nat.le_of_ble_eq_true rfl) (cat_of rfl) (Nat.le_of_ble_eq_true rfl) (Nat.zero_le _) (Nat.zero_le _) rfl dX12_takesSum_118 (sp_X12_value o_a0 w2.1 w2.2.1 w2.2.2.1 w2.2.2.2.1 w2.2.2.2.2.1 (V_icmp_ne (tgt := 128) dX12_takesSum_121 rfl w2.2.2.2.2.2.1 w2.2.2.2.2.2.2.1 (fun c5 => V_msk [true, false, true, true, false, true, true, true] rfl (w2.2.2.2.2.2.2.2.1 c5)) (fun c5 => V_iconst dX12_takesSum_124 (V_goto (tgt := 129) dX12_takesSum_125 rfl (V_msk [true, false, true, true, false, true, true, true] rfl (w2.2.2.2.2.2.2.2.2 c5)))))))))))))))))))))))))))))))))))))))))))))))))))))))
set_option maxRecDepth 20000 in
theorem b_X12_takesSum_128 {k n : Nat} {x : Wx} {Z : Zt} {Q : Option Value → Wx → Zt → Prop} {a0 : Nat} {v2 : Int} {v3 : Int} {v5 : Int} {v6 : Int} {v7 : Int} 
    (h : V mX12_takesSum k n 129 [some (r_ a0), none, some (i_ v2), some (i_ v3), none, some (i_ v5), some (i_ v6), some (i_ v7)] [i_ 0] x Z Q) :
    V mX12_takesSum k n 128 [some (r_ a0), none, some (i_ v2), some (i_ v3), none, some (i_ v5), some (i_ v6), some (i_ v7)] [] x Z Q :=
  V_iconst dX12_takesSum_128 (V_msk [true, false, true, true, false, true, true, true] rfl h)
set_option maxRecDepth 20000 in
theorem b_X12_takesSum_129 {k n : Nat} {x : Wx} {Z : Zt} {Q : Option Value → Wx → Zt → Prop} {a0 : Nat} {v2 : Int} {v3 : Int} {v5 : Int} {v6 : Int} {v7 : Int} {t0 : Int} (o_a0 : Is12 x a0)
    (h : Rg t0 ∧ (((t0 ≠ 0) → (0 ≤ v6 ∧ v6 < 13 ∧ (∀ Z1 : Zt, Z1 = up Z (a0 + 11) v6.toNat 1 → (0 ≤ (13 * v6) + v7 ∧ (13 * v6) + v7 < 169 ∧ (0 ≤ (v3 + 4) + (3 * v5) ∧ (v3 + 4) + (3 * v5) < 2912 ∧ (∀ Z2 : Zt, Z2 = up Z1 (a0 + 10) ((13 * v6) + v7).toNat ((Z1 (a0 + 10) ((13 * v6) + v7).toNat) + (v2 * (Z1 (a0 + 1) ((v3 + 4) + (3 * v5)).toNat))) → (V mX12_takesSum k n 178 [some (r_ a0), none, some (i_ v2), some (i_ v3), some (i_ t0), some (i_ v5), none, none] [] x Z2 Q))))))) ∧ ((t0 = 0) → (V mX12_takesSum k n 178 [some (r_ a0), none, some (i_ v2), some (i_ v3), some (i_ t0), some (i_ v5), none, none] [] x Z Q)))) :
    V mX12_takesSum k n 129 [some (r_ a0), none, some (i_ v2), some (i_ v3), none, some (i_ v5), some (i_ v6), some (i_ v7)] [i_ t0] x Z Q :=
  V_istore (lv' := [some (r_ a0), none, some (i_ v2), some (i_ v3), some (i_ t0), some (i_ v5), some (i_ v6), some (i_ v7)]) dX12_takesSum_129 (Nat.le_of_ble_eq_true rfl) rfl (V_iload dX12_takesSum_131 rfl (V_if_ne (tgt := 139) dX12_takesSum_133 rfl h.1 (fun c1 => V_aload_n dX12_takesSum_139 rfl (G_12_20 o_a0.1 o_a0.qR20 lf_12_42 dX12_takesSum_140 (V_iload dX12_takesSum_143 rfl (V_iconst dX12_takesSum_145 (V_zast (t := 102) o_a0.qK20 (by decide) (by decide) rfl (h.2.1 c1).1 (h.2.1 c1).2.1 (Nat.le_of_ble_eq_true rfl) rfl dX12_takesSum_146 (V_nmZ (fun Z1 eZ1 => V_aload_n dX12_takesSum_147 rfl (G_12_19 o_a0.1 o_a0.qR19 lf_12_39 dX12_takesSum_148 (V_bipush dX12_takesSum_151 rfl (V_iload dX12_takesSum_153 rfl (V_imul dX12_takesSum_155 (V_iload dX12_takesSum_156 rfl (V_iadd dX12_takesSum_158 (V_dup2 dX12_takesSum_159 rfl rfl (V_iald (t := 100) o_a0.qK19 (by decide) rfl ((h.2.1 c1).2.2 Z1 eZ1).1 ((h.2.1 c1).2.2 Z1 eZ1).2.1 (Nat.le_of_ble_eq_true rfl) dX12_takesSum_160 (V_iload_n dX12_takesSum_161 rfl (V_aload_n dX12_takesSum_162 rfl (G_12_0 o_a0.1 o_a0.qR0 lf_12_7 dX12_takesSum_163 (V_iload_n dX12_takesSum_166 rfl (V_iconst dX12_takesSum_167 (V_iadd dX12_takesSum_168 (V_iconst dX12_takesSum_169 (V_iload dX12_takesSum_170 rfl (V_imul dX12_takesSum_172 (V_iadd dX12_takesSum_173 (V_iald (t := 100) o_a0.qK0 (by decide) rfl ((h.2.1 c1).2.2 Z1 eZ1).2.2.1 ((h.2.1 c1).2.2 Z1 eZ1).2.2.2.1 (Nat.le_of_ble_eq_true rfl) dX12_takesSum_174 (V_imul dX12_takesSum_175 (V_iadd dX12_takesSum_176 (V_iast (t := 100) o_a0.qK19 (by decide) (by decide) rfl ((h.2.1 c1).2.2 Z1 eZ1).1 ((h.2.1 c1).2.2 Z1 eZ1).2.1 (Nat.le_of_ble_eq_true rfl) dX12_takesSum_177 (V_nmZ (fun Z2 eZ2 => V_msk [true, false, true, true, true, true, false, false] rfl (((h.2.1 c1).2.2 Z1 eZ1).2.2.2.2 Z2 eZ2)))))))))))))))))))))))))))))))) (fun c1 => V_goto (tgt := 178) dX12_takesSum_136 rfl (V_msk [true, false, true, true, true, true, false, false] rfl (h.2.2 c1)))))
set_option maxRecDepth 20000 in
theorem b_X12_takesSum_178 {k n : Nat} {x : Wx} {Z : Zt} {Q : Option Value → Wx → Zt → Prop} {a0 : Nat} {v2 : Int} {v3 : Int} {v4 : Int} {v5 : Int} 
    (h : V mX12_takesSum k n 41 [some (r_ a0), none, some (i_ v2), some (i_ v3), some (i_ v4), some (i_ (v5 + 1)), none, none] [] x Z Q) :
    V mX12_takesSum k n 178 [some (r_ a0), none, some (i_ v2), some (i_ v3), some (i_ v4), some (i_ v5), none, none] [] x Z Q :=
  V_iinc (lv' := [some (r_ a0), none, some (i_ v2), some (i_ v3), some (i_ v4), some (i_ (v5 + 1)), none, none]) dX12_takesSum_178 rfl (Nat.le_of_ble_eq_true rfl) rfl (V_goto (tgt := 41) dX12_takesSum_181 rfl (V_msk [true, false, true, true, true, true, false, false] rfl h))
set_option maxRecDepth 20000 in
theorem b_X12_takesSum_184 {k n : Nat} {x : Wx} {Z : Zt} {Q : Option Value → Wx → Zt → Prop} {v4 : Int} 
    (h : (v4 = 0 ∨ v4 = 1) ∧ (Q (some (i_ v4)) x Z)) :
    V mX12_takesSum k n 184 [none, none, none, none, some (i_ v4), none, none, none] [] x Z Q :=
  V_iload dX12_takesSum_184 rfl (V_iret (ty := .boolean) dX12_takesSum_186 rfl (nar_z h.1) h.2)
theorem dX12_degree_0 : decode cX12_degree 0 = .ok (.aload_n 0, 1) := by decide +kernel
theorem dX12_degree_1 : decode cX12_degree 1 = .ok (.getfield 294, 3) := by decide +kernel
theorem dX12_degree_4 : decode cX12_degree 4 = .ok (.istore_n 1, 1) := by decide +kernel
theorem dX12_degree_5 : decode cX12_degree 5 = .ok (.iconst 0, 1) := by decide +kernel
theorem dX12_degree_6 : decode cX12_degree 6 = .ok (.istore_n 2, 1) := by decide +kernel
theorem dX12_degree_7 : decode cX12_degree 7 = .ok (.iload_n 2, 1) := by decide +kernel
theorem dX12_degree_8 : decode cX12_degree 8 = .ok (.sipush 169, 3) := by decide +kernel
theorem dX12_degree_11 : decode cX12_degree 11 = .ok (.if_icmp .ge 18, 3) := by decide +kernel
theorem dX12_degree_14 : decode cX12_degree 14 = .ok (.iload_n 1, 1) := by decide +kernel
theorem dX12_degree_15 : decode cX12_degree 15 = .ok (.aload_n 0, 1) := by decide +kernel
theorem dX12_degree_16 : decode cX12_degree 16 = .ok (.getfield 39, 3) := by decide +kernel
theorem dX12_degree_19 : decode cX12_degree 19 = .ok (.iload_n 2, 1) := by decide +kernel
theorem dX12_degree_20 : decode cX12_degree 20 = .ok (.iaload, 1) := by decide +kernel
theorem dX12_degree_21 : decode cX12_degree 21 = .ok (.iadd, 1) := by decide +kernel
theorem dX12_degree_22 : decode cX12_degree 22 = .ok (.istore_n 1, 1) := by decide +kernel
theorem dX12_degree_23 : decode cX12_degree 23 = .ok (.iinc 2 1, 3) := by decide +kernel
theorem dX12_degree_26 : decode cX12_degree 26 = .ok (.goto (-19), 3) := by decide +kernel
theorem dX12_degree_29 : decode cX12_degree 29 = .ok (.iload_n 1, 1) := by decide +kernel
theorem dX12_degree_30 : decode cX12_degree 30 = .ok (.ireturn, 1) := by decide +kernel
set_option maxRecDepth 20000 in
theorem b_X12_degree_0 {k n : Nat} {x : Wx} {Z : Zt} {Q : Option Value → Wx → Zt → Prop} {a0 : Nat} (o_a0 : Is12 x a0)
    (h : V mX12_degree k n 7 [some (r_ a0), some (i_ (Z a0 21)), some (i_ 0)] [] x Z Q) :
    V mX12_degree k n 0 [some (r_ a0), none, none] [] x Z Q :=
  V_aload_n dX12_degree_0 rfl (G_12_21 o_a0.1 lf_12_294 dX12_degree_1 (V_istore_n (lv' := [some (r_ a0), some (i_ (Z a0 21)), none]) dX12_degree_4 (Nat.le_of_ble_eq_true rfl) rfl (V_iconst dX12_degree_5 (V_istore_n (lv' := [some (r_ a0), some (i_ (Z a0 21)), some (i_ 0)]) dX12_degree_6 (Nat.le_of_ble_eq_true rfl) rfl (V_msk [true, true, true] rfl h)))))
set_option maxRecDepth 20000 in
theorem b_X12_degree_7 {k n : Nat} {x : Wx} {Z : Zt} {Q : Option Value → Wx → Zt → Prop} {a0 : Nat} {v1 : Int} {v2 : Int} (o_a0 : Is12 x a0)
    (h : Rg v2 ∧ (((169 ≤ v2) → (Q (some (i_ v1)) x Z)) ∧ ((v2 < 169) → (0 ≤ v2 ∧ (V mX12_degree k n 7 [some (r_ a0), some (i_ (v1 + (Z (a0 + 10) v2.toNat))), some (i_ (v2 + 1))] [] x Z Q))))) :
    V mX12_degree k n 7 [some (r_ a0), some (i_ v1), some (i_ v2)] [] x Z Q :=
  V_iload_n dX12_degree_7 rfl (V_sipush dX12_degree_8 rfl (V_icmp_ge (tgt := 29) dX12_degree_11 rfl h.1 (rg_c rfl) (fun c1 => V_iload_n dX12_degree_29 rfl (V_iret (ty := .int) dX12_degree_30 rfl rfl (h.2.1 c1))) (fun c1 => V_iload_n dX12_degree_14 rfl (V_aload_n dX12_degree_15 rfl (G_12_19 o_a0.1 o_a0.qR19 lf_12_39 dX12_degree_16 (V_iload_n dX12_degree_19 rfl (V_iald (t := 100) o_a0.qK19 (by decide) rfl (h.2.2 c1).1 c1 (Nat.le_of_ble_eq_true rfl) dX12_degree_20 (V_iadd dX12_degree_21 (V_istore_n (lv' := [some (r_ a0), some (i_ (v1 + (Z (a0 + 10) v2.toNat))), some (i_ v2)]) dX12_degree_22 (Nat.le_of_ble_eq_true rfl) rfl (V_iinc (lv' := [some (r_ a0), some (i_ (v1 + (Z (a0 + 10) v2.toNat))), some (i_ (v2 + 1))]) dX12_degree_23 rfl (Nat.le_of_ble_eq_true rfl) rfl (V_goto (tgt := 7) dX12_degree_26 rfl (V_msk [true, true, true] rfl (h.2.2 c1).2))))))))))))
/-- what takesSum answers -/
def TkS (b : Nat) (T : Td) (p : Int) (F : Nat → Int) (s t : Int) (Z Z' : Zt) (r : Int) : Prop := ((r = 1 ∧ ((0 ≤ s ∧ s < T.ct 1) ∧ carr (pall p F) (T.rw (2 + s.toNat)) = true) ∧ MSq Z' b (t * T.rw (2 + s.toNat) 1) (mOf (T.rw (2 + s.toNat)) t (T.rw (2 + s.toNat) 0).toNat) (mTd (T.rw (2 + s.toNat)) (T.rw (2 + s.toNat) 0).toNat)) ∨ (r = 0 ∧ ¬ ((0 ≤ s ∧ s < T.ct 1) ∧ carr (pall p F) (T.rw (2 + s.toNat)) = true))) ∧ SFr b Z Z'
theorem sp_X12_takesSum {k n : Nat} {x : Wx} {Z : Zt} {Q : Option Value → Wx → Zt → Prop} {b : Nat} {s t : Int} (o : Is12 x b) {T : Td} {p : Int} {F : Nat → Int} (hT : MT (Z (b + 1)) T) (hV : TdV T) (hF : MF Z b p F) (hs : Rg s) (ht : t = 1 ∨ t = -1) (h : ∀ (Z' : Zt) (r : Int), TkS b T p F s t Z Z' r → Q (some (i_ r)) x Z') : V mX12_takesSum k n 0 [some (r_ b), some (i_ s), some (i_ t), none, none, none, none, none] [] x Z Q := by
  have hct := hV.2.2.2.2.2.1
  have e1 : Z (b + 1) (1 : Int).toNat = T.ct 1 := hT.1.2.1
  refine b_X12_takesSum_0 o ?_
  rw [e1]
  refine ⟨by decide, hs, ⟨by omega, by omega⟩, fun r1 h1 => ⟨⟨by omega, by omega⟩, fun c1 => ⟨⟨by decide, by decide⟩, fun Z1 hz1 => ?_⟩, fun c1 => h Z 0 ⟨Or.inr ⟨rfl, fun e => by omega⟩, SFr.rf⟩⟩⟩
  obtain ⟨q, hq⟩ : ∃ q : Nat, s = (q : Int) := ⟨s.toNat, by omega⟩
  subst hq
  unfold TkS at h
  rw [Int.toNat_natCast] at h
  obtain ⟨⟨z1, z2, z3⟩, z4⟩ := hz1
  obtain ⟨t1, t2, t3⟩ := hT.2.2.2.2.1 q (by omega)
  have hRow := (hV.2.2.2.2.2.2.2.2.1 q (by omega)).1
  obtain ⟨r, hr⟩ : ∃ r : Nat → Int, T.rw (2 + q) = r := ⟨_, rfl⟩
  rw [hr] at h t1 t2 t3 hRow
  have h0 := hRow.1
  have epl : plcO (1 : Int) (q : Int) = 626 + 26 * (q : Int) := rfl
  have hq3 : q < 3 := by omega
  have a1 : Z1 (b + 1) = Z (b + 1) := z4.1 _ (by omega) (by omega) (by omega)
  refine ⟨by rw [epl]; omega, by rw [epl]; omega, fun Z2 e2 => ?_⟩
  rw [a1, show (plcO (1 : Int) (q : Int) + 1).toNat = 627 + 26 * q from by rw [epl]; omega, t2] at e2
  have s2 : SFr b Z Z2 := z4.tr ⟨fun c c1 _ _ => by rw [e2, up_row _ _ _ _ _ c1], fun i hi => by rw [e2, up_at, if_neg hi]⟩
  have hpr := hF.2.1.1.rg
  have hp := hF.2.1.1
  have iF := hF.2.1.2.1
  obtain ⟨m, hm⟩ : ∃ m : Nat, r 0 = (m : Int) := ⟨(r 0).toNat, by omega⟩
  rw [hm, Int.toNat_natCast] at h
  have car : carr (pall p F) r = true ↔ ∀ j : Nat, j < m → ptN (pall p F) (eX r j) (eY r j) ≠ -1 := by
    unfold carr
    rw [hm, Int.toNat_natCast, crs_iff m 0]
    exact ⟨fun e j hj => e j (Nat.zero_le j) (by omega), fun e j _ hj => e j (by omega)⟩
  have lp : ∀ (M i : Nat) (Z3 : Zt), i + M = m → SFr b Z Z3 → MSq Z3 b (t * r 1) (mOf r t i) (mTd r i) → (∀ j : Nat, j < i → ptN (pall p F) (eX r j) (eY r j) ≠ -1) → V mX12_takesSum k n 41 [some (r_ b), none, some (i_ t), some (i_ (plcO (1 : Int) (q : Int))), some (i_ 1), some (i_ (i : Int)), none, none] [] x Z3 Q := by
    intro M
    induction M with
    | zero =>
      intro i Z3 hi s3 hS hok
      have a3 : Z3 (b + 1) = Z (b + 1) := s3.1 _ (by omega) (by omega) (by omega)
      have eim : i = m := by omega
      subst eim
      refine b_X12_takesSum_41 o ?_
      rw [a3, show (plcO (1 : Int) (q : Int)).toNat = 626 + 26 * q from by rw [epl]; omega, t1, hm]
      exact ⟨by rw [epl]; omega, by rw [epl]; omega, ⟨by omega, by omega⟩, ⟨by omega, by omega⟩, fun _ => b_X12_takesSum_184 ⟨Or.inr rfl, h Z3 1 ⟨Or.inl ⟨rfl, ⟨by omega, car.mpr hok⟩, hS⟩, s3⟩⟩, fun c => by omega⟩
    | succ M ih =>
      intro i Z3 hi s3 hS hok
      have a3 : Z3 (b + 1) = Z (b + 1) := s3.1 _ (by omega) (by omega) (by omega)
      have hF3 := hF.sf s3
      have b11 : Z3 b 11 = p := hF3.1.1.1
      obtain ⟨_, _, P3, m3, p30⟩ := id hF3
      obtain ⟨⟨x0, x1⟩, ⟨y0, y1⟩, w0⟩ := hRow.2.2 i (by omega)
      have eXi : Z (b + 1) ((plcO (1 : Int) (q : Int) + 2) + 3 * (i : Int)).toNat = eX r i := by
        rw [show ((plcO (1 : Int) (q : Int) + 2) + 3 * (i : Int)).toNat = 628 + 26 * q + 3 * i from by rw [epl]; omega, t3 (3 * i) (by omega)]; rfl
      have eYi : Z (b + 1) ((plcO (1 : Int) (q : Int) + 3) + 3 * (i : Int)).toNat = eY r i := by
        rw [show ((plcO (1 : Int) (q : Int) + 3) + 3 * (i : Int)).toNat = 628 + 26 * q + (3 * i + 1) from by rw [epl]; omega, t3 (3 * i + 1) (by omega)]; unfold eY; rw [show 2 + (3 * i + 1) = 2 + 3 * i + 1 from by omega]
      have eOi : Z (b + 1) ((plcO (1 : Int) (q : Int) + 4) + 3 * (i : Int)).toNat = eO r i := by
        rw [show ((plcO (1 : Int) (q : Int) + 4) + 3 * (i : Int)).toNat = 628 + 26 * q + (3 * i + 2) from by rw [epl]; omega, t3 (3 * i + 2) (by omega)]; unfold eO; rw [show 2 + (3 * i + 2) = 2 + 3 * i + 2 from by omega]
      have pIff := ptN_iff hp (F := F) (x := eX r i) (y := eY r i) x0 y0
      have out : ptN (pall p F) (eX r i) (eY r i) = -1 → V mX12_takesSum k n 128 [some (r_ b), none, some (i_ t), some (i_ (plcO (1 : Int) (q : Int))), none, some (i_ (i : Int)), some (i_ (eX r i)), some (i_ (eY r i))] [] x Z3 Q := fun hb => by
        have fin : V mX12_takesSum k n 41 [some (r_ b), none, some (i_ t), some (i_ (plcO (1 : Int) (q : Int))), some (i_ 0), some (i_ ((i : Int) + 1)), none, none] [] x Z3 Q := by
          have ans : V mX12_takesSum k n 184 [none, none, none, none, some (i_ 0), none, none, none] [] x Z3 Q := b_X12_takesSum_184 ⟨Or.inl rfl, h Z3 0 ⟨Or.inr ⟨rfl, fun e => car.mp e.2 i (by omega) hb⟩, s3⟩⟩
          refine b_X12_takesSum_41 o ?_
          rw [a3, show (plcO (1 : Int) (q : Int)).toNat = 626 + 26 * q from by rw [epl]; omega, t1, hm]
          exact ⟨by rw [epl]; omega, by rw [epl]; omega, ⟨by omega, by omega⟩, ⟨by omega, by omega⟩, fun _ => ans, fun _ => ⟨rg_z, fun _ => ans, fun c => absurd rfl c⟩⟩
        exact b_X12_takesSum_128 (b_X12_takesSum_129 o ⟨rg_z, fun c => absurd rfl c, fun _ => b_X12_takesSum_178 fin⟩)
      have hm2 := mul_bd (t := eY r i) (c := 12) (B := eY r i) (by omega) (by omega)
      refine b_X12_takesSum_41 o ?_
      rw [a3, show (plcO (1 : Int) (q : Int)).toNat = 626 + 26 * q from by rw [epl]; omega, t1, hm, eXi, eYi, b11]
      refine ⟨by rw [epl]; omega, by rw [epl]; omega, ⟨by omega, by omega⟩, ⟨by omega, by omega⟩, fun c => by omega, fun _ => ⟨⟨by decide, by decide⟩, fun c => absurd c (by decide), fun _ => ⟨by rw [epl]; omega, by rw [epl]; omega, by rw [epl]; omega, by rw [epl]; omega, ⟨by omega, by omega⟩, ⟨by omega, by omega⟩, fun c2 => out ?_, fun c2 => ⟨⟨by omega, by omega⟩, fun c3 => out ?_, fun c3 => ⟨⟨by omega, by omega⟩, by omega, by omega, P3, p, ⟨hp, rfl⟩, m3, by decide, by omega, ?_, ?_⟩⟩⟩⟩⟩
      · by_cases e : ptN (pall p F) (eX r i) (eY r i) = -1
        · exact e
        · have := pIff.mp e; omega
      · by_cases e : ptN (pall p F) (eX r i) (eY r i) = -1
        · exact e
        · have := pIff.mp e; omega
      · show InP p (P3 0)
        rw [p30]; exact iF
      · have ep : ev p (P3 (0 : Int).toNat) (eX r i) = ev p F (eX r i) := by show ev p (P3 0) _ = _; rw [p30]
        rw [ep]
        have hv := ev_rg (p := p) (by omega) F (eX r i)
        have he := emr (eY r i * eY r i) (show 0 < p by omega)
        refine ⟨⟨by omega, by omega⟩, ⟨by omega, by omega⟩, fun c4 => out ?_, fun c4 => ?_⟩
        · by_cases e : ptN (pall p F) (eX r i) (eY r i) = -1
          · exact e
          · exact absurd (pIff.mp e).2.2 c4
        · have hgood : ptN (pall p F) (eX r i) (eY r i) ≠ -1 := pIff.mpr ⟨c2, c3, c4⟩
          refine b_X12_takesSum_129 o ⟨⟨by decide, by decide⟩, fun _ => ⟨by omega, by omega, fun Z4 e4 => ?_⟩, fun c => absurd c (by decide)⟩
          have a41 : Z4 (b + 1) = Z (b + 1) := by rw [e4, up_row _ _ _ _ _ (by omega)]; exact a3
          refine ⟨by omega, by omega, by rw [epl]; omega, by rw [epl]; omega, fun Z5 e5 => b_X12_takesSum_178 ?_⟩
          rw [a41, eOi] at e5
          obtain ⟨w1, w2, w3⟩ := hS
          have d10 : Z4 (b + 10) = Z3 (b + 10) := by rw [e4, up_row _ _ _ _ _ (by omega)]
          rw [d10, w2 _ (by omega)] at e5
          have := ih (i + 1) Z5 (by omega) (s3.tr ⟨fun c c1 c2 c3 => by rw [e5, up_row _ _ _ _ _ c2, e4, up_row _ _ _ _ _ c3], fun j _ => by rw [e5, up_row _ _ _ _ _ (by omega), e4, up_row _ _ _ _ _ (by omega)]⟩) ⟨?_, fun j hj => ?_, fun j hj => ?_⟩ (fun j hj => ?_)
          · exact this
          · rw [e5, up_row _ _ _ _ _ (by omega), e4, up_row _ _ _ _ _ (by omega)]; exact w1
          · rw [e5, up_at, d10]
            show _ = upf (mOf r t i) (13 * eX r i + eY r i).toNat _ j
            unfold upf
            split
            · rfl
            · exact w2 j hj
          · rw [e5, up_row _ _ _ _ _ (by omega), e4, up_at]
            show _ = upf (mTd r i) (eX r i).toNat 1 j
            unfold upf
            split
            · rfl
            · exact w3 j hj
          · by_cases cj : j = i
            · rw [cj]; exact hgood
            · exact hok j (by omega)
  refine lp m 0 Z2 (by omega) s2 ⟨?_, fun j hj => ?_, fun j hj => ?_⟩ (fun j hj => absurd hj (Nat.not_lt_zero j))
  · rw [e2, up_self]
  · rw [e2, up_row _ _ _ _ _ (by omega)]; exact z2 j hj
  · rw [e2, up_row _ _ _ _ _ (by omega)]; exact z3 j hj
theorem mOf_sm {r : Nat → Int} {t : Int} (hr : SumR r) : ∀ i : Nat, i ≤ 8 → smT 169 (mOf r t i) = t * (sdeg r i - r 1)
  | 0, _ => by
    have : ∀ n : Nat, smT n (mOf r t 0) = 0 := fun n => by
      induction n with
      | zero => rfl
      | succ n ih => show smT n (mOf r t 0) + 0 = 0; rw [ih]; rfl
    rw [this]
    show 0 = t * (r 1 - r 1)
    rw [Int.sub_self, Int.mul_zero]
  | i + 1, h => by
    have h1 := hr.2.2 i (by omega)
    have ih := mOf_sm (t := t) hr i (by omega)
    show smT 169 (upf (mOf r t i) (13 * eX r i + eY r i).toNat (mOf r t i (13 * eX r i + eY r i).toNat + t * eO r i)) = t * (sdeg r i + eO r i - r 1)
    rw [smT_upf (by omega), ih, show sdeg r i + eO r i - r 1 = (sdeg r i - r 1) + eO r i from by omega, Int.mul_add]
    omega
theorem sp_X12_degree {k n : Nat} {x : Wx} {Z : Zt} {Q : Option Value → Wx → Zt → Prop} {b : Nat} (o : Is12 x b) {fr : Int} {O D : Nat → Int} (hS : MSq Z b fr O D) (h : Q (some (i_ (fr + smT 169 O))) x Z) : V mX12_degree k n 0 [some (r_ b), none, none] [] x Z Q := by
  obtain ⟨h1, h2, h3⟩ := hS
  have lp : ∀ (m i : Nat), i + m = 169 → V mX12_degree k n 7 [some (r_ b), some (i_ (fr + smT i O)), some (i_ (i : Int))] [] x Z Q := by
    intro m
    induction m with
    | zero =>
      intro i hi
      have e : i = 169 := by omega
      subst e
      exact b_X12_degree_7 o ⟨⟨by omega, by omega⟩, fun _ => h, fun c => by omega⟩
    | succ m ih =>
      intro i hi
      refine b_X12_degree_7 o ⟨⟨by omega, by omega⟩, fun c => by omega, fun _ => ⟨by omega, ?_⟩⟩
      have := ih (i + 1) (by omega)
      rw [Int.toNat_natCast, h2 i (by omega)]
      have e : fr + smT (i + 1) O = fr + smT i O + O i := by show fr + (smT i O + O i) = _; omega
      rw [e] at this
      exact this
  have := lp 169 0 (by omega)
  rw [show fr + smT 0 O = Z b 21 from by rw [h1]; show fr + 0 = fr; omega] at this
  exact b_X12_degree_0 o this
theorem dX12_isAsked_0 : decode cX12_isAsked 0 = .ok (.aload_n 0, 1) := by decide +kernel
theorem dX12_isAsked_1 : decode cX12_isAsked 1 = .ok (.iload_n 1, 1) := by decide +kernel
theorem dX12_isAsked_2 : decode cX12_isAsked 2 = .ok (.invokevirtual 249, 3) := by decide +kernel
theorem dX12_isAsked_5 : decode cX12_isAsked 5 = .ok (.ifCond .eq 16, 3) := by decide +kernel
theorem dX12_isAsked_8 : decode cX12_isAsked 8 = .ok (.aload_n 0, 1) := by decide +kernel
theorem dX12_isAsked_9 : decode cX12_isAsked 9 = .ok (.iload_n 2, 1) := by decide +kernel
theorem dX12_isAsked_10 : decode cX12_isAsked 10 = .ok (.iconst 1, 1) := by decide +kernel
theorem dX12_isAsked_11 : decode cX12_isAsked 11 = .ok (.invokevirtual 300, 3) := by decide +kernel
theorem dX12_isAsked_14 : decode cX12_isAsked 14 = .ok (.ifCond .eq 7, 3) := by decide +kernel
theorem dX12_isAsked_17 : decode cX12_isAsked 17 = .ok (.iconst 1, 1) := by decide +kernel
theorem dX12_isAsked_18 : decode cX12_isAsked 18 = .ok (.goto 4, 3) := by decide +kernel
theorem dX12_isAsked_21 : decode cX12_isAsked 21 = .ok (.iconst 0, 1) := by decide +kernel
theorem dX12_isAsked_22 : decode cX12_isAsked 22 = .ok (.ireturn, 1) := by decide +kernel
set_option maxRecDepth 20000 in
theorem b_X12_isAsked_0 {k n : Nat} {x : Wx} {Z : Zt} {Q : Option Value → Wx → Zt → Prop} {a0 : Nat} {v1 : Int} {v2 : Int} (o_a0 : Is12 x a0)
    (h : ∃ g1 : Nat → Nat → Int, (∃ g2 : Td, (MT (Z (a0 + 1)) g2 ∧ TdV g2 ∧ MS Z a0 g1 ∧ Rg v1 ∧ (∀ (Z'1 : Zt) (P'1 : Nat → Nat → Int) (r1 : Int), (TkC a0 g2 v1 Z Z'1 g1 P'1 r1) → (Rg r1 ∧ (((r1 = 0) → (V mX12_isAsked k n 21 [none, none, none] [] x Z'1 Q)) ∧ ((r1 ≠ 0) → (∃ g3 : Td, (∃ g4 : Int, (∃ g5 : Nat → Int, (MT (Z'1 (a0 + 1)) g3 ∧ TdV g3 ∧ MF Z'1 a0 g4 g5 ∧ Rg v2 ∧ ((1 : Int) = 1 ∨ (1 : Int) = -1) ∧ (∀ (Z'2 : Zt) (r2 : Int), (TkS a0 g3 g4 g5 v2 (1 : Int) Z'1 Z'2 r2) → (Rg r2 ∧ (((r2 = 0) → (V mX12_isAsked k n 21 [none, none, none] [] x Z'2 Q)) ∧ ((r2 ≠ 0) → (Q (some (i_ 1)) x Z'2)))))))))))))))) :
    V mX12_isAsked k n 0 [some (r_ a0), some (i_ v1), some (i_ v2)] [] x Z Q :=
  V_aload_n dX12_isAsked_0 rfl (V_iload_n dX12_isAsked_1 rfl (Exists.elim h (fun g1 w1 => Exists.elim w1 (fun g2 w2 => V_callV (k' := 0) (n' := 0) (t := 12) (q := (RX12, TX12, 46)) [i_ v1] [] okX12_takesCurve o_a0.1 rfl rfl lm_12_249 liX12_takesCurve lqX12_takesCurve (Nat.le_of_ble_eq_true rfl) (Nat.le_of_ble_eq_true rfl) (Nat.le_of_ble_eq_true rfl) (cat_of rfl) (Nat.le_of_ble_eq_true rfl) (Nat.zero_le _) (Nat.zero_le _) rfl dX12_isAsked_2 (w_X12_takesCurve o_a0 w2.1 w2.2.1 w2.2.2.1 w2.2.2.2.1 (fun Z'1 P'1 r1 p1 => V_if_eq (tgt := 21) dX12_isAsked_5 rfl (w2.2.2.2.2 Z'1 P'1 r1 p1).1 (fun c1 => V_msk [false, false, false] rfl ((w2.2.2.2.2 Z'1 P'1 r1 p1).2.1 c1)) (fun c1 => V_aload_n dX12_isAsked_8 rfl (V_iload_n dX12_isAsked_9 rfl (V_iconst dX12_isAsked_10 (Exists.elim ((w2.2.2.2.2 Z'1 P'1 r1 p1).2.2 c1) (fun g3 w3 => Exists.elim w3 (fun g4 w4 => Exists.elim w4 (fun g5 w5 => V_callV (k' := 0) (n' := 0) (t := 12) (q := (RX12, TX12, 46)) [i_ v2, i_ 1] [] okX12_takesSum o_a0.1 rfl rfl lm_12_300 liX12_takesSum lqX12_takesSum (Nat.le_of_ble_eq_true rfl) (Nat.le_of_ble_eq_true rfl) (Nat.le_of_ble_eq_true rfl) (cat_of rfl) (Nat.le_of_ble_eq_true rfl) (Nat.zero_le _) (Nat.zero_le _) rfl dX12_isAsked_11 (sp_X12_takesSum o_a0 w5.1 w5.2.1 w5.2.2.1 w5.2.2.2.1 w5.2.2.2.2.1 (fun Z'2 r2 p2 => V_if_eq (tgt := 21) dX12_isAsked_14 rfl (w5.2.2.2.2.2 Z'2 r2 p2).1 (fun c2 => V_msk [false, false, false] rfl ((w5.2.2.2.2.2 Z'2 r2 p2).2.1 c2)) (fun c2 => V_iconst dX12_isAsked_17 (V_goto (tgt := 22) dX12_isAsked_18 rfl (V_iret (ty := .boolean) dX12_isAsked_22 rfl rfl ((w5.2.2.2.2.2 Z'2 r2 p2).2.2 c2)))))))))))))))))))
set_option maxRecDepth 20000 in
theorem b_X12_isAsked_21 {k n : Nat} {x : Wx} {Z : Zt} {Q : Option Value → Wx → Zt → Prop}  
    (h : Q (some (i_ 0)) x Z) :
    V mX12_isAsked k n 21 [none, none, none] [] x Z Q :=
  V_iconst dX12_isAsked_21 (V_iret (ty := .boolean) dX12_isAsked_22 rfl rfl h)
theorem dX12_fits_0 : decode cX12_fits 0 = .ok (.aload_n 0, 1) := by decide +kernel
theorem dX12_fits_1 : decode cX12_fits 1 = .ok (.iload_n 1, 1) := by decide +kernel
theorem dX12_fits_2 : decode cX12_fits 2 = .ok (.invokevirtual 249, 3) := by decide +kernel
theorem dX12_fits_5 : decode cX12_fits 5 = .ok (.ifCond .eq 16, 3) := by decide +kernel
theorem dX12_fits_8 : decode cX12_fits 8 = .ok (.aload_n 0, 1) := by decide +kernel
theorem dX12_fits_9 : decode cX12_fits 9 = .ok (.iload_n 2, 1) := by decide +kernel
theorem dX12_fits_10 : decode cX12_fits 10 = .ok (.iconst 1, 1) := by decide +kernel
theorem dX12_fits_11 : decode cX12_fits 11 = .ok (.invokevirtual 300, 3) := by decide +kernel
theorem dX12_fits_14 : decode cX12_fits 14 = .ok (.ifCond .eq 7, 3) := by decide +kernel
theorem dX12_fits_17 : decode cX12_fits 17 = .ok (.iconst 1, 1) := by decide +kernel
theorem dX12_fits_18 : decode cX12_fits 18 = .ok (.goto 4, 3) := by decide +kernel
theorem dX12_fits_21 : decode cX12_fits 21 = .ok (.iconst 0, 1) := by decide +kernel
theorem dX12_fits_22 : decode cX12_fits 22 = .ok (.ireturn, 1) := by decide +kernel
set_option maxRecDepth 20000 in
theorem b_X12_fits_0 {k n : Nat} {x : Wx} {Z : Zt} {Q : Option Value → Wx → Zt → Prop} {a0 : Nat} {v1 : Int} {v2 : Int} (o_a0 : Is12 x a0)
    (h : ∃ g1 : Nat → Nat → Int, (∃ g2 : Td, (MT (Z (a0 + 1)) g2 ∧ TdV g2 ∧ MS Z a0 g1 ∧ Rg v1 ∧ (∀ (Z'1 : Zt) (P'1 : Nat → Nat → Int) (r1 : Int), (TkC a0 g2 v1 Z Z'1 g1 P'1 r1) → (Rg r1 ∧ (((r1 = 0) → (V mX12_fits k n 21 [none, none, none] [] x Z'1 Q)) ∧ ((r1 ≠ 0) → (∃ g3 : Td, (∃ g4 : Int, (∃ g5 : Nat → Int, (MT (Z'1 (a0 + 1)) g3 ∧ TdV g3 ∧ MF Z'1 a0 g4 g5 ∧ Rg v2 ∧ ((1 : Int) = 1 ∨ (1 : Int) = -1) ∧ (∀ (Z'2 : Zt) (r2 : Int), (TkS a0 g3 g4 g5 v2 (1 : Int) Z'1 Z'2 r2) → (Rg r2 ∧ (((r2 = 0) → (V mX12_fits k n 21 [none, none, none] [] x Z'2 Q)) ∧ ((r2 ≠ 0) → (Q (some (i_ 1)) x Z'2)))))))))))))))) :
    V mX12_fits k n 0 [some (r_ a0), some (i_ v1), some (i_ v2)] [] x Z Q :=
  V_aload_n dX12_fits_0 rfl (V_iload_n dX12_fits_1 rfl (Exists.elim h (fun g1 w1 => Exists.elim w1 (fun g2 w2 => V_callV (k' := 0) (n' := 0) (t := 12) (q := (RX12, TX12, 46)) [i_ v1] [] okX12_takesCurve o_a0.1 rfl rfl lm_12_249 liX12_takesCurve lqX12_takesCurve (Nat.le_of_ble_eq_true rfl) (Nat.le_of_ble_eq_true rfl) (Nat.le_of_ble_eq_true rfl) (cat_of rfl) (Nat.le_of_ble_eq_true rfl) (Nat.zero_le _) (Nat.zero_le _) rfl dX12_fits_2 (w_X12_takesCurve o_a0 w2.1 w2.2.1 w2.2.2.1 w2.2.2.2.1 (fun Z'1 P'1 r1 p1 => V_if_eq (tgt := 21) dX12_fits_5 rfl (w2.2.2.2.2 Z'1 P'1 r1 p1).1 (fun c1 => V_msk [false, false, false] rfl ((w2.2.2.2.2 Z'1 P'1 r1 p1).2.1 c1)) (fun c1 => V_aload_n dX12_fits_8 rfl (V_iload_n dX12_fits_9 rfl (V_iconst dX12_fits_10 (Exists.elim ((w2.2.2.2.2 Z'1 P'1 r1 p1).2.2 c1) (fun g3 w3 => Exists.elim w3 (fun g4 w4 => Exists.elim w4 (fun g5 w5 => V_callV (k' := 0) (n' := 0) (t := 12) (q := (RX12, TX12, 46)) [i_ v2, i_ 1] [] okX12_takesSum o_a0.1 rfl rfl lm_12_300 liX12_takesSum lqX12_takesSum (Nat.le_of_ble_eq_true rfl) (Nat.le_of_ble_eq_true rfl) (Nat.le_of_ble_eq_true rfl) (cat_of rfl) (Nat.le_of_ble_eq_true rfl) (Nat.zero_le _) (Nat.zero_le _) rfl dX12_fits_11 (sp_X12_takesSum o_a0 w5.1 w5.2.1 w5.2.2.1 w5.2.2.2.1 w5.2.2.2.2.1 (fun Z'2 r2 p2 => V_if_eq (tgt := 21) dX12_fits_14 rfl (w5.2.2.2.2.2 Z'2 r2 p2).1 (fun c2 => V_msk [false, false, false] rfl ((w5.2.2.2.2.2 Z'2 r2 p2).2.1 c2)) (fun c2 => V_iconst dX12_fits_17 (V_goto (tgt := 22) dX12_fits_18 rfl (V_iret (ty := .boolean) dX12_fits_22 rfl rfl ((w5.2.2.2.2.2 Z'2 r2 p2).2.2 c2)))))))))))))))))))
set_option maxRecDepth 20000 in
theorem b_X12_fits_21 {k n : Nat} {x : Wx} {Z : Zt} {Q : Option Value → Wx → Zt → Prop}  
    (h : Q (some (i_ 0)) x Z) :
    V mX12_fits k n 21 [none, none, none] [] x Z Q :=
  V_iconst dX12_fits_21 (V_iret (ty := .boolean) dX12_fits_22 rfl rfl h)
/-- what isAsked answers -/
def AsK (b : Nat) (T : Td) (c s : Int) (Z Z' : Zt) (r : Int) : Prop := r = bI (fitB T c s) ∧ Mq b Z Z' ∧ (fitB T c s = true → MF Z' b (T.p c.toNat) (T.F c.toNat) ∧ MSq Z' b (T.rw (2 + s.toNat) 1) (mOf (T.rw (2 + s.toNat)) 1 (T.rw (2 + s.toNat) 0).toNat) (mTd (T.rw (2 + s.toNat)) (T.rw (2 + s.toNat) 0).toNat))
theorem fitB_c {T : Td} {c s : Int} : fitB T c s = true ↔ (0 ≤ c ∧ c < T.ct 0) ∧ (0 ≤ s ∧ s < T.ct 1) ∧ carr (T.L c.toNat) (T.rw (2 + s.toNat)) = true := by
  unfold fitB
  rw [Bool.and_eq_true, decide_eq_true_eq]
  exact ⟨fun e => ⟨e.1.1, e.1.2, e.2⟩, fun e => ⟨⟨e.1, e.2.1⟩, e.2.2⟩⟩
theorem ask_no {b : Nat} {T : Td} {c s : Int} {Z Z' : Zt} (hn : ¬ fitB T c s = true) (hq : Mq b Z Z') : AsK b T c s Z Z' 0 := by
  have e : fitB T c s = false := by
    cases hh : fitB T c s
    · rfl
    · exact absurd hh hn
  exact ⟨by rw [e]; rfl, hq, fun h => absurd h hn⟩
theorem ask_yes {b : Nat} {T : Td} {c s r1 r2 : Int} {Z Z1 Z2 : Zt} {P P1 : Nat → Nat → Int} (hV : TdV T) (ht : TkC b T c Z Z1 P P1 r1) (hr : r1 ≠ 0) (hs : TkS b T (T.p c.toNat) (T.F c.toNat) s 1 Z1 Z2 r2) : AsK b T c s Z Z2 r2 ∧ (r2 = 0 ∨ r2 = 1) := by
  obtain ⟨hc, hF, hq⟩ := ht.yes hV hr
  obtain ⟨hs1, hs2⟩ := hs
  have q2 : Mq b Z Z2 := hq.tr hs2.mq
  have eL : T.L c.toNat = pall (T.p c.toNat) (T.F c.toNat) := rfl
  rcases hs1 with ⟨e1, e2, e3⟩ | ⟨e1, e2⟩
  · have hf : fitB T c s = true := fitB_c.mpr ⟨hc, e2.1, by rw [eL]; exact e2.2⟩
    rw [Int.one_mul] at e3
    exact ⟨⟨by rw [hf, e1]; rfl, q2, fun _ => ⟨hF.sf hs2, e3⟩⟩, Or.inr e1⟩
  · rw [e1]
    exact ⟨ask_no (fun e => e2 ⟨(fitB_c.mp e).2.1, by rw [← eL]; exact (fitB_c.mp e).2.2⟩) q2, Or.inl rfl⟩
theorem sp_X12_isAsked {k n : Nat} {x : Wx} {Z : Zt} {Q : Option Value → Wx → Zt → Prop} {b : Nat} {c s : Int} (o : Is12 x b) {T : Td} (hT : MT (Z (b + 1)) T) (hV : TdV T) (hc : Rg c) (hs : Rg s) (h : ∀ (Z' : Zt) (r : Int), AsK b T c s Z Z' r → Q (some (i_ r)) x Z') : V mX12_isAsked k n 0 [some (r_ b), some (i_ c), some (i_ s)] [] x Z Q := by
  refine b_X12_isAsked_0 o ⟨_, T, hT, hV, MS.any, hc, fun Z1 P1 r1 ht => ⟨ht.rg.1, fun c1 => b_X12_isAsked_21 (h Z1 0 (ask_no (fun e => (ht.no c1).1 (fitB_c.mp e).1) (ht.no c1).2)), fun c1 => ?_⟩⟩
  obtain ⟨_, hF, hq⟩ := ht.yes hV c1
  refine ⟨T, _, _, by rw [hq.1]; exact hT, hV, hF, hs, Or.inl rfl, fun Z2 r2 h2 => ?_⟩
  have hk := ask_yes hV ht c1 h2
  refine ⟨⟨by omega, by omega⟩, fun c2 => b_X12_isAsked_21 ?_, fun c2 => ?_⟩
  · rw [c2] at hk; exact h Z2 0 hk.1
  · rw [show r2 = 1 by omega] at hk; exact h Z2 1 hk.1
def aFits (T : Td) (c s : Int) : Int := bI (fitB T c s)
theorem sp_X12_fits {k n : Nat} {x : Wx} {Z : Zt} {Q : Option Value → Wx → Zt → Prop} {b : Nat} {c s : Int} {S : Ab} (hI : MI x Z b S) (hV : AbV S) (hc : Rg c) (hs : Rg s) (h : RAm b x Z Q (aFits S.nw c s)) : V mX12_fits k n 0 [some (r_ b), some (i_ c), some (i_ s)] [] x Z Q := by
  obtain ⟨o, hT, _⟩ := id hI
  have fin : ∀ (Z' : Zt) (r : Int), AsK b S.nw c s Z Z' r → Q (some (i_ r)) x Z' := fun Z' r hk => by rw [hk.1]; exact h Z' hk.2.1
  refine b_X12_fits_0 o ⟨_, S.nw, hT, hV.1, MS.any, hc, fun Z1 P1 r1 ht => ⟨ht.rg.1, fun c1 => b_X12_fits_21 (fin Z1 0 (ask_no (fun e => (ht.no c1).1 (fitB_c.mp e).1) (ht.no c1).2)), fun c1 => ?_⟩⟩
  obtain ⟨_, hF, hq⟩ := ht.yes hV.1 c1
  refine ⟨S.nw, _, _, by rw [hq.1]; exact hT, hV.1, hF, hs, Or.inl rfl, fun Z2 r2 h2 => ?_⟩
  have hk := ask_yes hV.1 ht c1 h2
  refine ⟨⟨by omega, by omega⟩, fun c2 => b_X12_fits_21 ?_, fun c2 => ?_⟩
  · rw [c2] at hk; exact fin Z2 0 hk.1
  · rw [show r2 = 1 by omega] at hk; exact fin Z2 1 hk.1
