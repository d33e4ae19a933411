theorem dX11_forget_0 : decode cX11_forget 0 = .ok (.aload_n 0, 1) := by decide +kernel
theorem dX11_forget_1 : decode cX11_forget 1 = .ok (.iconst (-1), 1) := by decide +kernel
theorem dX11_forget_2 : decode cX11_forget 2 = .ok (.putfield 102, 3) := by decide +kernel
theorem dX11_forget_5 : decode cX11_forget 5 = .ok (.aload_n 0, 1) := by decide +kernel
theorem dX11_forget_6 : decode cX11_forget 6 = .ok (.iconst (-1), 1) := by decide +kernel
theorem dX11_forget_7 : decode cX11_forget 7 = .ok (.putfield 106, 3) := by decide +kernel
theorem dX11_forget_10 : decode cX11_forget 10 = .ok (.aload_n 0, 1) := by decide +kernel
theorem dX11_forget_11 : decode cX11_forget 11 = .ok (.iconst 0, 1) := by decide +kernel
theorem dX11_forget_12 : decode cX11_forget 12 = .ok (.putfield 361, 3) := by decide +kernel
theorem dX11_forget_15 : decode cX11_forget 15 = .ok (.return_, 1) := by decide +kernel
set_option maxRecDepth 20000 in
theorem b_X11_forget_0 {k n : Nat} {x : Wx} {Z : Zt} {Q : Option Value → Wx → Zt → Prop} {a0 : Nat} (o_a0 : Is11 x a0)
    (h : ∀ Z1 : Zt, Z1 = up Z a0 14 (-1) → (∀ Z2 : Zt, Z2 = up Z1 a0 15 (-1) → (∀ Z3 : Zt, Z3 = up Z2 a0 16 0 → (Q none x Z3)))) :
    V mX11_forget k n 0 [some (r_ a0)] [] x Z Q :=
  V_aload_n dX11_forget_0 rfl (V_iconst dX11_forget_1 (P_11_14 o_a0.1 lf_11_102 dX11_forget_2 (V_nmZ (fun Z1 eZ1 => V_aload_n dX11_forget_5 rfl (V_iconst dX11_forget_6 (P_11_15 o_a0.1 lf_11_106 dX11_forget_7 (V_nmZ (fun Z2 eZ2 => V_aload_n dX11_forget_10 rfl (V_iconst dX11_forget_11 (P_11_16 o_a0.1 lf_11_361 (Or.inl rfl) dX11_forget_12 (V_nmZ (fun Z3 eZ3 => V_ret dX11_forget_15 rfl (((h Z1 eZ1) Z2 eZ2) Z3 eZ3)))))))))))))
/-! ===== CurveShares: the working objects made ready ===== -/
def fgt (Z : Zt) (a : Nat) : Zt := up (up (up Z a 14 (-1)) a 15 (-1)) a 16 0
theorem sp_X11_forget {k n : Nat} {x : Wx} {Z : Zt} {Q : Option Value → Wx → Zt → Prop} {a : Nat} (o : Is11 x a) (h : Q none x (fgt Z a)) : V mX11_forget k n 0 [some (r_ a)] [] x Z Q := by
  refine b_X11_forget_0 o fun Z1 e1 Z2 e2 Z3 e3 => ?_
  have : Z3 = fgt Z a := by rw [e3, e2, e1]; rfl
  rw [this]; exact h
theorem fgt_row (Z : Zt) (a : Nat) {b : Nat} (h : b ≠ a) : fgt Z a b = Z b := by
  unfold fgt
  rw [up_row _ _ _ _ _ h, up_row _ _ _ _ _ h, up_row _ _ _ _ _ h]
theorem fgt_at (Z : Zt) (a : Nat) : fgt Z a a 14 = -1 ∧ fgt Z a a 15 = -1 ∧ fgt Z a a 16 = 0 := by
  unfold fgt
  refine ⟨?_, ?_, ?_⟩
  · rw [up_at, if_neg (by decide), up_at, if_neg (by decide), up_at, if_pos rfl]
  · rw [up_at, if_neg (by decide), up_at, if_pos rfl]
  · rw [up_at, if_pos rfl]
/-- what no answer rests on -/
def Scr (a b : Nat) : Prop := (a + 14 ≤ b ∧ b < a + 40) ∨ (a + 51 ≤ b ∧ b < a + 68) ∨ b = a + 118 ∨ (a + 226 ≤ b ∧ b < a + 229) ∨ (a + 235 ≤ b ∧ b < a + 279) ∨ (a + 281 ≤ b ∧ b < a + 292)
theorem LnA.rg {x : Wx} {s : Nat} {σ : Nat → Nat} (h : LnA x s σ) {i : Nat} (hi : i < 40) : s + 6 ≤ s + 6 + σ i ∧ s + 6 + σ i < s + 46 := by have := (h.1 i hi).2; omega
theorem RmA.kept {x : Wx} {Z Z' : Zt} {s : Nat} {p : Int} {F r : Nat → Int} {σ : Nat → Nat} (hp : IsP p) (h : RmA x Z s p F r σ) (ho : ∀ b, s ≤ b → b < s + 48 → Z' b = Z b) : RmA x Z' s p F r σ := by
  obtain ⟨r1, ⟨r2, r3, r4, r5⟩, r6, r7, r8, r9, r10⟩ := h
  have hL := (rmL_rg hp (F := F) (r := r)).1
  refine ⟨r1, ⟨?_, ?_, ?_, ?_⟩, fun i hi => ?_, fun i hi => ?_, fun i hi j hj => ?_, fun j hj => ?_, fun i hi => ?_⟩
  · rw [ho s (by omega) (by omega)]; exact r2
  · rw [ho s (by omega) (by omega)]; exact r3
  · rw [ho s (by omega) (by omega)]; exact r4
  · rw [ho s (by omega) (by omega)]; exact r5
  · rw [ho _ (by omega) (by omega)]; exact r6 i hi
  · rw [ho _ (by omega) (by omega)]; exact r7 i hi
  · have := r1.rg (i := i) (by omega)
    rw [ho _ (by omega) (by omega)]; exact r8 i hi j hj
  · rw [ho _ (by omega) (by omega)]; exact r9 j hj
  · rw [ho _ (by omega) (by omega)]; exact r10 i hi
theorem LsA.kept {Z Z' : Zt} {a : Nat} {p : Int} {F : Nat → Int} {g : Int} (h : LsA Z a p F g) (h1 : Z' a = Z a) (h2 : Z' (a + 50) = Z (a + 50)) (h3 : Z' (a + 51) = Z (a + 51)) : LsA Z' a p F g := ⟨h.1.kept h1 h2, fun i hi => by rw [h3]; exact h.2 i hi⟩
theorem OI.crv {x : Wx} {Z : Zt} {a : Nat} {S : Ab} (h : OI x Z a S) {c : Nat} (hc : Z a 14 = (c : Int)) : (c : Int) < S.nw.ct 0 ∧ CrvR (S.nw.rw c) ∧ IsP (S.nw.rw c 0) ∧ ∃ σ : Nat → Nat, LnA x (a + 68) σ ∧ CrvC x Z a S.nw σ c := by
  obtain ⟨_, _, _, _, _, hV, σ, h1, h2⟩ := h
  rcases h2 with ⟨e, _⟩ | ⟨c', e, hc'⟩
  · omega
  · have : c' = c := by omega
    subst this
    have hcr := hV.1.2.2.2.2.2.2.2.1 c' hc'.1
    exact ⟨hc'.1, hcr, hcr.1, σ, h1, hc'⟩
theorem Cch.kept {x : Wx} {Z Z' : Zt} {a : Nat} {S : Ab} {σ : Nat → Nat} (hV : AbV S) (h : Cch x Z a S.nw σ) (h0 : ∀ b, ¬ Scr a b → b ≠ a + 40 → b ≠ a + 116 → Z' b = Z b) (h40 : ∀ i : Nat, i < 14 → Z' (a + 40) i = Z (a + 40) i) (h116 : ∀ i : Nat, i ≠ 3 → i ≠ 4 → Z' (a + 116) i = Z (a + 116) i) : Cch x Z' a S.nw σ := by
  have ns : ∀ b, b ≤ a + 13 ∨ (a + 40 ≤ b ∧ b ≤ a + 50) ∨ (a + 68 ≤ b ∧ b ≤ a + 117) ∨ (a + 119 ≤ b ∧ b ≤ a + 225) ∨ (a + 229 ≤ b ∧ b ≤ a + 234) ∨ b = a + 279 ∨ b = a + 280 → ¬ Scr a b := fun b hb hs => by
    unfold Scr at hs; omega
  unfold Cch at h ⊢
  rw [h0 a (ns _ (by omega)) (by omega) (by omega)]
  rcases h with h | ⟨c, hc, g1, g2, g3, g4, g5, g6, g7⟩
  · exact Or.inl h
  · have hp := (hV.1.2.2.2.2.2.2.2.1 c g1).1
    refine Or.inr ⟨c, hc, g1, g2.kept (fun b b1 b2 => h0 b (ns _ (by omega)) (by omega) (by omega)) h40, g3, g4, ?_, ?_, ?_⟩
    · rw [h0 (a + 229) (ns _ (by omega)) (by omega) (by omega)]; exact g5
    · unfold LstC at g6 ⊢
      rw [h0 (a + 229) (ns _ (by omega)) (by omega) (by omega)]
      rcases g6 with e | ⟨e, g⟩
      · exact Or.inl e
      · exact Or.inr ⟨e, g.kept (h0 (a + 229) (ns _ (by omega)) (by omega) (by omega)) (h0 (a + 229 + 50) (ns _ (by omega)) (by omega) (by omega)) (h0 (a + 229 + 51) (ns _ (by omega)) (by omega) (by omega))⟩
    · unfold SumC at g7 ⊢
      rw [h0 a (ns _ (by omega)) (by omega) (by omega)]
      rcases g7 with g7 | ⟨s, q1, q2, q3, q4, q5⟩
      · exact Or.inl g7
      · refine Or.inr ⟨s, q1, q2, q3, q4.kept hp (fun b b1 b2 => h0 b (ns _ (by omega)) (by omega) (by omega)), ?_⟩
        rcases q5 with e | ⟨e, w1, w2⟩
        · exact Or.inl e
        · refine Or.inr ⟨e, w1.kept hp (fun i hi => h116 i (by omega) (by omega)) (fun b hb => h0 b (ns _ (by omega)) (by omega) (by omega)), ?_⟩
          rw [h116 7 (by decide) (by decide), h0 (a + 116 + 1) (ns _ (by omega)) (by omega) (by omega)]; exact w2
theorem OI.scr {x : Wx} {Z Z' : Zt} {a : Nat} {S : Ab} (h : OI x Z a S) (h0 : ∀ b, ¬ Scr a b → b ≠ a + 40 → b ≠ a + 116 → Z' b = Z b) (h40 : ∀ i : Nat, i < 14 → Z' (a + 40) i = Z (a + 40) i) (h116 : ∀ i : Nat, i ≠ 3 → i ≠ 4 → Z' (a + 116) i = Z (a + 116) i) : OI x Z' a S ∧ Fx a x x Z Z' := by
  obtain ⟨o, hk, hr, ht, hi, hV, σ, hl, hc⟩ := h
  have f : Fx a x x Z Z' := ⟨rfl, rfl, fun b hb => ⟨rfl, h0 b (fun hs => by unfold Scr at hs; omega) (by omega) (by omega)⟩, rfl⟩
  exact ⟨⟨o, hk.fx f, hr, ht.kept (fun b b1 b2 => h0 b (fun hs => by unfold Scr at hs; omega) (by omega) (by omega)), hi.fx f, hV, σ, hl, Cch.kept hV hc h0 h40 h116⟩, f⟩
theorem crvR_pd {r : Nat → Int} (h : CrvR r) : CF (r 0) (gen (crvF r)) (crvF r) ∧ pd (crvF r) = r 1 := by
  obtain ⟨hp, hd, hc, hl, hz, _⟩ := h
  have hpr := hp.rg
  obtain ⟨d, hd'⟩ : ∃ d : Nat, r 1 = (d : Int) := ⟨(r 1).toNat, by omega⟩
  have hv : ∀ i : Nat, i ≤ d → crvF r i = r (2 + i) := fun i hi => by
    have := hc i (by omega)
    unfold crvF ptak
    rw [hd', Int.toNat_natCast, if_pos (by omega), Int.emod_eq_of_lt this.1 this.2]
  have hh : ∀ i : Nat, d < i → crvF r i = 0 := fun i hi => by
    unfold crvF ptak
    rw [hd', Int.toNat_natCast, if_neg (by omega)]
  have hpd : pd (crvF r) = (d : Int) := pd_eq (by omega) (by rw [hv d (by omega)]; rw [hd', Int.toNat_natCast] at hl; exact hl) hh
  have hg : gen (crvF r) = if pd (crvF r) ≤ 3 then 1 else 2 := rfl
  refine ⟨⟨hp, fun i => ?_, fun i hi => hh i (by omega), ?_, ?_⟩, by omega⟩
  · by_cases ci : i ≤ d
    · rw [hv i ci]; exact hc i (by omega)
    · rw [hh i (by omega)]; omega
  · rw [hg, hpd]; split <;> omega
  · rw [hg]; split <;> omega
theorem crvR_rg {r : Nat → Int} (h : CrvR r) (i : Nat) (hi : i < 26) : Rg (r i) := by
  obtain ⟨hp, hd, hc, hl, hz, _⟩ := h
  have hpr := hp.rg
  by_cases c0 : i = 0
  · rw [c0]; exact ⟨by omega, by omega⟩
  · by_cases c1 : i = 1
    · rw [c1]; exact ⟨by omega, by omega⟩
    · by_cases c2 : r 1 + 2 < (i : Int)
      · rw [hz i hi c2]; exact ⟨by decide, by decide⟩
      · have := hc (i - 2) (by omega)
        rw [show 2 + (i - 2) = i by omega] at this
        exact ⟨by omega, by omega⟩
theorem ptak_ext {p : Int} {r r' : Nat → Int} {s t : Nat} (h : ∀ i : Nat, i < 26 → r i = r' i) (hs : s + t < 26) : ptak p r s t = ptak p r' s t := by
  funext i
  unfold ptak
  by_cases c : i ≤ t
  · rw [h (s + i) (by omega)]
  · rw [if_neg c, if_neg c]
theorem dX11_isReady_0 : decode cX11_isReady 0 = .ok (.aload_n 0, 1) := by decide +kernel
theorem dX11_isReady_1 : decode cX11_isReady 1 = .ok (.getfield 10, 3) := by decide +kernel
theorem dX11_isReady_4 : decode cX11_isReady 4 = .ok (.iconst 0, 1) := by decide +kernel
theorem dX11_isReady_5 : decode cX11_isReady 5 = .ok (.iload_n 1, 1) := by decide +kernel
theorem dX11_isReady_6 : decode cX11_isReady 6 = .ok (.invokevirtual 129, 3) := by decide +kernel
theorem dX11_isReady_9 : decode cX11_isReady 9 = .ok (.astore_n 2, 1) := by decide +kernel
theorem dX11_isReady_10 : decode cX11_isReady 10 = .ok (.aload_n 2, 1) := by decide +kernel
theorem dX11_isReady_11 : decode cX11_isReady 11 = .ok (.ifnonnull 5, 3) := by decide +kernel
theorem dX11_isReady_14 : decode cX11_isReady 14 = .ok (.iconst 0, 1) := by decide +kernel
theorem dX11_isReady_15 : decode cX11_isReady 15 = .ok (.ireturn, 1) := by decide +kernel
theorem dX11_isReady_16 : decode cX11_isReady 16 = .ok (.aload_n 0, 1) := by decide +kernel
theorem dX11_isReady_17 : decode cX11_isReady 17 = .ok (.getfield 102, 3) := by decide +kernel
theorem dX11_isReady_20 : decode cX11_isReady 20 = .ok (.iload_n 1, 1) := by decide +kernel
theorem dX11_isReady_21 : decode cX11_isReady 21 = .ok (.if_icmp .eq 31, 3) := by decide +kernel
theorem dX11_isReady_24 : decode cX11_isReady 24 = .ok (.aload_n 0, 1) := by decide +kernel
theorem dX11_isReady_25 : decode cX11_isReady 25 = .ok (.invokevirtual 149, 3) := by decide +kernel
theorem dX11_isReady_28 : decode cX11_isReady 28 = .ok (.aload_n 0, 1) := by decide +kernel
theorem dX11_isReady_29 : decode cX11_isReady 29 = .ok (.getfield 60, 3) := by decide +kernel
theorem dX11_isReady_32 : decode cX11_isReady 32 = .ok (.aload_n 2, 1) := by decide +kernel
theorem dX11_isReady_33 : decode cX11_isReady 33 = .ok (.invokevirtual 378, 3) := by decide +kernel
theorem dX11_isReady_36 : decode cX11_isReady 36 = .ok (.aload_n 0, 1) := by decide +kernel
theorem dX11_isReady_37 : decode cX11_isReady 37 = .ok (.getfield 88, 3) := by decide +kernel
theorem dX11_isReady_40 : decode cX11_isReady 40 = .ok (.aload_n 0, 1) := by decide +kernel
theorem dX11_isReady_41 : decode cX11_isReady 41 = .ok (.getfield 60, 3) := by decide +kernel
theorem dX11_isReady_44 : decode cX11_isReady 44 = .ok (.invokevirtual 382, 3) := by decide +kernel
theorem dX11_isReady_47 : decode cX11_isReady 47 = .ok (.aload_n 0, 1) := by decide +kernel
theorem dX11_isReady_48 : decode cX11_isReady 48 = .ok (.iload_n 1, 1) := by decide +kernel
theorem dX11_isReady_49 : decode cX11_isReady 49 = .ok (.putfield 102, 3) := by decide +kernel
theorem dX11_isReady_52 : decode cX11_isReady 52 = .ok (.iconst 1, 1) := by decide +kernel
theorem dX11_isReady_53 : decode cX11_isReady 53 = .ok (.ireturn, 1) := by decide +kernel
set_option maxRecDepth 20000 in
theorem b_X11_isReady_0 {k n : Nat} {x : Wx} {Z : Zt} {Q : Option Value → Wx → Zt → Prop} {a0 : Nat} {v1 : Int} (o_a0 : Is11 x a0)
    (h : KS x ∧ KW x Z ∧ (0 ≤ (0 : Int) ∧ (0 : Int) < 3) ∧ Rg v1 ∧ (0 ≤ Z ((a0 + 1) + 2) (Int.toNat (0 : Int)) ∧ Z ((a0 + 1) + 2) (Int.toNat (0 : Int)) ≤ mstr (0 : Int)) ∧ (((rowQ (a0 + 1) (0 : Int) v1 (Z ((a0 + 1) + 2) (Int.toNat (0 : Int))) = none → (Q (some (i_ 0)) x Z)) ∧ (∀ b1, rowQ (a0 + 1) (0 : Int) v1 (Z ((a0 + 1) + 2) (Int.toNat (0 : Int))) = some b1 → (x.1 b1 = some (100, 26) ∧ (Rg (Z a0 14) ∧ (((Z a0 14 = v1) → (V mX11_isReady k n 52 [none, none, none] [] x Z Q)) ∧ ((Z a0 14 ≠ v1) → (∀ Z1 : Zt, Z1 = fgt Z a0 → (IsP (Z1 b1 0) ∧ (0 ≤ Z1 b1 1 ∧ Z1 b1 1 ≤ 9) ∧ (∀ i : Nat, i < 26 → Rg (Z1 b1 i)) ∧ (b1 < (a0 + 40) ∨ (a0 + 40) + 16 ≤ b1) ∧ (∀ (Z'1 : Zt), (CvA Z'1 (a0 + 40) (Z1 b1 0) (ptak (Z1 b1 0) (Z1 b1) 2 (Z1 b1 1).toNat) ∧ Oth Z1 Z'1 (fun b => (a0 + 40) ≤ b ∧ b < (a0 + 40) + 16)) → ((a0 + 40) + 16 ≤ (a0 + 229) ∧ (∀ (x'1 : Wx) (Z'2 : Zt), (x'1 = bgX x (a0 + 229) (a0 + 40) ∧ (Z'2 (a0 + 229) = fun i => if i = 0 then 0 else if i = 3 then Z'1 (a0 + 40) 2 else Z'1 (a0 + 229) i) ∧ Oth Z'1 Z'2 (fun b => b = (a0 + 229))) → (Is11 x'1 a0 ∧ (∀ Z2 : Zt, Z2 = up Z'2 a0 14 v1 → (V mX11_isReady k n 52 [none, none, none] [] x'1 Z2 Q)))))))))))))))) :
    V mX11_isReady k n 0 [some (r_ a0), some (i_ v1), none] [] x Z Q :=
  V_aload_n dX11_isReady_0 rfl (G_11_0 o_a0.1 o_a0.qR0 lf_11_10 dX11_isReady_1 (V_iconst dX11_isReady_4 (V_iload_n dX11_isReady_5 rfl (V_callV (k' := 0) (n' := 0) (t := 10) (q := (RX10, TX10, 6)) [i_ 0, i_ v1] [] okX10_row o_a0.qK0.1 rfl rfl lm_11_129 liX10_row lqX10_row (Nat.le_of_ble_eq_true rfl) (Nat.le_of_ble_eq_true rfl) (Nat.le_of_ble_eq_true rfl) (cat_of rfl) (Nat.le_of_ble_eq_true rfl) (Nat.zero_le _) (Nat.zero_le _) rfl dX11_isReady_6 (sp_X10_row2 o_a0.qK0 h.1 h.2.1 h.2.2.1 h.2.2.2.1 h.2.2.2.2.1 (V_q (fun c1 => V_astoreq_n (r := none) (lv' := [some (r_ a0), some (i_ v1), some (Value.null)]) dX11_isReady_9 (Nat.le_of_ble_eq_true rfl) rfl (V_aloadq_n (r := none) dX11_isReady_10 rfl (V_ifnonnull_n dX11_isReady_11 (V_iconst dX11_isReady_14 (V_iret (ty := .boolean) dX11_isReady_15 rfl rfl (h.2.2.2.2.2.1 c1)))))) (fun b1 c2 => have s1 := (h.2.2.2.2.2.2 b1 c2).1; V_astore_n (lv' := [some (r_ a0), some (i_ v1), some (r_ b1)]) dX11_isReady_9 (Nat.le_of_ble_eq_true rfl) rfl (V_aload_n dX11_isReady_10 rfl (V_ifnonnull_r (tgt := 16) dX11_isReady_11 rfl (V_aload_n dX11_isReady_16 rfl (G_11_14 o_a0.1 lf_11_102 dX11_isReady_17 (V_iload_n dX11_isReady_20 rfl (V_icmp_eq (tgt := 52) dX11_isReady_21 rfl (h.2.2.2.2.2.2 b1 c2).2.1 h.2.2.2.1 (fun c3 => V_msk [false, false, false] rfl ((h.2.2.2.2.2.2 b1 c2).2.2.1 c3)) (fun c3 => V_aload_n dX11_isReady_24 rfl (V_callV (k' := 0) (n' := 0) (t := 11) (q := (RX11, TX11, 17)) [] [] okX11_forget o_a0.1 rfl rfl lm_11_149 liX11_forget lqX11_forget (Nat.le_of_ble_eq_true rfl) (Nat.le_of_ble_eq_true rfl) (Nat.le_of_ble_eq_true rfl) (cat_of rfl) (Nat.le_of_ble_eq_true rfl) (Nat.zero_le _) (Nat.zero_le _) rfl dX11_isReady_25 (sp_X11_forget o_a0  (V_nmZ (fun Z1 eZ1 => V_aload_n dX11_isReady_28 rfl (G_11_7 o_a0.1 o_a0.qR7 lf_11_60 dX11_isReady_29 (V_aload_n dX11_isReady_32 rfl (V_callV (k' := 0) (n' := 0) (t := 2) (q := (RX2, TX2, 17)) [r_ b1] [] okX2_load o_a0.qK7.1 rfl rfl lm_11_378 liX2_load lqX2_load (Nat.le_of_ble_eq_true rfl) (Nat.le_of_ble_eq_true rfl) (Nat.le_of_ble_eq_true rfl) (cat_of rfl) (Nat.le_of_ble_eq_true rfl) (Nat.zero_le _) (Nat.zero_le _) rfl dX11_isReady_33 (sp_X2_load o_a0.qK7 s1 (((h.2.2.2.2.2.2 b1 c2).2.2.2 c3) Z1 eZ1).1 (((h.2.2.2.2.2.2 b1 c2).2.2.2 c3) Z1 eZ1).2.1 (((h.2.2.2.2.2.2 b1 c2).2.2.2 c3) Z1 eZ1).2.2.1 (((h.2.2.2.2.2.2 b1 c2).2.2.2 c3) Z1 eZ1).2.2.2.1 (fun Z'1 p1 => V_aload_n dX11_isReady_36 rfl (G_11_11 o_a0.1 o_a0.qR11 lf_11_88 dX11_isReady_37 (V_aload_n dX11_isReady_40 rfl (G_11_7 o_a0.1 o_a0.qR7 lf_11_60 dX11_isReady_41 (V_callV (k' := 0) (n' := 0) (t := 0) (q := (RX0, TX0, 18)) [r_ (a0 + 40)] [] okX0_begin o_a0.qK11.1 rfl rfl lm_11_382 liX0_begin lqX0_begin (Nat.le_of_ble_eq_true rfl) (Nat.le_of_ble_eq_true rfl) (Nat.le_of_ble_eq_true rfl) (cat_of rfl) (Nat.le_of_ble_eq_true rfl) (Nat.zero_le _) (Nat.zero_le _) rfl dX11_isReady_44 (sp_X0_begin o_a0.qK11 o_a0.qK7 ((((h.2.2.2.2.2.2 b1 c2).2.2.2 c3) Z1 eZ1).2.2.2.2 Z'1 p1).1 (fun x'1 Z'2 p2 => V_aload_n dX11_isReady_47 rfl (V_iload_n dX11_isReady_48 rfl (P_11_14 (((((h.2.2.2.2.2.2 b1 c2).2.2.2 c3) Z1 eZ1).2.2.2.2 Z'1 p1).2 x'1 Z'2 p2).1.1 lf_11_102 dX11_isReady_49 (V_nmZ (fun Z2 eZ2 => V_msk [false, false, false] rfl ((((((h.2.2.2.2.2.2 b1 c2).2.2.2 c3) Z1 eZ1).2.2.2.2 Z'1 p1).2 x'1 Z'2 p2).2 Z2 eZ2))))))))))))))))))))))))))))))))))
set_option maxRecDepth 20000 in
theorem b_X11_isReady_52 {k n : Nat} {x : Wx} {Z : Zt} {Q : Option Value → Wx → Zt → Prop}  
    (h : Q (some (i_ 1)) x Z) :
    V mX11_isReady k n 52 [none, none, none] [] x Z Q :=
  V_iconst dX11_isReady_52 (V_iret (ty := .boolean) dX11_isReady_53 rfl rfl h)
theorem qn {c : Prop} [Decidable c] {e : Nat} (h : (if c then some e else none) = (none : Option Nat)) : ¬ c := fun hc => by rw [if_pos hc] at h; cases h
theorem qs {c : Prop} [Decidable c] {e b : Nat} (h : (if c then some e else none) = some b) : c ∧ b = e := by
  by_cases hc : c
  · rw [if_pos hc] at h; cases h; exact ⟨hc, rfl⟩
  · rw [if_neg hc] at h; cases h
theorem OI.ct {x : Wx} {Z : Zt} {a : Nat} {S : Ab} (h : OI x Z a S) : Z (a + 1 + 2) 0 = S.nw.ct 0 ∧ Z (a + 1 + 2) 1 = S.nw.ct 1 ∧ Z (a + 1 + 2) 2 = S.nw.ct 2 := ⟨h.2.2.2.1.2.2.1 0 (by decide), h.2.2.2.1.2.2.1 1 (by decide), h.2.2.2.1.2.2.1 2 (by decide)⟩
theorem OI.row {x : Wx} {Z : Zt} {a : Nat} {S : Ab} (h : OI x Z a S) {r : Nat} (hr : r < 8) : x.1 (a + 1 + 4 + r) = some (100, 26) ∧ Z (a + 1 + 4 + r) = S.nw.rw r := ⟨(h.1.2.2.1.2.2.2.2.2.2.2 r hr).2, h.2.2.2.1.2.2.2 r hr⟩
theorem bI_t {c : Prop} [Decidable c] (h : c) : bI (decide c) = 1 := by rw [decide_eq_true h]; rfl
theorem bI_f {c : Prop} [Decidable c] (h : ¬ c) : bI (decide c) = 0 := by rw [decide_eq_false h]; rfl
theorem sp_X11_isReady {k n : Nat} {x : Wx} {Z : Zt} {Q : Option Value → Wx → Zt → Prop} {a : Nat} {v : Int} (o : Is11 x a) {S : Ab} (hI : OI x Z a S) (hv : Rg v) (h : ∀ (x' : Wx) (Z' : Zt) (r : Int), (OI x' Z' a S ∧ Fx a x x' Z Z' ∧ r = bI (decide (0 ≤ v ∧ v < S.nw.ct 0)) ∧ ((0 ≤ v ∧ v < S.nw.ct 0) → Z' a 14 = v)) → Q (some (i_ r)) x' Z') : V mX11_isReady k n 0 [some (r_ a), some (i_ v), none] [] x Z Q := by
  obtain ⟨_, hk, hr, ht, hi, hV, σ, hl, hc⟩ := id hI
  have hct := hI.ct
  have hcr := hV.1.2.2.2.2.1
  refine b_X11_isReady_0 o ?_
  rw [show Z (a + 1 + 2) (Int.toNat (0 : Int)) = S.nw.ct 0 from hct.1]
  refine ⟨hk.1, hk.2.1, by decide, hv, ⟨by omega, by show S.nw.ct 0 ≤ 2; omega⟩, fun hn => ?_, fun b hb => ?_⟩
  · have := rqn hn
    exact h x Z 0 ⟨hI, Fx.rf, (bI_f this).symm, fun hh => absurd hh this⟩
  · obtain ⟨hc1, hb1⟩ := rqs hb
    obtain ⟨c, hcv⟩ : ∃ c : Nat, v = (c : Int) := ⟨v.toNat, by omega⟩
    have hbe : b = a + 1 + 4 + c := by rw [hb1, hcv]; show a + 1 + 4 + (0 + (c : Int)).toNat = _; omega
    have hrow := hI.row (r := c) (by omega)
    have h14 : Rg (Z a 14) := by
      rcases hc with ⟨e, _⟩ | ⟨c', e, e2⟩
      · rw [e]; exact ⟨by decide, by decide⟩
      · have := e2.1; rw [e]; exact ⟨by omega, by omega⟩
    have fin : ∀ (x' : Wx) (Z' : Zt), OI x' Z' a S → Fx a x x' Z Z' → Z' a 14 = v → V mX11_isReady k n 52 [none, none, none] [] x' Z' Q := fun x' Z' h1 h2 h3 => b_X11_isReady_52 (h x' Z' 1 ⟨h1, h2, (bI_t hc1).symm, fun _ => h3⟩)
    rw [hbe]
    refine ⟨hrow.1, h14, fun c3 => fin x Z hI Fx.rf c3, fun c3 Z1 e1 => ?_⟩
    have hC := hV.1.2.2.2.2.2.2.2.1 c (by omega)
    have hCd := hC.2.1
    have er : Z1 (a + 1 + 4 + c) = S.nw.rw c := by rw [e1, fgt_row _ _ (by omega)]; exact hrow.2
    rw [er]
    refine ⟨hC.1, by omega, fun i hi => crvR_rg hC i hi, Or.inl (by omega), fun Z2 hz2 => ⟨by omega, fun x3 Z3 hz3 => ?_⟩⟩
    obtain ⟨g1, g2⟩ := hz2
    obtain ⟨f1, f2, f3⟩ := hz3
    have hne : ∀ b j : Nat, ¬ (b = a + 229 ∧ (j = 1 ∨ j = 2)) → x3.2.1 b j = x.2.1 b j := fun b j hb => by rw [f1]; exact bgX_ne _ _ _ hb
    have hx1 : x3.1 = x.1 := by rw [f1]; rfl
    have o3 : Is11 x3 a := o.mv hx1 (fun b j _ _ g3 => hne b j (fun e => g3 (Or.inr (Or.inr e))))
    refine ⟨o3, fun Z4 e4 => ?_⟩
    have z4 : ∀ b, b ≠ a → b ≠ a + 229 → ¬ (a + 40 ≤ b ∧ b < a + 56) → Z4 b = Z b := fun b h1 h2 h3 => by
      rw [e4, up_row _ _ _ _ _ h1, f3 b h2, g2 b (by omega), e1, fgt_row _ _ h1]
    have f : Fx a x x3 Z Z4 := ⟨hx1, by rw [f1]; rfl, fun b hb => ⟨funext fun j => hne b j (by omega), z4 b (by omega) (by omega) (by omega)⟩, funext fun j => hne (a + 13) j (by omega)⟩
    refine fin x3 Z4 ⟨o3, hk.fx f, ?_, ht.kept (fun b b1 b2 => z4 b (by omega) (by omega) (by omega)), hi.fx f, hV, σ, ?_, Or.inr ⟨c, ?_, by omega, ?_, ?_, ?_, ?_, Or.inl ?_, Or.inl ⟨?_, ?_⟩⟩⟩ f ?_
    · rw [hne (a + 14) 3 (by omega)]; exact hr
    · refine ⟨fun i hi => ?_, hl.2⟩
      rw [hne (a + 68 + 5) i (by omega)]; exact hl.1 i hi
    · rw [e4, up_at, if_pos rfl, hcv]
    · refine (g1 : CvA Z2 (a + 40) (S.nw.rw c 0) (crvF (S.nw.rw c))).kept (fun b b1 b2 => ?_) (fun i _ => ?_)
      · rw [e4, up_row _ _ _ _ _ (by omega), f3 b (by omega)]
      · rw [e4, up_row _ _ _ _ _ (by omega), f3 _ (by omega)]
    · rw [f1]; exact bgX_1 _ _ _
    · rw [f1]; exact bgX_2 _ _ _
    · rw [e4, up_row _ _ _ _ _ (by omega), f2]; exact g1.2.2.2.1
    · rw [e4, up_row _ _ _ _ _ (by omega), f2]; rfl
    · rw [e4, up_at, if_neg (by decide), f3 a (by omega), g2 a (by omega), e1]; exact (fgt_at Z a).2.1
    · rw [e4, up_at, if_neg (by decide), f3 a (by omega), g2 a (by omega), e1]; exact (fgt_at Z a).2.2
    · rw [e4, up_at, if_pos rfl]
