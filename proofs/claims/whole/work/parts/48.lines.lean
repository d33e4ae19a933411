theorem dX9_bringUp_0 : decode cX9_bringUp 0 = .ok (.iload_n 2, 1) := by decide +kernel
theorem dX9_bringUp_1 : decode cX9_bringUp 1 = .ok (.istore_n 3, 1) := by decide +kernel
theorem dX9_bringUp_2 : decode cX9_bringUp 2 = .ok (.iload_n 3, 1) := by decide +kernel
theorem dX9_bringUp_3 : decode cX9_bringUp 3 = .ok (.aload_n 0, 1) := by decide +kernel
theorem dX9_bringUp_4 : decode cX9_bringUp 4 = .ok (.getfield 76, 3) := by decide +kernel
theorem dX9_bringUp_7 : decode cX9_bringUp 7 = .ok (.if_icmp .ge 50, 3) := by decide +kernel
theorem dX9_bringUp_10 : decode cX9_bringUp 10 = .ok (.aload_n 0, 1) := by decide +kernel
theorem dX9_bringUp_11 : decode cX9_bringUp 11 = .ok (.getfield 27, 3) := by decide +kernel
theorem dX9_bringUp_14 : decode cX9_bringUp 14 = .ok (.iload_n 3, 1) := by decide +kernel
theorem dX9_bringUp_15 : decode cX9_bringUp 15 = .ok (.aaload, 1) := by decide +kernel
theorem dX9_bringUp_16 : decode cX9_bringUp 16 = .ok (.iload_n 1, 1) := by decide +kernel
theorem dX9_bringUp_17 : decode cX9_bringUp 17 = .ok (.iaload, 1) := by decide +kernel
theorem dX9_bringUp_18 : decode cX9_bringUp 18 = .ok (.ifCond .eq 33, 3) := by decide +kernel
theorem dX9_bringUp_21 : decode cX9_bringUp 21 = .ok (.aload_n 0, 1) := by decide +kernel
theorem dX9_bringUp_22 : decode cX9_bringUp 22 = .ok (.getfield 27, 3) := by decide +kernel
theorem dX9_bringUp_25 : decode cX9_bringUp 25 = .ok (.iload_n 3, 1) := by decide +kernel
theorem dX9_bringUp_26 : decode cX9_bringUp 26 = .ok (.aaload, 1) := by decide +kernel
theorem dX9_bringUp_27 : decode cX9_bringUp 27 = .ok (.astore 4, 2) := by decide +kernel
theorem dX9_bringUp_29 : decode cX9_bringUp 29 = .ok (.aload_n 0, 1) := by decide +kernel
theorem dX9_bringUp_30 : decode cX9_bringUp 30 = .ok (.getfield 27, 3) := by decide +kernel
theorem dX9_bringUp_33 : decode cX9_bringUp 33 = .ok (.iload_n 3, 1) := by decide +kernel
theorem dX9_bringUp_34 : decode cX9_bringUp 34 = .ok (.aload_n 0, 1) := by decide +kernel
theorem dX9_bringUp_35 : decode cX9_bringUp 35 = .ok (.getfield 27, 3) := by decide +kernel
theorem dX9_bringUp_38 : decode cX9_bringUp 38 = .ok (.iload_n 2, 1) := by decide +kernel
theorem dX9_bringUp_39 : decode cX9_bringUp 39 = .ok (.aaload, 1) := by decide +kernel
theorem dX9_bringUp_40 : decode cX9_bringUp 40 = .ok (.aastore, 1) := by decide +kernel
theorem dX9_bringUp_41 : decode cX9_bringUp 41 = .ok (.aload_n 0, 1) := by decide +kernel
theorem dX9_bringUp_42 : decode cX9_bringUp 42 = .ok (.getfield 27, 3) := by decide +kernel
theorem dX9_bringUp_45 : decode cX9_bringUp 45 = .ok (.iload_n 2, 1) := by decide +kernel
theorem dX9_bringUp_46 : decode cX9_bringUp 46 = .ok (.aload 4, 2) := by decide +kernel
theorem dX9_bringUp_48 : decode cX9_bringUp 48 = .ok (.aastore, 1) := by decide +kernel
theorem dX9_bringUp_49 : decode cX9_bringUp 49 = .ok (.iconst 1, 1) := by decide +kernel
theorem dX9_bringUp_50 : decode cX9_bringUp 50 = .ok (.ireturn, 1) := by decide +kernel
theorem dX9_bringUp_51 : decode cX9_bringUp 51 = .ok (.iinc 3 1, 3) := by decide +kernel
theorem dX9_bringUp_54 : decode cX9_bringUp 54 = .ok (.goto (-52), 3) := by decide +kernel
theorem dX9_bringUp_57 : decode cX9_bringUp 57 = .ok (.iconst 0, 1) := by decide +kernel
theorem dX9_bringUp_58 : decode cX9_bringUp 58 = .ok (.ireturn, 1) := by decide +kernel
set_option maxRecDepth 20000 in
theorem b_X9_bringUp_0 {k n : Nat} {x : Wx} {Z : Zt} {Q : Option Value → Wx → Zt → Prop} {a0 : Nat} {v1 : Int} {v2 : Int} 
    (h : V mX9_bringUp k n 2 [some (r_ a0), some (i_ v1), some (i_ v2), some (i_ v2), none] [] x Z Q) :
    V mX9_bringUp k n 0 [some (r_ a0), some (i_ v1), some (i_ v2), none, none] [] x Z Q :=
  V_iload_n dX9_bringUp_0 rfl (V_istore_n (lv' := [some (r_ a0), some (i_ v1), some (i_ v2), some (i_ v2), none]) dX9_bringUp_1 (Nat.le_of_ble_eq_true rfl) rfl (V_msk [true, true, true, true, false] rfl h))
set_option maxRecDepth 20000 in
theorem b_X9_bringUp_2 {k n : Nat} {x : Wx} {Z : Zt} {Q : Option Value → Wx → Zt → Prop} {a0 : Nat} {v1 : Int} {v2 : Int} {v3 : Int} (o_a0 : Is9 x a0)
    (h : Rg v3 ∧ Rg (Z a0 9) ∧ (((Z a0 9 ≤ v3) → (Q (some (i_ 0)) x Z)) ∧ ((v3 < Z a0 9) → (0 ≤ v3 ∧ v3 < 40 ∧ (∃ b1, (x.2.1 (a0 + 5) v3.toNat = some b1 ∧ x.1 b1 = some (100, 90)) ∧ (0 ≤ v1 ∧ v1 < 90 ∧ (Rg (Z b1 v1.toNat) ∧ (((Z b1 v1.toNat = 0) → (V mX9_bringUp k n 2 [some (r_ a0), some (i_ v1), some (i_ v2), some (i_ (v3 + 1)), none] [] x Z Q)) ∧ ((Z b1 v1.toNat ≠ 0) → (∃ b2, (x.2.1 (a0 + 5) v3.toNat = some b2 ∧ x.1 b2 = some (100, 90)) ∧ (0 ≤ v2 ∧ v2 < 40 ∧ (∃ b3, (x.2.1 (a0 + 5) v2.toNat = some b3 ∧ x.1 b3 = some (100, 90)) ∧ (∀ x1 : Wx, x1 = (x.1, upR x.2.1 (a0 + 5) v3.toNat (some b3), x.2.2) → (Is9 x1 a0 ∧ x1.1 b2 = some (100, 90) ∧ (∀ x2 : Wx, x2 = (x1.1, upR x1.2.1 (a0 + 5) v2.toNat (some b2), x1.2.2) → (Q (some (i_ 1)) x2 Z)))))))))))))))) :
    V mX9_bringUp k n 2 [some (r_ a0), some (i_ v1), some (i_ v2), some (i_ v3), none] [] x Z Q :=
  V_iload_n dX9_bringUp_2 rfl (V_aload_n dX9_bringUp_3 rfl (G_9_9 o_a0.1 lf_9_76 dX9_bringUp_4 (V_icmp_ge (tgt := 57) dX9_bringUp_7 rfl h.1 h.2.1 (fun c1 => V_iconst dX9_bringUp_57 (V_iret (ty := .boolean) dX9_bringUp_58 rfl rfl (h.2.2.1 c1))) (fun c1 => V_aload_n dX9_bringUp_10 rfl (G_9_8 o_a0.1 o_a0.2.2.2.2.2.2.2.2.2.1 lf_9_27 dX9_bringUp_11 (V_iload_n dX9_bringUp_14 rfl (Exists.elim (h.2.2.2 c1).2.2 (fun b1 w1 => V_aaldR (t := 104) o_a0.2.2.2.2.2.2.2.2.2.2.1 (by decide) (fun _ _ => rfl) rfl (h.2.2.2 c1).1 (h.2.2.2 c1).2.1 (Nat.le_of_ble_eq_true rfl) w1.1.1 dX9_bringUp_15 (V_iload_n dX9_bringUp_16 rfl (V_iald (t := 100) w1.1.2 (by decide) rfl w1.2.1 w1.2.2.1 (Nat.le_of_ble_eq_true rfl) dX9_bringUp_17 (V_if_eq (tgt := 51) dX9_bringUp_18 rfl w1.2.2.2.1 (fun c2 => V_iinc (lv' := [some (r_ a0), some (i_ v1), some (i_ v2), some (i_ (v3 + 1)), none]) dX9_bringUp_51 rfl (Nat.le_of_ble_eq_true rfl) rfl (V_goto (tgt := 2) dX9_bringUp_54 rfl (V_msk [true, true, true, true, false] rfl (w1.2.2.2.2.1 c2)))) (fun c2 => V_aload_n dX9_bringUp_21 rfl (G_9_8 o_a0.1 o_a0.2.2.2.2.2.2.2.2.2.1 lf_9_27 dX9_bringUp_22 (V_iload_n dX9_bringUp_25 rfl (Exists.elim (w1.2.2.2.2.2 c2) (fun b2 w2 => V_aaldR (t := 104) o_a0.2.2.2.2.2.2.2.2.2.2.1 (by decide) (fun _ _ => rfl) rfl (h.2.2.2 c1).1 (h.2.2.2 c1).2.1 (Nat.le_of_ble_eq_true rfl) w2.1.1 dX9_bringUp_26 (V_astore (lv' := [some (r_ a0), some (i_ v1), some (i_ v2), some (i_ v3), some (r_ b2)]) dX9_bringUp_27 (Nat.le_of_ble_eq_true rfl) rfl (V_aload_n dX9_bringUp_29 rfl (G_9_8 o_a0.1 o_a0.2.2.2.2.2.2.2.2.2.1 lf_9_27 dX9_bringUp_30 (V_iload_n dX9_bringUp_33 rfl (V_aload_n dX9_bringUp_34 rfl (G_9_8 o_a0.1 o_a0.2.2.2.2.2.2.2.2.2.1 lf_9_27 dX9_bringUp_35 (V_iload_n dX9_bringUp_38 rfl (Exists.elim w2.2.2.2 (fun b3 w3 => V_aaldR (t := 104) o_a0.2.2.2.2.2.2.2.2.2.2.1 (by decide) (fun _ _ => rfl) rfl w2.2.1 w2.2.2.1 (Nat.le_of_ble_eq_true rfl) w3.1.1 dX9_bringUp_39 (V_aastA o_a0.2.2.2.2.2.2.2.2.2.2.1 w3.1.2 (h.2.2.2 c1).1 (h.2.2.2 c1).2.1 (Nat.le_of_ble_eq_true rfl) dX9_bringUp_40 (V_nmx (fun x1 ex1 => V_aload_n dX9_bringUp_41 rfl (G_9_8 (w3.2 x1 ex1).1.1 (w3.2 x1 ex1).1.2.2.2.2.2.2.2.2.2.1 lf_9_27 dX9_bringUp_42 (V_iload_n dX9_bringUp_45 rfl (V_aload dX9_bringUp_46 rfl (V_aastA (w3.2 x1 ex1).1.2.2.2.2.2.2.2.2.2.2.1 (w3.2 x1 ex1).2.1 w2.2.1 w2.2.2.1 (Nat.le_of_ble_eq_true rfl) dX9_bringUp_48 (V_nmx (fun x2 ex2 => V_iconst dX9_bringUp_49 (V_iret (ty := .boolean) dX9_bringUp_50 rfl rfl ((w3.2 x1 ex1).2.2 x2 ex2))))))))))))))))))))))))))))))))))))
/-! ===== Room: the lines, solved ===== -/
/-- the first line from l on that has the column -/
def fstL (M : Nat → Nat → Int) (c : Nat) : Nat → Nat → Option Nat
  | 0, _ => none
  | m + 1, l => if M l c = 0 then fstL M c m (l + 1) else some l
theorem fstL_some {M : Nat → Nat → Int} {c : Nat} : ∀ {m l r : Nat}, fstL M c m l = some r → l ≤ r ∧ r < l + m ∧ M r c ≠ 0
  | 0, _, _, h => by cases h
  | m + 1, l, r, h => by
    unfold fstL at h
    by_cases e : M l c = 0
    · rw [if_pos e] at h
      have := fstL_some h
      exact ⟨by omega, by omega, this.2.2⟩
    · rw [if_neg e] at h
      cases h
      exact ⟨by omega, by omega, e⟩
theorem fstL_none {M : Nat → Nat → Int} {c : Nat} : ∀ {m l : Nat}, fstL M c m l = none → ∀ r : Nat, l ≤ r → r < l + m → M r c = 0
  | 0, _, _, r, h1, h2 => by omega
  | m + 1, l, h, r, h1, h2 => by
    unfold fstL at h
    by_cases e : M l c = 0
    · rw [if_pos e] at h
      by_cases e2 : r = l
      · rw [e2]; exact e
      · exact fstL_none h r (by omega) (by omega)
    · rw [if_neg e] at h; cases h
def swp (σ : Nat → Nat) (l r : Nat) : Nat → Nat := fun i => if i = r then σ l else if i = l then σ r else σ i
/-- the world in which the lines l and r have changed places -/
def swX (x : Wx) (s : Nat) (σ : Nat → Nat) (l r : Nat) : Wx := (x.1, upR (upR x.2.1 (s + 5) l (some (s + 6 + σ r))) (s + 5) r (some (s + 6 + σ l)), x.2.2)
theorem LnA.swap {x : Wx} {s : Nat} {σ : Nat → Nat} (h : LnA x s σ) {l r : Nat} (hl : l < 40) (hr : r < 40) : LnA (swX x s σ l r) s (swp σ l r) := by
  refine ⟨fun i hi => ?_, fun i j hi hj e => ?_⟩
  · unfold swX swp upR
    by_cases c1 : i = r
    · rw [if_pos c1]
      refine ⟨?_, (h.1 l hl).2⟩
      show (if s + 5 = s + 5 ∧ i = r then _ else _) = _
      rw [if_pos ⟨rfl, c1⟩]
    · rw [if_neg c1]
      by_cases c2 : i = l
      · rw [if_pos c2]
        refine ⟨?_, (h.1 r hr).2⟩
        show (if s + 5 = s + 5 ∧ i = r then _ else if s + 5 = s + 5 ∧ i = l then _ else _) = _
        rw [if_neg (fun e => c1 e.2), if_pos ⟨rfl, c2⟩]
      · rw [if_neg c2]
        refine ⟨?_, (h.1 i hi).2⟩
        show (if s + 5 = s + 5 ∧ i = r then _ else if s + 5 = s + 5 ∧ i = l then _ else _) = _
        rw [if_neg (fun e => c1 e.2), if_neg (fun e => c2 e.2)]
        exact (h.1 i hi).1
  · have key : ∀ a b : Nat, a < 40 → b < 40 → σ a = σ b → a = b := h.2
    unfold swp at e
    have kl := key i l hi hl
    have kr := key i r hi hr
    have kj := key j l hj hl
    have kjr := key j r hj hr
    have kij := key i j hi hj
    have klr := key l r hl hr
    by_cases c1 : i = r
    · rw [if_pos c1] at e
      by_cases c2 : j = r
      · omega
      · rw [if_neg c2] at e
        by_cases c3 : j = l
        · rw [if_pos c3] at e; have := klr e; omega
        · rw [if_neg c3] at e; have := kj e.symm; omega
    · rw [if_neg c1] at e
      by_cases c3 : i = l
      · rw [if_pos c3] at e
        by_cases c2 : j = r
        · rw [if_pos c2] at e; have := klr e.symm; omega
        · rw [if_neg c2] at e
          by_cases c4 : j = l
          · omega
          · rw [if_neg c4] at e; have := kjr e.symm; omega
      · rw [if_neg c3] at e
        by_cases c2 : j = r
        · rw [if_pos c2] at e; have := kl e; omega
        · rw [if_neg c2] at e
          by_cases c4 : j = l
          · rw [if_pos c4] at e; have := kr e; omega
          · rw [if_neg c4] at e; exact kij e
/-- the worlds differ in no more than what the cell q refers to -/
def Xs (x x' : Wx) (q : Nat) : Prop := x'.1 = x.1 ∧ x'.2.2 = x.2.2 ∧ ∀ b, b ≠ q → x'.2.1 b = x.2.1 b
theorem Xs.rf {x : Wx} {q : Nat} : Xs x x q := ⟨rfl, rfl, fun _ _ => rfl⟩
theorem Xs.tr {x x1 x2 : Wx} {q : Nat} (h : Xs x x1 q) (h2 : Xs x1 x2 q) : Xs x x2 q := ⟨h2.1.trans h.1, h2.2.1.trans h.2.1, fun b hb => (h2.2.2 b hb).trans (h.2.2 b hb)⟩
theorem swX_s (x : Wx) (s : Nat) (σ : Nat → Nat) (l r : Nat) : Xs x (swX x s σ l r) (s + 5) := ⟨rfl, rfl, fun b hb => funext fun i => by
  show (if b = s + 5 ∧ i = r then _ else if b = s + 5 ∧ i = l then _ else x.2.1 b i) = _
  rw [if_neg (fun e => hb e.1), if_neg (fun e => hb e.1)]⟩
theorem Is9.xs {x x' : Wx} {a q : Nat} (h : Is9 x a) (w : Xs x x' q) (hq : q ≠ a) : Is9 x' a := by
  unfold Is9 at h ⊢
  rw [w.1, w.2.2 a (by omega)]; exact h
theorem Is4.xs {x x' : Wx} {a q : Nat} (h : Is4 x a) (w : Xs x x' q) (hq : q ≠ a) : Is4 x' a := by
  unfold Is4 at h ⊢
  rw [w.1, w.2.2 a (by omega)]; exact h
theorem Is7.xs {x x' : Wx} {a q : Nat} (h : Is7 x a) (w : Xs x x' q) (hq : q ≠ a) : Is7 x' a := by
  unfold Is7 at h ⊢
  rw [w.1, w.2.2 a (by omega)]; exact h
theorem Is2.xs {x x' : Wx} {a q : Nat} (h : Is2 x a) (w : Xs x x' q) (hq : q < a ∨ a + 16 ≤ q) : Is2 x' a := by
  unfold Is2 at h ⊢
  rw [w.1, w.2.2 a (by omega)]
  refine ⟨h.1, h.2.1, h.2.2.1.xs w (by omega), h.2.2.2.1, h.2.2.2.2.1.xs w (by omega), h.2.2.2.2.2⟩
theorem sp_X9_bringUp {k n : Nat} {x : Wx} {Z : Zt} {Q : Option Value → Wx → Zt → Prop} {s : Nat} {v r : Int} (o : Is9 x s) {σ : Nat → Nat} {u : Nat} (hσ : LnA x s σ) (hu : Z s 9 = (u : Int) ∧ u ≤ 40) (hv : 0 ≤ v ∧ v < 90) (hr : 0 ≤ r ∧ r ≤ u) (hM : ∀ i : Nat, i < u → ∀ j : Nat, j < 90 → Rg (Z (s + 6 + σ i) j)) (h : ∀ (x' : Wx) (r' : Int), ((r' = 0 ∧ fstL (fun i j => Z (s + 6 + σ i) j) (Int.toNat v) (u - Int.toNat r) (Int.toNat r) = none ∧ x' = x) ∨ (∃ l : Nat, r' = 1 ∧ fstL (fun i j => Z (s + 6 + σ i) j) (Int.toNat v) (u - Int.toNat r) (Int.toNat r) = some l ∧ x' = swX x s σ l (Int.toNat r))) → Q (some (i_ r')) x' Z) : V mX9_bringUp k n 0 [some (r_ s), some (i_ v), some (i_ r), none, none] [] x Z Q := by
  have lp : ∀ (m l : Nat) (w : Int), w = l → Int.toNat r ≤ l → l + m = u → fstL (fun i j => Z (s + 6 + σ i) j) (Int.toNat v) (u - Int.toNat r) (Int.toNat r) = fstL (fun i j => Z (s + 6 + σ i) j) (Int.toNat v) m l → V mX9_bringUp k n 2 [some (r_ s), some (i_ v), some (i_ r), some (i_ w), none] [] x Z Q := by
    intro m
    induction m with
    | zero =>
      intro l w hw hl hm he
      refine b_X9_bringUp_2 o ?_
      rw [hu.1]
      exact ⟨⟨by omega, by omega⟩, ⟨by omega, by omega⟩, fun _ => h x 0 (Or.inl ⟨rfl, he, rfl⟩), fun c2 => by omega⟩
    | succ m ih =>
      intro l w hw hl hm he
      have hat := hσ.at o (i := l) (by omega)
      have hatr := hσ.at o (i := r.toNat) (by omega)
      have he2 : fstL (fun i j => Z (s + 6 + σ i) j) (Int.toNat v) (m + 1) l = if Z (s + 6 + σ l) v.toNat = 0 then fstL (fun i j => Z (s + 6 + σ i) j) (Int.toNat v) m (l + 1) else some l := rfl
      rw [he2] at he
      refine b_X9_bringUp_2 o ?_
      rw [hu.1, show w.toNat = l by omega]
      refine ⟨⟨by omega, by omega⟩, ⟨by omega, by omega⟩, fun c2 => by omega, fun _ => ⟨by omega, by omega, _, hat, hv.1, hv.2, hM l (by omega) _ (by omega), fun c3 => ih (l + 1) (w + 1) (by omega) (by omega) (by omega) ?_, fun c3 => ⟨_, hat, hr.1, by omega, _, hatr, fun x1 e1 => ⟨?_, ?_, fun x2 e2 => ?_⟩⟩⟩⟩
      · rw [if_pos c3] at he; exact he
      · refine o.xs (q := s + 5) ?_ (by omega)
        rw [e1]
        refine ⟨rfl, rfl, fun b hb => funext fun i => ?_⟩
        show (if b = s + 5 ∧ i = l then _ else x.2.1 b i) = _
        rw [if_neg (fun e => hb e.1)]
      · rw [e1]; exact hat.2
      · rw [if_neg c3] at he
        exact h x2 1 (Or.inr ⟨l, rfl, he, by rw [e2, e1]; rfl⟩)
  exact b_X9_bringUp_0 (lp (u - r.toNat) r.toNat r (by omega) (by omega) (by omega) rfl)
theorem dX9_clearColumn_0 : decode cX9_clearColumn 0 = .ok (.aload_n 0, 1) := by decide +kernel
theorem dX9_clearColumn_1 : decode cX9_clearColumn 1 = .ok (.getfield 27, 3) := by decide +kernel
theorem dX9_clearColumn_4 : decode cX9_clearColumn 4 = .ok (.iload_n 3, 1) := by decide +kernel
theorem dX9_clearColumn_5 : decode cX9_clearColumn 5 = .ok (.aaload, 1) := by decide +kernel
theorem dX9_clearColumn_6 : decode cX9_clearColumn 6 = .ok (.astore 4, 2) := by decide +kernel
theorem dX9_clearColumn_8 : decode cX9_clearColumn 8 = .ok (.aload_n 1, 1) := by decide +kernel
theorem dX9_clearColumn_9 : decode cX9_clearColumn 9 = .ok (.aload 4, 2) := by decide +kernel
theorem dX9_clearColumn_11 : decode cX9_clearColumn 11 = .ok (.iload_n 2, 1) := by decide +kernel
theorem dX9_clearColumn_12 : decode cX9_clearColumn 12 = .ok (.iaload, 1) := by decide +kernel
theorem dX9_clearColumn_13 : decode cX9_clearColumn 13 = .ok (.invokevirtual 144, 3) := by decide +kernel
theorem dX9_clearColumn_16 : decode cX9_clearColumn 16 = .ok (.istore 5, 2) := by decide +kernel
theorem dX9_clearColumn_18 : decode cX9_clearColumn 18 = .ok (.iload_n 2, 1) := by decide +kernel
theorem dX9_clearColumn_19 : decode cX9_clearColumn 19 = .ok (.istore 6, 2) := by decide +kernel
theorem dX9_clearColumn_21 : decode cX9_clearColumn 21 = .ok (.iload 6, 2) := by decide +kernel
theorem dX9_clearColumn_23 : decode cX9_clearColumn 23 = .ok (.aload_n 0, 1) := by decide +kernel
theorem dX9_clearColumn_24 : decode cX9_clearColumn 24 = .ok (.getfield 73, 3) := by decide +kernel
theorem dX9_clearColumn_27 : decode cX9_clearColumn 27 = .ok (.if_icmp .gt 26, 3) := by decide +kernel
theorem dX9_clearColumn_30 : decode cX9_clearColumn 30 = .ok (.aload 4, 2) := by decide +kernel
theorem dX9_clearColumn_32 : decode cX9_clearColumn 32 = .ok (.iload 6, 2) := by decide +kernel
theorem dX9_clearColumn_34 : decode cX9_clearColumn 34 = .ok (.aload_n 1, 1) := by decide +kernel
theorem dX9_clearColumn_35 : decode cX9_clearColumn 35 = .ok (.aload 4, 2) := by decide +kernel
theorem dX9_clearColumn_37 : decode cX9_clearColumn 37 = .ok (.iload 6, 2) := by decide +kernel
theorem dX9_clearColumn_39 : decode cX9_clearColumn 39 = .ok (.iaload, 1) := by decide +kernel
theorem dX9_clearColumn_40 : decode cX9_clearColumn 40 = .ok (.iload 5, 2) := by decide +kernel
theorem dX9_clearColumn_42 : decode cX9_clearColumn 42 = .ok (.imul, 1) := by decide +kernel
theorem dX9_clearColumn_43 : decode cX9_clearColumn 43 = .ok (.invokevirtual 99, 3) := by decide +kernel
theorem dX9_clearColumn_46 : decode cX9_clearColumn 46 = .ok (.iastore, 1) := by decide +kernel
theorem dX9_clearColumn_47 : decode cX9_clearColumn 47 = .ok (.iinc 6 1, 3) := by decide +kernel
theorem dX9_clearColumn_50 : decode cX9_clearColumn 50 = .ok (.goto (-29), 3) := by decide +kernel
theorem dX9_clearColumn_53 : decode cX9_clearColumn 53 = .ok (.iconst 0, 1) := by decide +kernel
theorem dX9_clearColumn_54 : decode cX9_clearColumn 54 = .ok (.istore 6, 2) := by decide +kernel
theorem dX9_clearColumn_56 : decode cX9_clearColumn 56 = .ok (.iload 6, 2) := by decide +kernel
theorem dX9_clearColumn_58 : decode cX9_clearColumn 58 = .ok (.aload_n 0, 1) := by decide +kernel
theorem dX9_clearColumn_59 : decode cX9_clearColumn 59 = .ok (.getfield 76, 3) := by decide +kernel
theorem dX9_clearColumn_62 : decode cX9_clearColumn 62 = .ok (.if_icmp .ge 82, 3) := by decide +kernel
theorem dX9_clearColumn_65 : decode cX9_clearColumn 65 = .ok (.aload_n 0, 1) := by decide +kernel
theorem dX9_clearColumn_66 : decode cX9_clearColumn 66 = .ok (.getfield 27, 3) := by decide +kernel
theorem dX9_clearColumn_69 : decode cX9_clearColumn 69 = .ok (.iload 6, 2) := by decide +kernel
theorem dX9_clearColumn_71 : decode cX9_clearColumn 71 = .ok (.aaload, 1) := by decide +kernel
theorem dX9_clearColumn_72 : decode cX9_clearColumn 72 = .ok (.iload_n 2, 1) := by decide +kernel
theorem dX9_clearColumn_73 : decode cX9_clearColumn 73 = .ok (.iaload, 1) := by decide +kernel
theorem dX9_clearColumn_74 : decode cX9_clearColumn 74 = .ok (.istore 7, 2) := by decide +kernel
theorem dX9_clearColumn_76 : decode cX9_clearColumn 76 = .ok (.iload 6, 2) := by decide +kernel
theorem dX9_clearColumn_78 : decode cX9_clearColumn 78 = .ok (.iload_n 3, 1) := by decide +kernel
theorem dX9_clearColumn_79 : decode cX9_clearColumn 79 = .ok (.if_icmp .eq 59, 3) := by decide +kernel
theorem dX9_clearColumn_82 : decode cX9_clearColumn 82 = .ok (.iload 7, 2) := by decide +kernel
theorem dX9_clearColumn_84 : decode cX9_clearColumn 84 = .ok (.ifCond .eq 54, 3) := by decide +kernel
theorem dX9_clearColumn_87 : decode cX9_clearColumn 87 = .ok (.iload_n 2, 1) := by decide +kernel
theorem dX9_clearColumn_88 : decode cX9_clearColumn 88 = .ok (.istore 8, 2) := by decide +kernel
theorem dX9_clearColumn_90 : decode cX9_clearColumn 90 = .ok (.iload 8, 2) := by decide +kernel
theorem dX9_clearColumn_92 : decode cX9_clearColumn 92 = .ok (.aload_n 0, 1) := by decide +kernel
theorem dX9_clearColumn_93 : decode cX9_clearColumn 93 = .ok (.getfield 73, 3) := by decide +kernel
theorem dX9_clearColumn_96 : decode cX9_clearColumn 96 = .ok (.if_icmp .gt 42, 3) := by decide +kernel
theorem dX9_clearColumn_99 : decode cX9_clearColumn 99 = .ok (.aload_n 0, 1) := by decide +kernel
theorem dX9_clearColumn_100 : decode cX9_clearColumn 100 = .ok (.getfield 27, 3) := by decide +kernel
theorem dX9_clearColumn_103 : decode cX9_clearColumn 103 = .ok (.iload 6, 2) := by decide +kernel
theorem dX9_clearColumn_105 : decode cX9_clearColumn 105 = .ok (.aaload, 1) := by decide +kernel
theorem dX9_clearColumn_106 : decode cX9_clearColumn 106 = .ok (.iload 8, 2) := by decide +kernel
theorem dX9_clearColumn_108 : decode cX9_clearColumn 108 = .ok (.aload_n 1, 1) := by decide +kernel
theorem dX9_clearColumn_109 : decode cX9_clearColumn 109 = .ok (.aload_n 0, 1) := by decide +kernel
theorem dX9_clearColumn_110 : decode cX9_clearColumn 110 = .ok (.getfield 27, 3) := by decide +kernel
theorem dX9_clearColumn_113 : decode cX9_clearColumn 113 = .ok (.iload 6, 2) := by decide +kernel
theorem dX9_clearColumn_115 : decode cX9_clearColumn 115 = .ok (.aaload, 1) := by decide +kernel
theorem dX9_clearColumn_116 : decode cX9_clearColumn 116 = .ok (.iload 8, 2) := by decide +kernel
theorem dX9_clearColumn_118 : decode cX9_clearColumn 118 = .ok (.iaload, 1) := by decide +kernel
theorem dX9_clearColumn_119 : decode cX9_clearColumn 119 = .ok (.iload 7, 2) := by decide +kernel
theorem dX9_clearColumn_121 : decode cX9_clearColumn 121 = .ok (.aload 4, 2) := by decide +kernel
theorem dX9_clearColumn_123 : decode cX9_clearColumn 123 = .ok (.iload 8, 2) := by decide +kernel
theorem dX9_clearColumn_125 : decode cX9_clearColumn 125 = .ok (.iaload, 1) := by decide +kernel
theorem dX9_clearColumn_126 : decode cX9_clearColumn 126 = .ok (.imul, 1) := by decide +kernel
theorem dX9_clearColumn_127 : decode cX9_clearColumn 127 = .ok (.isub, 1) := by decide +kernel
theorem dX9_clearColumn_128 : decode cX9_clearColumn 128 = .ok (.invokevirtual 99, 3) := by decide +kernel
theorem dX9_clearColumn_131 : decode cX9_clearColumn 131 = .ok (.iastore, 1) := by decide +kernel
theorem dX9_clearColumn_132 : decode cX9_clearColumn 132 = .ok (.iinc 8 1, 3) := by decide +kernel
theorem dX9_clearColumn_135 : decode cX9_clearColumn 135 = .ok (.goto (-45), 3) := by decide +kernel
theorem dX9_clearColumn_138 : decode cX9_clearColumn 138 = .ok (.iinc 6 1, 3) := by decide +kernel
theorem dX9_clearColumn_141 : decode cX9_clearColumn 141 = .ok (.goto (-85), 3) := by decide +kernel
theorem dX9_clearColumn_144 : decode cX9_clearColumn 144 = .ok (.return_, 1) := by decide +kernel
set_option maxRecDepth 20000 in
theorem b_X9_clearColumn_0 {k n : Nat} {x : Wx} {Z : Zt} {Q : Option Value → Wx → Zt → Prop} {a0 : Nat} {a1 : Nat} {v2 : Int} {v3 : Int} (o_a0 : Is9 x a0) (o_a1 : Is4 x a1)
    (h : 0 ≤ v3 ∧ v3 < 40 ∧ (∃ b1, (x.2.1 (a0 + 5) v3.toNat = some b1 ∧ x.1 b1 = some (100, 90)) ∧ (0 ≤ v2 ∧ v2 < 90 ∧ (0 ≤ (Z b1 v2.toNat) ∧ (Z b1 v2.toNat) < 13 ∧ (V mX9_clearColumn k n 21 [some (r_ a0), some (r_ a1), some (i_ v2), some (i_ v3), some (r_ b1), some (i_ (Z (a1 + 1) (Int.toNat (Z b1 v2.toNat)))), some (i_ v2), none, none] [] x Z Q))))) :
    V mX9_clearColumn k n 0 [some (r_ a0), some (r_ a1), some (i_ v2), some (i_ v3), none, none, none, none, none] [] x Z Q :=
  V_aload_n dX9_clearColumn_0 rfl (G_9_8 o_a0.1 o_a0.2.2.2.2.2.2.2.2.2.1 lf_9_27 dX9_clearColumn_1 (V_iload_n dX9_clearColumn_4 rfl (Exists.elim h.2.2 (fun b1 w1 => V_aaldR (t := 104) o_a0.2.2.2.2.2.2.2.2.2.2.1 (by decide) (fun _ _ => rfl) rfl h.1 h.2.1 (Nat.le_of_ble_eq_true rfl) w1.1.1 dX9_clearColumn_5 (V_astore (lv' := [some (r_ a0), some (r_ a1), some (i_ v2), some (i_ v3), some (r_ b1), none, none, none, none]) dX9_clearColumn_6 (Nat.le_of_ble_eq_true rfl) rfl (V_aload_n dX9_clearColumn_8 rfl (V_aload dX9_clearColumn_9 rfl (V_iload_n dX9_clearColumn_11 rfl (V_iald (t := 100) w1.1.2 (by decide) rfl w1.2.1 w1.2.2.1 (Nat.le_of_ble_eq_true rfl) dX9_clearColumn_12 (V_callV (k' := 0) (n' := 0) (t := 4) (q := (RX4, TX4, 4)) [i_ (Z b1 v2.toNat)] [] okX4_inverse o_a1.1 rfl rfl lm_9_144 liX4_inverse lqX4_inverse (Nat.le_of_ble_eq_true rfl) (Nat.le_of_ble_eq_true rfl) (Nat.le_of_ble_eq_true rfl) (cat_of rfl) (Nat.le_of_ble_eq_true rfl) (Nat.zero_le _) (Nat.zero_le _) rfl dX9_clearColumn_13 (sp_X4_inverse o_a1 w1.2.2.2.1 w1.2.2.2.2.1 (V_istore (lv' := [some (r_ a0), some (r_ a1), some (i_ v2), some (i_ v3), some (r_ b1), some (i_ (Z (a1 + 1) (Int.toNat (Z b1 v2.toNat)))), none, none, none]) dX9_clearColumn_16 (Nat.le_of_ble_eq_true rfl) rfl (V_iload_n dX9_clearColumn_18 rfl (V_istore (lv' := [some (r_ a0), some (r_ a1), some (i_ v2), some (i_ v3), some (r_ b1), some (i_ (Z (a1 + 1) (Int.toNat (Z b1 v2.toNat)))), some (i_ v2), none, none]) dX9_clearColumn_19 (Nat.le_of_ble_eq_true rfl) rfl (V_msk [true, true, true, true, true, true, true, false, false] rfl w1.2.2.2.2.2)))))))))))))))
set_option maxRecDepth 20000 in
theorem b_X9_clearColumn_21 {k n : Nat} {x : Wx} {Z : Zt} {Q : Option Value → Wx → Zt → Prop} {a0 : Nat} {a1 : Nat} {v2 : Int} {v3 : Int} {a4 : Nat} {v5 : Int} {v6 : Int} (o_a0 : Is9 x a0) (o_a1 : Is4 x a1) (s_a4 : x.1 a4 = some (100, 90))
    (h : Rg v6 ∧ Rg (Z a0 2) ∧ (((Z a0 2 < v6) → (V mX9_clearColumn k n 56 [some (r_ a0), some (r_ a1), some (i_ v2), some (i_ v3), some (r_ a4), none, some (i_ 0), none, none] [] x Z Q)) ∧ ((v6 ≤ Z a0 2) → (0 ≤ v6 ∧ v6 < 90 ∧ (Rg ((Z a4 v6.toNat) * v5) ∧ 2 ≤ Z a1 0 ∧ Z a1 0 ≤ 13 ∧ (∀ Z1 : Zt, Z1 = up Z a4 v6.toNat (((Z a4 v6.toNat) * v5) % Z a1 0) → (V mX9_clearColumn k n 21 [some (r_ a0), some (r_ a1), some (i_ v2), some (i_ v3), some (r_ a4), some (i_ v5), some (i_ (v6 + 1)), none, none] [] x Z1 Q))))))) :
    V mX9_clearColumn k n 21 [some (r_ a0), some (r_ a1), some (i_ v2), some (i_ v3), some (r_ a4), some (i_ v5), some (i_ v6), none, none] [] x Z Q :=
  V_iload dX9_clearColumn_21 rfl (V_aload_n dX9_clearColumn_23 rfl (G_9_2 o_a0.1 lf_9_73 dX9_clearColumn_24 (V_icmp_gt (tgt := 53) dX9_clearColumn_27 rfl h.1 h.2.1 (fun c1 => V_iconst dX9_clearColumn_53 (V_istore (lv' := [some (r_ a0), some (r_ a1), some (i_ v2), some (i_ v3), some (r_ a4), some (i_ v5), some (i_ 0), none, none]) dX9_clearColumn_54 (Nat.le_of_ble_eq_true rfl) rfl (V_msk [true, true, true, true, true, false, true, false, false] rfl (h.2.2.1 c1)))) (fun c1 => V_aload dX9_clearColumn_30 rfl (V_iload dX9_clearColumn_32 rfl (V_aload_n dX9_clearColumn_34 rfl (V_aload dX9_clearColumn_35 rfl (V_iload dX9_clearColumn_37 rfl (V_iald (t := 100) s_a4 (by decide) rfl (h.2.2.2 c1).1 (h.2.2.2 c1).2.1 (Nat.le_of_ble_eq_true rfl) dX9_clearColumn_39 (V_iload dX9_clearColumn_40 rfl (V_imul dX9_clearColumn_42 (V_callV (k' := 0) (n' := 0) (t := 4) (q := (RX4, TX4, 4)) [i_ ((Z a4 v6.toNat) * v5)] [i_ v6, r_ a4] okX4_rem o_a1.1 rfl rfl lm_9_99 liX4_rem lqX4_rem (Nat.le_of_ble_eq_true rfl) (Nat.le_of_ble_eq_true rfl) (Nat.le_of_ble_eq_true rfl) (cat_of rfl) (Nat.le_of_ble_eq_true rfl) (Nat.zero_le _) (Nat.zero_le _) rfl dX9_clearColumn_43 (sp_X4_rem o_a1 (h.2.2.2 c1).2.2.1 (h.2.2.2 c1).2.2.2.1 (h.2.2.2 c1).2.2.2.2.1 (V_iast (t := 100) s_a4 (by decide) (by decide) rfl (h.2.2.2 c1).1 (h.2.2.2 c1).2.1 (Nat.le_of_ble_eq_true rfl) dX9_clearColumn_46 (V_nmZ (fun Z1 eZ1 => V_iinc (lv' := [some (r_ a0), some (r_ a1), some (i_ v2), some (i_ v3), some (r_ a4), some (i_ v5), some (i_ (v6 + 1)), none, none]) dX9_clearColumn_47 rfl (Nat.le_of_ble_eq_true rfl) rfl (V_goto (tgt := 21) dX9_clearColumn_50 rfl (V_msk [true, true, true, true, true, true, true, false, false] rfl ((h.2.2.2 c1).2.2.2.2.2 Z1 eZ1)))))))))))))))))))
set_option maxRecDepth 20000 in
theorem b_X9_clearColumn_56 {k n : Nat} {x : Wx} {Z : Zt} {Q : Option Value → Wx → Zt → Prop} {a0 : Nat} {a1 : Nat} {v2 : Int} {v3 : Int} {a4 : Nat} {v6 : Int} (o_a0 : Is9 x a0)
    (h : Rg v6 ∧ Rg (Z a0 9) ∧ (((Z a0 9 ≤ v6) → (Q none x Z)) ∧ ((v6 < Z a0 9) → (0 ≤ v6 ∧ v6 < 40 ∧ (∃ b1, (x.2.1 (a0 + 5) v6.toNat = some b1 ∧ x.1 b1 = some (100, 90)) ∧ (0 ≤ v2 ∧ v2 < 90 ∧ (Rg v3 ∧ (((v6 = v3) → (V mX9_clearColumn k n 138 [some (r_ a0), some (r_ a1), some (i_ v2), some (i_ v3), some (r_ a4), none, some (i_ v6), none, none] [] x Z Q)) ∧ ((v6 ≠ v3) → (Rg (Z b1 v2.toNat) ∧ (((Z b1 v2.toNat = 0) → (V mX9_clearColumn k n 138 [some (r_ a0), some (r_ a1), some (i_ v2), some (i_ v3), some (r_ a4), none, some (i_ v6), none, none] [] x Z Q)) ∧ ((Z b1 v2.toNat ≠ 0) → (V mX9_clearColumn k n 90 [some (r_ a0), some (r_ a1), some (i_ v2), some (i_ v3), some (r_ a4), none, some (i_ v6), some (i_ (Z b1 v2.toNat)), some (i_ v2)] [] x Z Q))))))))))))) :
    V mX9_clearColumn k n 56 [some (r_ a0), some (r_ a1), some (i_ v2), some (i_ v3), some (r_ a4), none, some (i_ v6), none, none] [] x Z Q :=
  V_iload dX9_clearColumn_56 rfl (V_aload_n dX9_clearColumn_58 rfl (G_9_9 o_a0.1 lf_9_76 dX9_clearColumn_59 (V_icmp_ge (tgt := 144) dX9_clearColumn_62 rfl h.1 h.2.1 (fun c1 => V_ret dX9_clearColumn_144 rfl (h.2.2.1 c1)) (fun c1 => V_aload_n dX9_clearColumn_65 rfl (G_9_8 o_a0.1 o_a0.2.2.2.2.2.2.2.2.2.1 lf_9_27 dX9_clearColumn_66 (V_iload dX9_clearColumn_69 rfl (Exists.elim (h.2.2.2 c1).2.2 (fun b1 w1 => V_aaldR (t := 104) o_a0.2.2.2.2.2.2.2.2.2.2.1 (by decide) (fun _ _ => rfl) rfl (h.2.2.2 c1).1 (h.2.2.2 c1).2.1 (Nat.le_of_ble_eq_true rfl) w1.1.1 dX9_clearColumn_71 (V_iload_n dX9_clearColumn_72 rfl (V_iald (t := 100) w1.1.2 (by decide) rfl w1.2.1 w1.2.2.1 (Nat.le_of_ble_eq_true rfl) dX9_clearColumn_73 (V_istore (lv' := [some (r_ a0), some (r_ a1), some (i_ v2), some (i_ v3), some (r_ a4), none, some (i_ v6), some (i_ (Z b1 v2.toNat)), none]) dX9_clearColumn_74 (Nat.le_of_ble_eq_true rfl) rfl (V_iload dX9_clearColumn_76 rfl (V_iload_n dX9_clearColumn_78 rfl (V_icmp_eq (tgt := 138) dX9_clearColumn_79 rfl h.1 w1.2.2.2.1 (fun c2 => V_msk [true, true, true, true, true, false, true, false, false] rfl (w1.2.2.2.2.1 c2)) (fun c2 => V_iload dX9_clearColumn_82 rfl (V_if_eq (tgt := 138) dX9_clearColumn_84 rfl (w1.2.2.2.2.2 c2).1 (fun c3 => V_msk [true, true, true, true, true, false, true, false, false] rfl ((w1.2.2.2.2.2 c2).2.1 c3)) (fun c3 => V_iload_n dX9_clearColumn_87 rfl (V_istore (lv' := [some (r_ a0), some (r_ a1), some (i_ v2), some (i_ v3), some (r_ a4), none, some (i_ v6), some (i_ (Z b1 v2.toNat)), some (i_ v2)]) dX9_clearColumn_88 (Nat.le_of_ble_eq_true rfl) rfl (V_msk [true, true, true, true, true, false, true, true, true] rfl ((w1.2.2.2.2.2 c2).2.2 c3))))))))))))))))))))
set_option maxRecDepth 20000 in
theorem b_X9_clearColumn_90 {k n : Nat} {x : Wx} {Z : Zt} {Q : Option Value → Wx → Zt → Prop} {a0 : Nat} {a1 : Nat} {v2 : Int} {v3 : Int} {a4 : Nat} {v6 : Int} {v7 : Int} {v8 : Int} (o_a0 : Is9 x a0) (o_a1 : Is4 x a1) (s_a4 : x.1 a4 = some (100, 90))
    (h : Rg v8 ∧ Rg (Z a0 2) ∧ (((Z a0 2 < v8) → (V mX9_clearColumn k n 138 [some (r_ a0), some (r_ a1), some (i_ v2), some (i_ v3), some (r_ a4), none, some (i_ v6), none, none] [] x Z Q)) ∧ ((v8 ≤ Z a0 2) → (0 ≤ v6 ∧ v6 < 40 ∧ (∃ b1, (x.2.1 (a0 + 5) v6.toNat = some b1 ∧ x.1 b1 = some (100, 90)) ∧ (∃ b2, (x.2.1 (a0 + 5) v6.toNat = some b2 ∧ x.1 b2 = some (100, 90)) ∧ (0 ≤ v8 ∧ v8 < 90 ∧ (Rg ((Z b2 v8.toNat) - (v7 * (Z a4 v8.toNat))) ∧ 2 ≤ Z a1 0 ∧ Z a1 0 ≤ 13 ∧ (∀ Z1 : Zt, Z1 = up Z b1 v8.toNat (((Z b2 v8.toNat) - (v7 * (Z a4 v8.toNat))) % Z a1 0) → (V mX9_clearColumn k n 90 [some (r_ a0), some (r_ a1), some (i_ v2), some (i_ v3), some (r_ a4), none, some (i_ v6), some (i_ v7), some (i_ (v8 + 1))] [] x Z1 Q)))))))))) :
    V mX9_clearColumn k n 90 [some (r_ a0), some (r_ a1), some (i_ v2), some (i_ v3), some (r_ a4), none, some (i_ v6), some (i_ v7), some (i_ v8)] [] x Z Q :=
  V_iload dX9_clearColumn_90 rfl (V_aload_n dX9_clearColumn_92 rfl (G_9_2 o_a0.1 lf_9_73 dX9_clearColumn_93 (V_icmp_gt (tgt := 138) dX9_clearColumn_96 rfl h.1 h.2.1 (fun c1 => V_msk [true, true, true, true, true, false, true, false, false] rfl (h.2.2.1 c1)) (fun c1 => V_aload_n dX9_clearColumn_99 rfl (G_9_8 o_a0.1 o_a0.2.2.2.2.2.2.2.2.2.1 lf_9_27 dX9_clearColumn_100 (V_iload dX9_clearColumn_103 rfl (Exists.elim (h.2.2.2 c1).2.2 (fun b1 w1 => V_aaldR (t := 104) o_a0.2.2.2.2.2.2.2.2.2.2.1 (by decide) (fun _ _ => rfl) rfl (h.2.2.2 c1).1 (h.2.2.2 c1).2.1 (Nat.le_of_ble_eq_true rfl) w1.1.1 dX9_clearColumn_105 (V_iload dX9_clearColumn_106 rfl (V_aload_n dX9_clearColumn_108 rfl (V_aload_n dX9_clearColumn_109 rfl (G_9_8 o_a0.1 o_a0.2.2.2.2.2.2.2.2.2.1 lf_9_27 dX9_clearColumn_110 (V_iload dX9_clearColumn_113 rfl (Exists.elim w1.2 (fun b2 w2 => V_aaldR (t := 104) o_a0.2.2.2.2.2.2.2.2.2.2.1 (by decide) (fun _ _ => rfl) rfl (h.2.2.2 c1).1 (h.2.2.2 c1).2.1 (Nat.le_of_ble_eq_true rfl) w2.1.1 dX9_clearColumn_115 (V_iload dX9_clearColumn_116 rfl (V_iald (t := 100) w2.1.2 (by decide) rfl w2.2.1 w2.2.2.1 (Nat.le_of_ble_eq_true rfl) dX9_clearColumn_118 (V_iload dX9_clearColumn_119 rfl (V_aload dX9_clearColumn_121 rfl (V_iload dX9_clearColumn_123 rfl (V_iald (t := 100) s_a4 (by decide) rfl w2.2.1 w2.2.2.1 (Nat.le_of_ble_eq_true rfl) dX9_clearColumn_125 (V_imul dX9_clearColumn_126 (V_isub dX9_clearColumn_127 (V_callV (k' := 0) (n' := 0) (t := 4) (q := (RX4, TX4, 4)) [i_ ((Z b2 v8.toNat) - (v7 * (Z a4 v8.toNat)))] [i_ v8, r_ b1] okX4_rem o_a1.1 rfl rfl lm_9_99 liX4_rem lqX4_rem (Nat.le_of_ble_eq_true rfl) (Nat.le_of_ble_eq_true rfl) (Nat.le_of_ble_eq_true rfl) (cat_of rfl) (Nat.le_of_ble_eq_true rfl) (Nat.zero_le _) (Nat.zero_le _) rfl dX9_clearColumn_128 (sp_X4_rem o_a1 w2.2.2.2.1 w2.2.2.2.2.1 w2.2.2.2.2.2.1 (V_iast (t := 100) w1.1.2 (by decide) (by decide) rfl w2.2.1 w2.2.2.1 (Nat.le_of_ble_eq_true rfl) dX9_clearColumn_131 (V_nmZ (fun Z1 eZ1 => V_iinc (lv' := [some (r_ a0), some (r_ a1), some (i_ v2), some (i_ v3), some (r_ a4), none, some (i_ v6), some (i_ v7), some (i_ (v8 + 1))]) dX9_clearColumn_132 rfl (Nat.le_of_ble_eq_true rfl) rfl (V_goto (tgt := 90) dX9_clearColumn_135 rfl (V_msk [true, true, true, true, true, false, true, true, true] rfl (w2.2.2.2.2.2.2 Z1 eZ1)))))))))))))))))))))))))))))))
set_option maxRecDepth 20000 in
theorem b_X9_clearColumn_138 {k n : Nat} {x : Wx} {Z : Zt} {Q : Option Value → Wx → Zt → Prop} {a0 : Nat} {a1 : Nat} {v2 : Int} {v3 : Int} {a4 : Nat} {v6 : Int} 
    (h : V mX9_clearColumn k n 56 [some (r_ a0), some (r_ a1), some (i_ v2), some (i_ v3), some (r_ a4), none, some (i_ (v6 + 1)), none, none] [] x Z Q) :
    V mX9_clearColumn k n 138 [some (r_ a0), some (r_ a1), some (i_ v2), some (i_ v3), some (r_ a4), none, some (i_ v6), none, none] [] x Z Q :=
  V_iinc (lv' := [some (r_ a0), some (r_ a1), some (i_ v2), some (i_ v3), some (r_ a4), none, some (i_ (v6 + 1)), none, none]) dX9_clearColumn_138 rfl (Nat.le_of_ble_eq_true rfl) rfl (V_goto (tgt := 56) dX9_clearColumn_141 rfl (V_msk [true, true, true, true, true, false, true, false, false] rfl h))
/-- the column cleared by its pivot line r -/
def clrM (p : Int) (c po r u : Nat) (M : Nat → Nat → Int) : Nat → Nat → Int := fun i j => if j < c ∨ po < j then M i j else if i = r then M r j * inv p (M r c) % p else if i < u then (M i j - M i c * (M r j * inv p (M r c) % p)) % p else M i j
theorem clrM_rg {p : Int} (hp : 0 < p) {c po r u : Nat} {M : Nat → Nat → Int} {i j : Nat} (h : 0 ≤ M i j ∧ M i j < p) : 0 ≤ clrM p c po r u M i j ∧ clrM p c po r u M i j < p := by
  unfold clrM
  split
  · exact h
  · split
    · exact emr _ hp
    · split
      · exact emr _ hp
      · exact h
theorem sp_X9_clearColumn {k n : Nat} {x : Wx} {Z : Zt} {Q : Option Value → Wx → Zt → Prop} {s f : Nat} {v r : Int} (o : Is9 x s) (of : Is4 x f) {p : Int} {σ : Nat → Nat} {u po : Nat} (hp : IsP p) (hf : FA Z f p) (hσ : LnA x s σ) (hu : Z s 9 = (u : Int) ∧ u ≤ 40) (hpo : Z s 2 = (po : Int) ∧ po < 90) (hv : 0 ≤ v ∧ v ≤ po) (hr : 0 ≤ r ∧ r < u) (hM : ∀ i : Nat, i < u → ∀ j : Nat, j < 90 → 0 ≤ Z (s + 6 + σ i) j ∧ Z (s + 6 + σ i) j < p) (hne : Z (s + 6 + σ (Int.toNat r)) (Int.toNat v) ≠ 0) (hfs : f + 3 ≤ s ∨ s + 48 ≤ f) (h : ∀ Z' : Zt, ((∀ q : Nat, q < 40 → ∀ j : Nat, j < 90 → Z' (s + 6 + σ q) j = clrM p (Int.toNat v) po (Int.toNat r) u (fun i j => Z (s + 6 + σ i) j) q j) ∧ Oth Z Z' (fun b => s + 6 ≤ b ∧ b < s + 46)) → Q none x Z') : V mX9_clearColumn k n 0 [some (r_ s), some (r_ f), some (i_ v), some (i_ r), none, none, none, none, none] [] x Z Q := by
  have hpr := hp.rg
  obtain ⟨c, hc⟩ : ∃ c : Nat, v = (c : Int) := ⟨v.toNat, by omega⟩
  obtain ⟨t, ht⟩ : ∃ t : Nat, r = (t : Int) := ⟨r.toNat, by omega⟩
  rw [hc, Int.toNat_natCast, ht, Int.toNat_natCast] at h hne
  rw [hc] at hv ⊢
  rw [ht] at hr ⊢
  have hat := hσ.at o (i := t) (by omega)
  have hσr : ∀ q : Nat, q < 40 → s + 6 ≤ s + 6 + σ q ∧ s + 6 + σ q < s + 46 := fun q hq => by have := (hσ.1 q hq).2; omega
  have hσn : ∀ q r : Nat, q < 40 → r < 40 → q ≠ r → s + 6 + σ q ≠ s + 6 + σ r := fun q r hq hr hn he => hn (hσ.2 q r hq hr (by omega))
  have hrt := hσr t (by omega)
  generalize hMd : (fun i j => Z (s + 6 + σ i) j) = M at h
  have hMe : ∀ i j : Nat, Z (s + 6 + σ i) j = M i j := fun i j => by rw [← hMd]
  have hMr : ∀ i : Nat, i < u → ∀ j : Nat, j < 90 → 0 ≤ M i j ∧ M i j < p := fun i hi j hj => by rw [← hMe]; exact hM i hi j hj
  have hcr := hMr t (by omega) c (by omega)
  obtain ⟨w, hw⟩ : ∃ w : Int, inv p (M t c) = w := ⟨_, rfl⟩
  have hwr : 0 ≤ w ∧ w < p := by rw [hMe] at hne; rw [← hw]; have := inv_rg hp (a := M t c) (by omega); omega
  have hclr : ∀ i j : Nat, clrM p c po t u M i j = if j < c ∨ po < j then M i j else if i = t then M t j * w % p else if i < u then (M i j - M i c * (M t j * w % p)) % p else M i j := fun i j => by unfold clrM; rw [hw]
  -- the other lines
  have lp2 : ∀ (m l : Nat) (w6 : Int) (Z3 : Zt), w6 = l → l + m = u → Oth Z Z3 (fun b => s + 6 ≤ b ∧ b < s + 46) → (∀ q : Nat, q < 40 → ∀ j : Nat, j < 90 → Z3 (s + 6 + σ q) j = if q = t ∨ q < l then clrM p c po t u M q j else M q j) → V mX9_clearColumn k n 56 [some (r_ s), some (r_ f), some (i_ (c : Int)), some (i_ (t : Int)), some (r_ (s + 6 + σ t)), none, some (i_ w6), none, none] [] x Z3 Q := by
    intro m
    induction m with
    | zero =>
      intro l w6 Z3 hw6 hl ho hz
      refine b_X9_clearColumn_56 o ?_
      rw [ho s (by omega), hu.1]
      refine ⟨⟨by omega, by omega⟩, ⟨by omega, by omega⟩, fun _ => h Z3 ⟨fun q hq j hj => ?_, ho⟩, fun c2 => by omega⟩
      rw [hz q hq j hj]
      by_cases c3 : q = t ∨ q < l
      · rw [if_pos c3]
      · rw [if_neg c3, hclr]
        split
        · rfl
        · rw [if_neg (by omega), if_neg (by omega)]
    | succ m ih =>
      intro l w6 Z3 hw6 hl ho hz
      have hl40 : l < 40 := by omega
      have hrl := hσr l hl40
      have hatl := hσ.at o hl40
      have tail : ∀ Z4 : Zt, Oth Z Z4 (fun b => s + 6 ≤ b ∧ b < s + 46) → (∀ q : Nat, q < 40 → ∀ j : Nat, j < 90 → Z4 (s + 6 + σ q) j = if q = t ∨ q < l + 1 then clrM p c po t u M q j else M q j) → V mX9_clearColumn k n 138 [some (r_ s), some (r_ f), some (i_ (c : Int)), some (i_ (t : Int)), some (r_ (s + 6 + σ t)), none, some (i_ w6), none, none] [] x Z4 Q := fun Z4 h4 h5 => b_X9_clearColumn_138 (ih (l + 1) (w6 + 1) Z4 (by omega) (by omega) h4 h5)
      have hlc : l ≠ t → Z3 (s + 6 + σ l) c = M l c := fun e => by rw [hz l hl40 c (by omega), if_neg (by omega)]
      refine b_X9_clearColumn_56 o ?_
      rw [ho s (by omega), hu.1, show w6.toNat = l by omega, Int.toNat_natCast]
      refine ⟨⟨by omega, by omega⟩, ⟨by omega, by omega⟩, fun c2 => by omega, fun _ => ⟨by omega, by omega, _, hatl, by omega, by omega, ⟨by omega, by omega⟩, fun c3 => tail Z3 ho (fun q hq j hj => ?_), fun c3 => ?_⟩⟩
      · rw [hz q hq j hj]
        by_cases c4 : q = t ∨ q < l
        · rw [if_pos c4, if_pos (by omega)]
        · rw [if_neg c4, if_neg (by omega)]
      · have hlt : l ≠ t := by omega
        have hMl := hMr l (by omega)
        have hlcr := hMl c (by omega)
        rw [hlc hlt]
        refine ⟨⟨by omega, by omega⟩, fun c4 => tail Z3 ho (fun q hq j hj => ?_), fun c4 => ?_⟩
        · rw [hz q hq j hj]
          by_cases c5 : q = l
          · rw [if_neg (by omega), if_pos (by omega), hclr, c5]
            by_cases c7 : j < c ∨ po < j
            · rw [if_pos c7]
            · have := hMl j hj
              rw [if_neg c7, if_neg hlt, if_pos (show l < u by omega), c4, Int.zero_mul, Int.sub_zero, Int.emod_eq_of_lt this.1 this.2]
          · by_cases c6 : q = t ∨ q < l
            · rw [if_pos c6, if_pos (by omega)]
            · rw [if_neg c6, if_neg (by omega)]
        · -- the inner loop
          have lp3 : ∀ (m2 j0 : Nat) (w8 : Int) (Z4 : Zt), w8 = j0 → c ≤ j0 → j0 + m2 = po + 1 → Oth Z Z4 (fun b => s + 6 ≤ b ∧ b < s + 46) → (∀ q : Nat, q < 40 → q ≠ l → ∀ j : Nat, j < 90 → Z4 (s + 6 + σ q) j = Z3 (s + 6 + σ q) j) → (∀ j : Nat, j < 90 → Z4 (s + 6 + σ l) j = if j < j0 then clrM p c po t u M l j else M l j) → V mX9_clearColumn k n 90 [some (r_ s), some (r_ f), some (i_ (c : Int)), some (i_ (t : Int)), some (r_ (s + 6 + σ t)), none, some (i_ w6), some (i_ (M l c)), some (i_ w8)] [] x Z4 Q := by
            intro m2
            induction m2 with
            | zero =>
              intro j0 w8 Z4 hw8 hj0 hm2 ho4 hq4 hl4
              refine b_X9_clearColumn_90 o of hat.2 ?_
              rw [ho4 s (by omega), hpo.1]
              refine ⟨⟨by omega, by omega⟩, ⟨by omega, by omega⟩, fun _ => tail Z4 ho4 (fun q hq j hj => ?_), fun c5 => by omega⟩
              by_cases c6 : q = l
              · rw [c6, hl4 j hj, if_pos (show l = t ∨ l < l + 1 by omega)]
                by_cases c7 : j < j0
                · rw [if_pos c7]
                · rw [if_neg c7, hclr, if_pos (by omega)]
              · rw [hq4 q hq c6 j hj, hz q hq j hj]
                by_cases c7 : q = t ∨ q < l
                · rw [if_pos c7, if_pos (by omega)]
                · rw [if_neg c7, if_neg (by omega)]
            | succ m2 ih2 =>
              intro j0 w8 Z4 hw8 hj0 hm2 ho4 hq4 hl4
              have et : Z4 (s + 6 + σ t) j0 = M t j0 * w % p := by
                rw [hq4 t (by omega) (by omega) j0 (by omega), hz t (by omega) j0 (by omega), if_pos (Or.inl rfl), hclr, if_neg (by omega), if_pos rfl]
              have el : Z4 (s + 6 + σ l) j0 = M l j0 := by rw [hl4 j0 (by omega), if_neg (by omega)]
              have ef : Z4 f 0 = p := by rw [ho4 f (by omega)]; exact hf.1
              have hml := hMl j0 (by omega)
              have hmt := emr (M t j0 * w) (p := p) (by omega)
              have hpm := mul13 (a := M l c) (b := M t j0 * w % p) ⟨by omega, by omega⟩ ⟨by omega, by omega⟩
              refine b_X9_clearColumn_90 o of hat.2 ?_
              rw [ho4 s (by omega), hpo.1, show w6.toNat = l by omega, show w8.toNat = j0 by omega, et, ef]
              refine ⟨⟨by omega, by omega⟩, ⟨by omega, by omega⟩, fun c5 => by omega, fun _ => ⟨by omega, by omega, _, hatl, _, hatl, by omega, by omega, ⟨?_, ?_⟩, by omega, by omega, fun Z5 e5 => ih2 (j0 + 1) (w8 + 1) Z5 (by omega) (by omega) (by omega) (fun b hb => ?_) (fun q hq hql j hj => ?_) (fun j hj => ?_)⟩⟩
              · rw [el]; omega
              · rw [el]; omega
              · rw [e5, up_row _ _ _ _ _ (fun e9 => hb (by omega))]; exact ho4 b hb
              · rw [e5, up_row _ _ _ _ _ (hσn q l hq hl40 hql)]; exact hq4 q hq hql j hj
              · rw [e5, up_at, el]
                by_cases c6 : j = j0
                · rw [if_pos c6, if_pos (by omega), hclr, if_neg (by omega), if_neg hlt, if_pos (by omega), c6]
                · rw [if_neg c6, hl4 j hj]
                  by_cases c7 : j < j0
                  · rw [if_pos c7, if_pos (by omega)]
                  · rw [if_neg c7, if_neg (by omega)]
          refine lp3 (po + 1 - c) c c Z3 rfl (by omega) (by omega) ho (fun _ _ _ _ _ => rfl) (fun j hj => ?_)
          rw [hz l hl40 j hj, if_neg (by omega)]
          by_cases c5 : j < c
          · rw [if_pos c5, hclr, if_pos (Or.inl c5)]
          · rw [if_neg c5]
  have lp1 : ∀ (m j0 : Nat) (w6 : Int) (Z3 : Zt), w6 = j0 → c ≤ j0 → j0 + m = po + 1 → (∀ b, b ≠ s + 6 + σ t → Z3 b = Z b) → (∀ j : Nat, j < 90 → Z3 (s + 6 + σ t) j = if j < j0 then clrM p c po t u M t j else M t j) → V mX9_clearColumn k n 21 [some (r_ s), some (r_ f), some (i_ (c : Int)), some (i_ (t : Int)), some (r_ (s + 6 + σ t)), some (i_ w), some (i_ w6), none, none] [] x Z3 Q := by
    intro m
    induction m with
    | zero =>
      intro j0 w6 Z3 hw6 hj0 hm ho hz
      refine b_X9_clearColumn_21 o of hat.2 ?_
      rw [ho s (by omega), hpo.1]
      refine ⟨⟨by omega, by omega⟩, ⟨by omega, by omega⟩, fun _ => lp2 u 0 0 Z3 rfl (by omega) (fun b hb => ho b (fun e => hb (by omega))) (fun q hq j hj => ?_), fun c2 => by omega⟩
      by_cases c3 : q = t
      · rw [c3, hz j hj, if_pos (Or.inl rfl)]
        by_cases c4 : j < j0
        · rw [if_pos c4]
        · rw [if_neg c4, hclr, if_pos (by omega)]
      · rw [if_neg (by omega), ho _ (hσn q t hq (by omega) c3)]; exact hMe q j
    | succ m ih =>
      intro j0 w6 Z3 hw6 hj0 hm ho hz
      have ef : Z3 f 0 = p := by rw [ho f (by omega)]; exact hf.1
      have ez : Z3 (s + 6 + σ t) j0 = M t j0 := by rw [hz j0 (by omega), if_neg (by omega)]
      have hmt := hMr t (by omega) j0 (by omega)
      have hpm := mul13 (a := M t j0) (b := w) ⟨by omega, by omega⟩ ⟨by omega, by omega⟩
      refine b_X9_clearColumn_21 o of hat.2 ?_
      rw [ho s (by omega), hpo.1, show w6.toNat = j0 by omega, ez, ef]
      refine ⟨⟨by omega, by omega⟩, ⟨by omega, by omega⟩, fun c2 => by omega, fun _ => ⟨by omega, by omega, ⟨by omega, by omega⟩, by omega, by omega, fun Z4 e4 => ih (j0 + 1) (w6 + 1) Z4 (by omega) (by omega) (by omega) (fun b hb => ?_) (fun j hj => ?_)⟩⟩
      · rw [e4, up_row _ _ _ _ _ hb]; exact ho b hb
      · rw [e4, up_at]
        by_cases c6 : j = j0
        · rw [if_pos c6, if_pos (by omega), hclr, if_neg (by omega), if_pos rfl, c6]
        · rw [if_neg c6, hz j hj]
          by_cases c7 : j < j0
          · rw [if_pos c7, if_pos (by omega)]
          · rw [if_neg c7, if_neg (by omega)]
  refine b_X9_clearColumn_0 o of ?_
  rw [Int.toNat_natCast, Int.toNat_natCast]
  refine ⟨by omega, by omega, _, hat, by omega, by omega, ?_⟩
  rw [hMe]
  have hinv : Z (f + 1) (M t c).toNat = w := by
    rw [hf.2.2.1 (M t c).toNat (by omega), show (((M t c).toNat : Nat) : Int) = M t c by omega]; exact hw
  rw [show Int.toNat (M t c) = (M t c).toNat from rfl, hinv]
  refine ⟨by omega, by omega, lp1 (po + 1 - c) c c Z rfl (by omega) (by omega) (fun _ _ => rfl) (fun j hj => ?_)⟩
  rw [hMe]
  by_cases c5 : j < c
  · rw [if_pos c5, hclr, if_pos (Or.inl c5)]
  · rw [if_neg c5]
theorem dX9_coefficient_0 : decode cX9_coefficient 0 = .ok (.iload_n 2, 1) := by decide +kernel
theorem dX9_coefficient_1 : decode cX9_coefficient 1 = .ok (.ifCond .lt 23, 3) := by decide +kernel
theorem dX9_coefficient_4 : decode cX9_coefficient 4 = .ok (.iload_n 2, 1) := by decide +kernel
theorem dX9_coefficient_5 : decode cX9_coefficient 5 = .ok (.aload_n 0, 1) := by decide +kernel
theorem dX9_coefficient_6 : decode cX9_coefficient 6 = .ok (.getfield 96, 3) := by decide +kernel
theorem dX9_coefficient_9 : decode cX9_coefficient 9 = .ok (.if_icmp .ge 15, 3) := by decide +kernel
theorem dX9_coefficient_12 : decode cX9_coefficient 12 = .ok (.iload_n 3, 1) := by decide +kernel
theorem dX9_coefficient_13 : decode cX9_coefficient 13 = .ok (.ifCond .lt 11, 3) := by decide +kernel
theorem dX9_coefficient_16 : decode cX9_coefficient 16 = .ok (.iload_n 3, 1) := by decide +kernel
theorem dX9_coefficient_17 : decode cX9_coefficient 17 = .ok (.aload_n 0, 1) := by decide +kernel
theorem dX9_coefficient_18 : decode cX9_coefficient 18 = .ok (.getfield 73, 3) := by decide +kernel
theorem dX9_coefficient_21 : decode cX9_coefficient 21 = .ok (.if_icmp .le 5, 3) := by decide +kernel
theorem dX9_coefficient_24 : decode cX9_coefficient 24 = .ok (.iconst 0, 1) := by decide +kernel
theorem dX9_coefficient_25 : decode cX9_coefficient 25 = .ok (.ireturn, 1) := by decide +kernel
theorem dX9_coefficient_26 : decode cX9_coefficient 26 = .ok (.aload_n 0, 1) := by decide +kernel
theorem dX9_coefficient_27 : decode cX9_coefficient 27 = .ok (.getfield 33, 3) := by decide +kernel
theorem dX9_coefficient_30 : decode cX9_coefficient 30 = .ok (.iload_n 2, 1) := by decide +kernel
theorem dX9_coefficient_31 : decode cX9_coefficient 31 = .ok (.iaload, 1) := by decide +kernel
theorem dX9_coefficient_32 : decode cX9_coefficient 32 = .ok (.istore 4, 2) := by decide +kernel
theorem dX9_coefficient_34 : decode cX9_coefficient 34 = .ok (.iload_n 3, 1) := by decide +kernel
theorem dX9_coefficient_35 : decode cX9_coefficient 35 = .ok (.iload 4, 2) := by decide +kernel
theorem dX9_coefficient_37 : decode cX9_coefficient 37 = .ok (.if_icmp .lt 15, 3) := by decide +kernel
theorem dX9_coefficient_40 : decode cX9_coefficient 40 = .ok (.iload_n 3, 1) := by decide +kernel
theorem dX9_coefficient_41 : decode cX9_coefficient 41 = .ok (.iload 4, 2) := by decide +kernel
theorem dX9_coefficient_43 : decode cX9_coefficient 43 = .ok (.if_icmp .ne 7, 3) := by decide +kernel
theorem dX9_coefficient_46 : decode cX9_coefficient 46 = .ok (.iconst 1, 1) := by decide +kernel
theorem dX9_coefficient_47 : decode cX9_coefficient 47 = .ok (.goto 4, 3) := by decide +kernel
theorem dX9_coefficient_50 : decode cX9_coefficient 50 = .ok (.iconst 0, 1) := by decide +kernel
theorem dX9_coefficient_51 : decode cX9_coefficient 51 = .ok (.ireturn, 1) := by decide +kernel
theorem dX9_coefficient_52 : decode cX9_coefficient 52 = .ok (.aload_n 0, 1) := by decide +kernel
theorem dX9_coefficient_53 : decode cX9_coefficient 53 = .ok (.getfield 30, 3) := by decide +kernel
theorem dX9_coefficient_56 : decode cX9_coefficient 56 = .ok (.iload_n 3, 1) := by decide +kernel
theorem dX9_coefficient_57 : decode cX9_coefficient 57 = .ok (.iaload, 1) := by decide +kernel
theorem dX9_coefficient_58 : decode cX9_coefficient 58 = .ok (.istore 5, 2) := by decide +kernel
theorem dX9_coefficient_60 : decode cX9_coefficient 60 = .ok (.iload 5, 2) := by decide +kernel
theorem dX9_coefficient_62 : decode cX9_coefficient 62 = .ok (.ifCond .ge 7, 3) := by decide +kernel
theorem dX9_coefficient_65 : decode cX9_coefficient 65 = .ok (.iconst 0, 1) := by decide +kernel
theorem dX9_coefficient_66 : decode cX9_coefficient 66 = .ok (.goto 18, 3) := by decide +kernel
theorem dX9_coefficient_69 : decode cX9_coefficient 69 = .ok (.aload_n 1, 1) := by decide +kernel
theorem dX9_coefficient_70 : decode cX9_coefficient 70 = .ok (.aload_n 0, 1) := by decide +kernel
theorem dX9_coefficient_71 : decode cX9_coefficient 71 = .ok (.getfield 27, 3) := by decide +kernel
theorem dX9_coefficient_74 : decode cX9_coefficient 74 = .ok (.iload 5, 2) := by decide +kernel
theorem dX9_coefficient_76 : decode cX9_coefficient 76 = .ok (.aaload, 1) := by decide +kernel
theorem dX9_coefficient_77 : decode cX9_coefficient 77 = .ok (.iload 4, 2) := by decide +kernel
theorem dX9_coefficient_79 : decode cX9_coefficient 79 = .ok (.iaload, 1) := by decide +kernel
theorem dX9_coefficient_80 : decode cX9_coefficient 80 = .ok (.ineg, 1) := by decide +kernel
theorem dX9_coefficient_81 : decode cX9_coefficient 81 = .ok (.invokevirtual 99, 3) := by decide +kernel
theorem dX9_coefficient_84 : decode cX9_coefficient 84 = .ok (.ireturn, 1) := by decide +kernel
set_option maxRecDepth 20000 in
theorem b_X9_coefficient_0 {k n : Nat} {x : Wx} {Z : Zt} {Q : Option Value → Wx → Zt → Prop} {a0 : Nat} {a1 : Nat} {v2 : Int} {v3 : Int} (o_a0 : Is9 x a0) (o_a1 : Is4 x a1)
    (h : Rg v2 ∧ (((v2 < 0) → (V mX9_coefficient k n 24 [none, none, none, none, none, none] [] x Z Q)) ∧ ((0 ≤ v2) → (Rg (Z a0 1) ∧ (((Z a0 1 ≤ v2) → (V mX9_coefficient k n 24 [none, none, none, none, none, none] [] x Z Q)) ∧ ((v2 < Z a0 1) → (Rg v3 ∧ (((v3 < 0) → (V mX9_coefficient k n 24 [none, none, none, none, none, none] [] x Z Q)) ∧ ((0 ≤ v3) → (Rg (Z a0 2) ∧ (((v3 ≤ Z a0 2) → (v2 < 90 ∧ (Rg (Z (a0 + 47) v2.toNat) ∧ (((v3 < Z (a0 + 47) v2.toNat) → (v3 < 90 ∧ (Rg (Z (a0 + 46) v3.toNat) ∧ (((0 ≤ Z (a0 + 46) v3.toNat) → (Z (a0 + 46) v3.toNat < 40 ∧ (∃ b1, (x.2.1 (a0 + 5) (Z (a0 + 46) v3.toNat).toNat = some b1 ∧ x.1 b1 = some (100, 90)) ∧ (0 ≤ Z (a0 + 47) v2.toNat ∧ Z (a0 + 47) v2.toNat < 90 ∧ (Rg (-(Z b1 (Z (a0 + 47) v2.toNat).toNat)) ∧ 2 ≤ Z a1 0 ∧ Z a1 0 ≤ 13 ∧ (Q (some (i_ ((-(Z b1 (Z (a0 + 47) v2.toNat).toNat)) % Z a1 0))) x Z)))))) ∧ ((Z (a0 + 46) v3.toNat < 0) → (Q (some (i_ 0)) x Z)))))) ∧ ((Z (a0 + 47) v2.toNat ≤ v3) → (((v3 ≠ Z (a0 + 47) v2.toNat) → (Q (some (i_ 0)) x Z)) ∧ ((v3 = Z (a0 + 47) v2.toNat) → (Q (some (i_ 1)) x Z)))))))) ∧ ((Z a0 2 < v3) → (V mX9_coefficient k n 24 [none, none, none, none, none, none] [] x Z Q))))))))))))) :
    V mX9_coefficient k n 0 [some (r_ a0), some (r_ a1), some (i_ v2), some (i_ v3), none, none] [] x Z Q :=
  V_iload_n dX9_coefficient_0 rfl (V_if_lt (tgt := 24) dX9_coefficient_1 rfl h.1 (fun c1 => V_msk [false, false, false, false, false, false] rfl (h.2.1 c1)) (fun c1 => V_iload_n dX9_coefficient_4 rfl (V_aload_n dX9_coefficient_5 rfl (G_9_1 o_a0.1 lf_9_96 dX9_coefficient_6 (V_icmp_ge (tgt := 24) dX9_coefficient_9 rfl h.1 (h.2.2 c1).1 (fun c2 => V_msk [false, false, false, false, false, false] rfl ((h.2.2 c1).2.1 c2)) (fun c2 => V_iload_n dX9_coefficient_12 rfl (V_if_lt (tgt := 24) dX9_coefficient_13 rfl ((h.2.2 c1).2.2 c2).1 (fun c3 => V_msk [false, false, false, false, false, false] rfl (((h.2.2 c1).2.2 c2).2.1 c3)) (fun c3 => V_iload_n dX9_coefficient_16 rfl (V_aload_n dX9_coefficient_17 rfl (G_9_2 o_a0.1 lf_9_73 dX9_coefficient_18 (V_icmp_le (tgt := 26) dX9_coefficient_21 rfl ((h.2.2 c1).2.2 c2).1 (((h.2.2 c1).2.2 c2).2.2 c3).1 (fun c4 => V_aload_n dX9_coefficient_26 rfl (G_9_11 o_a0.1 o_a0.2.2.2.2.2.2.2.2.2.2.2.2.2.2.1 lf_9_33 dX9_coefficient_27 (V_iload_n dX9_coefficient_30 rfl (V_iald (t := 100) o_a0.2.2.2.2.2.2.2.2.2.2.2.2.2.2.2 (by decide) rfl c1 ((((h.2.2 c1).2.2 c2).2.2 c3).2.1 c4).1 (Nat.le_of_ble_eq_true rfl) dX9_coefficient_31 (V_istore (lv' := [some (r_ a0), some (r_ a1), some (i_ v2), some (i_ v3), some (i_ (Z (a0 + 47) v2.toNat)), none]) dX9_coefficient_32 (Nat.le_of_ble_eq_true rfl) rfl (V_iload_n dX9_coefficient_34 rfl (V_iload dX9_coefficient_35 rfl (V_icmp_lt (tgt := 52) dX9_coefficient_37 rfl ((h.2.2 c1).2.2 c2).1 ((((h.2.2 c1).2.2 c2).2.2 c3).2.1 c4).2.1 (fun c5 => V_aload_n dX9_coefficient_52 rfl (G_9_10 o_a0.1 o_a0.2.2.2.2.2.2.2.2.2.2.2.2.1 lf_9_30 dX9_coefficient_53 (V_iload_n dX9_coefficient_56 rfl (V_iald (t := 100) o_a0.2.2.2.2.2.2.2.2.2.2.2.2.2.1 (by decide) rfl c3 (((((h.2.2 c1).2.2 c2).2.2 c3).2.1 c4).2.2.1 c5).1 (Nat.le_of_ble_eq_true rfl) dX9_coefficient_57 (V_istore (lv' := [some (r_ a0), some (r_ a1), some (i_ v2), some (i_ v3), some (i_ (Z (a0 + 47) v2.toNat)), some (i_ (Z (a0 + 46) v3.toNat))]) dX9_coefficient_58 (Nat.le_of_ble_eq_true rfl) rfl (V_iload dX9_coefficient_60 rfl (V_if_ge (tgt := 69) dX9_coefficient_62 rfl (((((h.2.2 c1).2.2 c2).2.2 c3).2.1 c4).2.2.1 c5).2.1 (fun c6 => V_aload_n dX9_coefficient_69 rfl (V_aload_n dX9_coefficient_70 rfl (G_9_8 o_a0.1 o_a0.2.2.2.2.2.2.2.2.2.1 lf_9_27 dX9_coefficient_71 (V_iload dX9_coefficient_74 rfl (Exists.elim ((((((h.2.2 c1).2.2 c2).2.2 c3).2.1 c4).2.2.1 c5).2.2.1 c6).2 (fun b1 w1 => V_aaldR (t := 104) o_a0.2.2.2.2.2.2.2.2.2.2.1 (by decide) (fun _ _ => rfl) rfl c6 ((((((h.2.2 c1).2.2 c2).2.2 c3).2.1 c4).2.2.1 c5).2.2.1 c6).1 (Nat.le_of_ble_eq_true rfl) w1.1.1 dX9_coefficient_76 (V_iload dX9_coefficient_77 rfl (V_iald (t := 100) w1.1.2 (by decide) rfl w1.2.1 w1.2.2.1 (Nat.le_of_ble_eq_true rfl) dX9_coefficient_79 (V_ineg dX9_coefficient_80 (V_callV (k' := 0) (n' := 0) (t := 4) (q := (RX4, TX4, 4)) [i_ (-(Z b1 (Z (a0 + 47) v2.toNat).toNat))] [] okX4_rem o_a1.1 rfl rfl lm_9_99 liX4_rem lqX4_rem (Nat.le_of_ble_eq_true rfl) (Nat.le_of_ble_eq_true rfl) (Nat.le_of_ble_eq_true rfl) (cat_of rfl) (Nat.le_of_ble_eq_true rfl) (Nat.zero_le _) (Nat.zero_le _) rfl dX9_coefficient_81 (sp_X4_rem o_a1 w1.2.2.2.1 w1.2.2.2.2.1 w1.2.2.2.2.2.1 (V_iret (ty := .int) dX9_coefficient_84 rfl rfl w1.2.2.2.2.2.2)))))))))))) (fun c6 => V_iconst dX9_coefficient_65 (V_goto (tgt := 84) dX9_coefficient_66 rfl (V_iret (ty := .int) dX9_coefficient_84 rfl rfl ((((((h.2.2 c1).2.2 c2).2.2 c3).2.1 c4).2.2.1 c5).2.2.2 c6))))))))))) (fun c5 => V_iload_n dX9_coefficient_40 rfl (V_iload dX9_coefficient_41 rfl (V_icmp_ne (tgt := 50) dX9_coefficient_43 rfl ((h.2.2 c1).2.2 c2).1 ((((h.2.2 c1).2.2 c2).2.2 c3).2.1 c4).2.1 (fun c7 => V_iconst dX9_coefficient_50 (V_iret (ty := .int) dX9_coefficient_51 rfl rfl ((((((h.2.2 c1).2.2 c2).2.2 c3).2.1 c4).2.2.2 c5).1 c7))) (fun c7 => V_iconst dX9_coefficient_46 (V_goto (tgt := 51) dX9_coefficient_47 rfl (V_iret (ty := .int) dX9_coefficient_51 rfl rfl ((((((h.2.2 c1).2.2 c2).2.2 c3).2.1 c4).2.2.2 c5).2 c7))))))))))))))) (fun c4 => V_msk [false, false, false, false, false, false] rfl ((((h.2.2 c1).2.2 c2).2.2 c3).2.2 c4)))))))))))))
set_option maxRecDepth 20000 in
theorem b_X9_coefficient_24 {k n : Nat} {x : Wx} {Z : Zt} {Q : Option Value → Wx → Zt → Prop}  
    (h : Q (some (i_ 0)) x Z) :
    V mX9_coefficient k n 24 [none, none, none, none, none, none] [] x Z Q :=
  V_iconst dX9_coefficient_24 (V_iret (ty := .int) dX9_coefficient_25 rfl rfl h)
/-- of BASE row k the part of a column -/
def cof (p : Int) (M : Nat → Nat → Int) (dm po : Int) (pv ld : Nat → Int) (k c : Int) : Int := if k < 0 ∨ dm ≤ k ∨ c < 0 ∨ po < c then 0 else if ld k.toNat ≤ c then (if c = ld k.toNat then 1 else 0) else if pv c.toNat < 0 then 0 else (-(M (pv c.toNat).toNat (ld k.toNat).toNat)) % p
theorem cof_rg {p : Int} (hp : 1 < p) (M : Nat → Nat → Int) (dm po : Int) (pv ld : Nat → Int) (k c : Int) : 0 ≤ cof p M dm po pv ld k c ∧ cof p M dm po pv ld k c < p := by
  unfold cof
  split
  · omega
  · split
    · split <;> omega
    · split
      · omega
      · exact emr _ (by omega)
theorem sp_X9_coefficient {k n : Nat} {x : Wx} {Z : Zt} {Q : Option Value → Wx → Zt → Prop} {s f : Nat} {v c : Int} (o : Is9 x s) (of : Is4 x f) {p : Int} {σ : Nat → Nat} (hp : IsP p) (hf : Z f 0 = p) (hσ : LnA x s σ) (hv : Rg v) (hc : Rg c) (hd : 0 ≤ Z s 1 ∧ Z s 1 ≤ 90) (hpo : -100 ≤ Z s 2 ∧ Z s 2 < 90) (hld : ∀ i : Nat, (i : Int) < Z s 1 → 0 ≤ Z (s + 47) i ∧ Z (s + 47) i < 90) (hpv : ∀ i : Nat, (i : Int) ≤ Z s 2 → -2 ≤ Z (s + 46) i ∧ Z (s + 46) i < 40 ∧ (0 ≤ Z (s + 46) i → ∀ j : Nat, j < 90 → 0 ≤ Z (s + 6 + σ (Z (s + 46) i).toNat) j ∧ Z (s + 6 + σ (Z (s + 46) i).toNat) j < p)) (h : Q (some (i_ (cof p (fun i j => Z (s + 6 + σ i) j) (Z s 1) (Z s 2) (Z (s + 46)) (Z (s + 47)) v c))) x Z) : V mX9_coefficient k n 0 [some (r_ s), some (r_ f), some (i_ v), some (i_ c), none, none] [] x Z Q := by
  have hpr := hp.rg
  unfold cof at h
  have z24 : (v < 0 ∨ Z s 1 ≤ v ∨ c < 0 ∨ Z s 2 < c) → V mX9_coefficient k n 24 [none, none, none, none, none, none] [] x Z Q := fun e => by
    rw [if_pos e] at h; exact b_X9_coefficient_24 h
  refine b_X9_coefficient_0 o of ⟨hv, fun c1 => z24 (Or.inl c1), fun c1 => ⟨⟨by omega, by omega⟩, fun c2 => z24 (Or.inr (Or.inl c2)), fun c2 => ⟨hc, fun c3 => z24 (Or.inr (Or.inr (Or.inl c3))), fun c3 => ⟨⟨by omega, by omega⟩, fun c4 => ⟨by omega, ?_⟩, fun c4 => z24 (Or.inr (Or.inr (Or.inr c4)))⟩⟩⟩⟩
  rw [if_neg (by omega)] at h
  have hl := hld v.toNat (by omega)
  refine ⟨⟨by omega, by omega⟩, fun c5 => ⟨by omega, ?_⟩, fun c5 => ⟨fun c6 => ?_, fun c6 => ?_⟩⟩
  · rw [if_neg (by omega)] at h
    have hq := hpv c.toNat (by omega)
    refine ⟨⟨by omega, by omega⟩, fun c6 => ⟨hq.2.1, _, hσ.at o (by omega), hl.1, hl.2, ?_⟩, fun c6 => ?_⟩
    · have hm := hq.2.2 c6 (Z (s + 47) v.toNat).toNat (by omega)
      rw [hf]
      rw [if_neg (by omega)] at h
      exact ⟨⟨by omega, by omega⟩, by omega, by omega, h⟩
    · rw [if_pos c6] at h; exact h
  · rw [if_pos c5, if_neg c6] at h; exact h
  · rw [if_pos c5, if_pos c6] at h; exact h
