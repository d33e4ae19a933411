/-! ===== the reference: squares, SHARE ===== -/
theorem dX12_isFixed_0 : decode cX12_isFixed 0 = .ok (.aload_n 0, 1) := by decide +kernel
theorem dX12_isFixed_1 : decode cX12_isFixed 1 = .ok (.getfield 26, 3) := by decide +kernel
theorem dX12_isFixed_4 : decode cX12_isFixed 4 = .ok (.iload_n 1, 1) := by decide +kernel
theorem dX12_isFixed_5 : decode cX12_isFixed 5 = .ok (.iaload, 1) := by decide +kernel
theorem dX12_isFixed_6 : decode cX12_isFixed 6 = .ok (.ifCond .gt 7, 3) := by decide +kernel
theorem dX12_isFixed_9 : decode cX12_isFixed 9 = .ok (.iconst 1, 1) := by decide +kernel
theorem dX12_isFixed_10 : decode cX12_isFixed 10 = .ok (.goto 4, 3) := by decide +kernel
theorem dX12_isFixed_13 : decode cX12_isFixed 13 = .ok (.iconst 0, 1) := by decide +kernel
theorem dX12_isFixed_14 : decode cX12_isFixed 14 = .ok (.ireturn, 1) := by decide +kernel
set_option maxRecDepth 20000 in
theorem b_X12_isFixed_0 {k n : Nat} {x : Wx} {Z : Zt} {Q : Option Value → Wx → Zt → Prop} {a0 : Nat} {v1 : Int} (o_a0 : Is12 x a0)
    (h : 0 ≤ v1 ∧ v1 < 32 ∧ (Rg (Z (a0 + 6) v1.toNat) ∧ (((0 < Z (a0 + 6) v1.toNat) → (Q (some (i_ 0)) x Z)) ∧ ((Z (a0 + 6) v1.toNat ≤ 0) → (Q (some (i_ 1)) x Z))))) :
    V mX12_isFixed k n 0 [some (r_ a0), some (i_ v1)] [] x Z Q :=
  V_aload_n dX12_isFixed_0 rfl (G_12_14 o_a0.1 o_a0.qR14 lf_12_26 dX12_isFixed_1 (V_iload_n dX12_isFixed_4 rfl (V_iald (t := 100) o_a0.qK14 (by decide) rfl h.1 h.2.1 (Nat.le_of_ble_eq_true rfl) dX12_isFixed_5 (V_if_gt (tgt := 13) dX12_isFixed_6 rfl h.2.2.1 (fun c1 => V_iconst dX12_isFixed_13 (V_iret (ty := .boolean) dX12_isFixed_14 rfl rfl (h.2.2.2.1 c1))) (fun c1 => V_iconst dX12_isFixed_9 (V_goto (tgt := 14) dX12_isFixed_10 rfl (V_iret (ty := .boolean) dX12_isFixed_14 rfl rfl (h.2.2.2.2 c1))))))))
theorem dX12_isPoint_0 : decode cX12_isPoint 0 = .ok (.iload_n 1, 1) := by decide +kernel
theorem dX12_isPoint_1 : decode cX12_isPoint 1 = .ok (.iconst 0, 1) := by decide +kernel
theorem dX12_isPoint_2 : decode cX12_isPoint 2 = .ok (.aload_n 0, 1) := by decide +kernel
theorem dX12_isPoint_3 : decode cX12_isPoint 3 = .ok (.getfield 227, 3) := by decide +kernel
theorem dX12_isPoint_6 : decode cX12_isPoint 6 = .ok (.iconst 1, 1) := by decide +kernel
theorem dX12_isPoint_7 : decode cX12_isPoint 7 = .ok (.isub, 1) := by decide +kernel
theorem dX12_isPoint_8 : decode cX12_isPoint 8 = .ok (.invokestatic 129, 3) := by decide +kernel
theorem dX12_isPoint_11 : decode cX12_isPoint 11 = .ok (.ireturn, 1) := by decide +kernel
set_option maxRecDepth 20000 in
theorem b_X12_isPoint_0 {k n : Nat} {x : Wx} {Z : Zt} {Q : Option Value → Wx → Zt → Prop} {a0 : Nat} {v1 : Int} (o_a0 : Is12 x a0)
    (h : (Rg v1 ∧ Rg (0 : Int) ∧ Rg ((Z a0 15) - 1)) ∧ (∀ (r1 : Int), (((r1 = 1 ∧ (0 : Int) ≤ v1 ∧ v1 ≤ ((Z a0 15) - 1)) ∨ (r1 = 0 ∧ (v1 < (0 : Int) ∨ ((Z a0 15) - 1) < v1)))) → ((r1 = 0 ∨ r1 = 1) ∧ (Q (some (i_ r1)) x Z)))) :
    V mX12_isPoint k n 0 [some (r_ a0), some (i_ v1)] [] x Z Q :=
  V_iload_n dX12_isPoint_0 rfl (V_iconst dX12_isPoint_1 (V_aload_n dX12_isPoint_2 rfl (G_12_15 o_a0.1 lf_12_227 dX12_isPoint_3 (V_iconst dX12_isPoint_6 (V_isub dX12_isPoint_7 (V_callS (k' := 0) (n' := 0) [i_ v1, i_ 0, i_ ((Z a0 15) - 1)] [] okX12_isIn lm_12_129 lsX12_isIn (Nat.le_of_ble_eq_true rfl) (Nat.le_of_ble_eq_true rfl) (Nat.le_of_ble_eq_true rfl) (cat_of rfl) (Nat.le_of_ble_eq_true rfl) (Nat.zero_le _) (Nat.zero_le _) rfl dX12_isPoint_8 (sp_X12_isIn  h.1 (fun r1 p1 => V_iret (ty := .boolean) dX12_isPoint_11 rfl (nar_z (h.2 r1 p1).1) (h.2 r1 p1).2))))))))
theorem dX12_isSquare_0 : decode cX12_isSquare 0 = .ok (.iconst 0, 1) := by decide +kernel
theorem dX12_isSquare_1 : decode cX12_isSquare 1 = .ok (.istore_n 2, 1) := by decide +kernel
theorem dX12_isSquare_2 : decode cX12_isSquare 2 = .ok (.iconst 0, 1) := by decide +kernel
theorem dX12_isSquare_3 : decode cX12_isSquare 3 = .ok (.istore_n 3, 1) := by decide +kernel
theorem dX12_isSquare_4 : decode cX12_isSquare 4 = .ok (.iload_n 3, 1) := by decide +kernel
theorem dX12_isSquare_5 : decode cX12_isSquare 5 = .ok (.aload_n 0, 1) := by decide +kernel
theorem dX12_isSquare_6 : decode cX12_isSquare 6 = .ok (.getfield 179, 3) := by decide +kernel
theorem dX12_isSquare_9 : decode cX12_isSquare 9 = .ok (.if_icmp .ge 30, 3) := by decide +kernel
theorem dX12_isSquare_12 : decode cX12_isSquare 12 = .ok (.iload_n 2, 1) := by decide +kernel
theorem dX12_isSquare_13 : decode cX12_isSquare 13 = .ok (.ifCond .ne 14, 3) := by decide +kernel
theorem dX12_isSquare_16 : decode cX12_isSquare 16 = .ok (.aload_n 0, 1) := by decide +kernel
theorem dX12_isSquare_17 : decode cX12_isSquare 17 = .ok (.iload_n 3, 1) := by decide +kernel
theorem dX12_isSquare_18 : decode cX12_isSquare 18 = .ok (.iload_n 3, 1) := by decide +kernel
theorem dX12_isSquare_19 : decode cX12_isSquare 19 = .ok (.imul, 1) := by decide +kernel
theorem dX12_isSquare_20 : decode cX12_isSquare 20 = .ok (.invokevirtual 182, 3) := by decide +kernel
theorem dX12_isSquare_23 : decode cX12_isSquare 23 = .ok (.iload_n 1, 1) := by decide +kernel
theorem dX12_isSquare_24 : decode cX12_isSquare 24 = .ok (.if_icmp .ne 7, 3) := by decide +kernel
theorem dX12_isSquare_27 : decode cX12_isSquare 27 = .ok (.iconst 1, 1) := by decide +kernel
theorem dX12_isSquare_28 : decode cX12_isSquare 28 = .ok (.goto 4, 3) := by decide +kernel
theorem dX12_isSquare_31 : decode cX12_isSquare 31 = .ok (.iconst 0, 1) := by decide +kernel
theorem dX12_isSquare_32 : decode cX12_isSquare 32 = .ok (.istore_n 2, 1) := by decide +kernel
theorem dX12_isSquare_33 : decode cX12_isSquare 33 = .ok (.iinc 3 1, 3) := by decide +kernel
theorem dX12_isSquare_36 : decode cX12_isSquare 36 = .ok (.goto (-32), 3) := by decide +kernel
theorem dX12_isSquare_39 : decode cX12_isSquare 39 = .ok (.iload_n 2, 1) := by decide +kernel
theorem dX12_isSquare_40 : decode cX12_isSquare 40 = .ok (.ireturn, 1) := by decide +kernel
set_option maxRecDepth 20000 in
theorem b_X12_isSquare_0 {k n : Nat} {x : Wx} {Z : Zt} {Q : Option Value → Wx → Zt → Prop} {a0 : Nat} {v1 : Int} 
    (h : V mX12_isSquare k n 4 [some (r_ a0), some (i_ v1), some (i_ 0), some (i_ 0)] [] x Z Q) :
    V mX12_isSquare k n 0 [some (r_ a0), some (i_ v1), none, none] [] x Z Q :=
  V_iconst dX12_isSquare_0 (V_istore_n (lv' := [some (r_ a0), some (i_ v1), some (i_ 0), none]) dX12_isSquare_1 (Nat.le_of_ble_eq_true rfl) rfl (V_iconst dX12_isSquare_2 (V_istore_n (lv' := [some (r_ a0), some (i_ v1), some (i_ 0), some (i_ 0)]) dX12_isSquare_3 (Nat.le_of_ble_eq_true rfl) rfl (V_msk [true, true, true, true] rfl h))))
set_option maxRecDepth 20000 in
theorem b_X12_isSquare_4 {k n : Nat} {x : Wx} {Z : Zt} {Q : Option Value → Wx → Zt → Prop} {a0 : Nat} {v1 : Int} {v2 : Int} {v3 : Int} (o_a0 : Is12 x a0)
    (h : Rg v3 ∧ Rg (Z a0 11) ∧ (((Z a0 11 ≤ v3) → ((v2 = 0 ∨ v2 = 1) ∧ (Q (some (i_ v2)) x Z))) ∧ ((v3 < Z a0 11) → (Rg v2 ∧ (((v2 ≠ 0) → (V mX12_isSquare k n 4 [some (r_ a0), some (i_ v1), some (i_ 1), some (i_ (v3 + 1))] [] x Z Q)) ∧ ((v2 = 0) → (Rg (v3 * v3) ∧ 0 < Z a0 11 ∧ Z a0 11 ≤ 13 ∧ (Rg ((v3 * v3) % Z a0 11) ∧ Rg v1 ∧ ((((v3 * v3) % Z a0 11 ≠ v1) → (V mX12_isSquare k n 4 [some (r_ a0), some (i_ v1), some (i_ 0), some (i_ (v3 + 1))] [] x Z Q)) ∧ (((v3 * v3) % Z a0 11 = v1) → (V mX12_isSquare k n 4 [some (r_ a0), some (i_ v1), some (i_ 1), some (i_ (v3 + 1))] [] x Z Q))))))))))) :
    V mX12_isSquare k n 4 [some (r_ a0), some (i_ v1), some (i_ v2), some (i_ v3)] [] x Z Q :=
  V_iload_n dX12_isSquare_4 rfl (V_aload_n dX12_isSquare_5 rfl (G_12_11 o_a0.1 lf_12_179 dX12_isSquare_6 (V_icmp_ge (tgt := 39) dX12_isSquare_9 rfl h.1 h.2.1 (fun c1 => V_iload_n dX12_isSquare_39 rfl (V_iret (ty := .boolean) dX12_isSquare_40 rfl (nar_z (h.2.2.1 c1).1) (h.2.2.1 c1).2)) (fun c1 => V_iload_n dX12_isSquare_12 rfl (V_if_ne (tgt := 27) dX12_isSquare_13 rfl (h.2.2.2 c1).1 (fun c2 => V_iconst dX12_isSquare_27 (V_goto (tgt := 32) dX12_isSquare_28 rfl (V_istore_n (lv' := [some (r_ a0), some (i_ v1), some (i_ 1), some (i_ v3)]) dX12_isSquare_32 (Nat.le_of_ble_eq_true rfl) rfl (V_iinc (lv' := [some (r_ a0), some (i_ v1), some (i_ 1), some (i_ (v3 + 1))]) dX12_isSquare_33 rfl (Nat.le_of_ble_eq_true rfl) rfl (V_goto (tgt := 4) dX12_isSquare_36 rfl (V_msk [true, true, true, true] rfl ((h.2.2.2 c1).2.1 c2))))))) (fun c2 => V_aload_n dX12_isSquare_16 rfl (V_iload_n dX12_isSquare_17 rfl (V_iload_n dX12_isSquare_18 rfl (V_imul dX12_isSquare_19 (V_callV (k' := 0) (n' := 0) (t := 12) (q := (RX12, TX12, 46)) [i_ (v3 * v3)] [] okX12_mod o_a0.1 rfl rfl lm_12_182 liX12_mod lqX12_mod (Nat.le_of_ble_eq_true rfl) (Nat.le_of_ble_eq_true rfl) (Nat.le_of_ble_eq_true rfl) (cat_of rfl) (Nat.le_of_ble_eq_true rfl) (Nat.zero_le _) (Nat.zero_le _) rfl dX12_isSquare_20 (sp_X12_mod o_a0 ((h.2.2.2 c1).2.2 c2).1 ((h.2.2.2 c1).2.2 c2).2.1 ((h.2.2.2 c1).2.2 c2).2.2.1 (V_iload_n dX12_isSquare_23 rfl (V_icmp_ne (tgt := 31) dX12_isSquare_24 rfl ((h.2.2.2 c1).2.2 c2).2.2.2.1 ((h.2.2.2 c1).2.2 c2).2.2.2.2.1 (fun c3 => V_iconst dX12_isSquare_31 (V_istore_n (lv' := [some (r_ a0), some (i_ v1), some (i_ 0), some (i_ v3)]) dX12_isSquare_32 (Nat.le_of_ble_eq_true rfl) rfl (V_iinc (lv' := [some (r_ a0), some (i_ v1), some (i_ 0), some (i_ (v3 + 1))]) dX12_isSquare_33 rfl (Nat.le_of_ble_eq_true rfl) rfl (V_goto (tgt := 4) dX12_isSquare_36 rfl (V_msk [true, true, true, true] rfl (((h.2.2.2 c1).2.2 c2).2.2.2.2.2.1 c3)))))) (fun c3 => V_iconst dX12_isSquare_27 (V_goto (tgt := 32) dX12_isSquare_28 rfl (V_istore_n (lv' := [some (r_ a0), some (i_ v1), some (i_ 1), some (i_ v3)]) dX12_isSquare_32 (Nat.le_of_ble_eq_true rfl) rfl (V_iinc (lv' := [some (r_ a0), some (i_ v1), some (i_ 1), some (i_ (v3 + 1))]) dX12_isSquare_33 rfl (Nat.le_of_ble_eq_true rfl) rfl (V_goto (tgt := 4) dX12_isSquare_36 rfl (V_msk [true, true, true, true] rfl (((h.2.2.2 c1).2.2 c2).2.2.2.2.2.2 c3))))))))))))))))))))
theorem dX12_shareA_0 : decode cX12_shareA 0 = .ok (.aload_n 0, 1) := by decide +kernel
theorem dX12_shareA_1 : decode cX12_shareA 1 = .ok (.getfield 227, 3) := by decide +kernel
theorem dX12_shareA_4 : decode cX12_shareA 4 = .ok (.aload_n 0, 1) := by decide +kernel
theorem dX12_shareA_5 : decode cX12_shareA 5 = .ok (.getfield 179, 3) := by decide +kernel
theorem dX12_shareA_8 : decode cX12_shareA 8 = .ok (.isub, 1) := by decide +kernel
theorem dX12_shareA_9 : decode cX12_shareA 9 = .ok (.iconst 1, 1) := by decide +kernel
theorem dX12_shareA_10 : decode cX12_shareA 10 = .ok (.isub, 1) := by decide +kernel
theorem dX12_shareA_11 : decode cX12_shareA 11 = .ok (.ireturn, 1) := by decide +kernel
set_option maxRecDepth 20000 in
theorem b_X12_shareA_0 {k n : Nat} {x : Wx} {Z : Zt} {Q : Option Value → Wx → Zt → Prop} {a0 : Nat} (o_a0 : Is12 x a0)
    (h : Q (some (i_ (((Z a0 15) - (Z a0 11)) - 1))) x Z) :
    V mX12_shareA k n 0 [some (r_ a0)] [] x Z Q :=
  V_aload_n dX12_shareA_0 rfl (G_12_15 o_a0.1 lf_12_227 dX12_shareA_1 (V_aload_n dX12_shareA_4 rfl (G_12_11 o_a0.1 lf_12_179 dX12_shareA_5 (V_isub dX12_shareA_8 (V_iconst dX12_shareA_9 (V_isub dX12_shareA_10 (V_iret (ty := .int) dX12_shareA_11 rfl rfl h)))))))
theorem sp_X12_isFixed {k n : Nat} {x : Wx} {Z : Zt} {Q : Option Value → Wx → Zt → Prop} {b : Nat} {q : Int} (o : Is12 x b) {p : Int} {F : Nat → Int} (hp : IsP p) (hL : MPt Z b (pall p F)) (hq : 0 ≤ q ∧ q < (pall p F).length) (h : Q (some (i_ (bI (fxd (pall p F) q)))) x Z) : V mX12_isFixed k n 0 [some (r_ b), some (i_ q)] [] x Z Q := by
  have hl := pall_len hp F
  have hr := hp.rg
  have e := (hL.2 q.toNat (by omega)).2
  have hR := (pall_rg hp F).2.2 q.toNat
  have hf : fxd (pall p F) q = decide (q + 1 = (pall p F).length ∨ ((pall p F).getD q.toNat (0, 0)).2 = 0) := rfl
  have key : ((pall p F).getD q.toNat (0, 0)).2 ≤ 0 ↔ (q + 1 = (pall p F).length ∨ ((pall p F).getD q.toNat (0, 0)).2 = 0) := by
    by_cases c : q + 1 = (pall p F).length
    · refine ⟨fun _ => Or.inl c, fun _ => ?_⟩
      have : (pall p F).getD q.toNat (0, 0) = (-2, -2) := by
        unfold pall at c ⊢
        rw [getD_app]
        rw [List.length_append] at c
        have c2 : q + 1 = ((pts p F).length + 1 : Nat) := c
        rw [if_neg (by omega), if_pos (by omega)]
      rw [this]; decide
    · have := pall_get (p := p) (F := F) (k := q.toNat) (by omega) (by omega)
      omega
  refine b_X12_isFixed_0 o ⟨by omega, by omega, by rw [e]; exact ⟨by omega, by omega⟩, fun c => ?_, fun c => ?_⟩
  · rw [e] at c
    rw [hf, decide_eq_false (fun q => by have := key.2 q; omega)] at h; exact h
  · rw [e] at c
    rw [hf, decide_eq_true (key.1 c)] at h; exact h
theorem sp_X12_isPoint {k n : Nat} {x : Wx} {Z : Zt} {Q : Option Value → Wx → Zt → Prop} {b : Nat} {q : Int} (o : Is12 x b) {L : List (Int × Int)} (hL : Z b 15 = L.length) (hl : L.length ≤ 27) (hq : Rg q) (h : ∀ r : Int, ((r = 1 ∧ 0 ≤ q ∧ q < L.length) ∨ (r = 0 ∧ ¬ (0 ≤ q ∧ q < L.length))) → Q (some (i_ r)) x Z) : V mX12_isPoint k n 0 [some (r_ b), some (i_ q)] [] x Z Q := by
  refine b_X12_isPoint_0 o ⟨⟨hq, rg_z, by rw [hL]; exact ⟨by omega, by omega⟩⟩, fun r hr => ⟨by omega, h r (by rw [hL] at hr; omega)⟩⟩
theorem sqL_up {p s : Int} : ∀ (m j : Nat), sqL p s j = 1 → j ≤ m → sqL p s m = 1
  | 0, j, h, hj => by rw [show j = 0 by omega] at h; exact h
  | m + 1, j, h, hj => by
    unfold sqL
    split
    · rfl
    · by_cases c : j = m + 1
      · rw [c] at h; unfold sqL at h; rename_i c2; rw [if_neg c2] at h; exact h
      · exact sqL_up m j h (by omega)
theorem sp_X12_isSquare {k n : Nat} {x : Wx} {Z : Zt} {Q : Option Value → Wx → Zt → Prop} {b : Nat} {v : Int} (o : Is12 x b) {p : Int} (hp : IsP p ∧ Z b 11 = p) (hv : Rg v) (h : Q (some (i_ (sq p v))) x Z) : V mX12_isSquare k n 0 [some (r_ b), some (i_ v), none, none] [] x Z Q := by
  obtain ⟨hp', hb⟩ := hp
  have hr := hp'.rg
  have lp : ∀ (m : Nat) (y : Nat), (y : Int) + m = p → V mX12_isSquare k n 4 [some (r_ b), some (i_ v), some (i_ (sqL p v y)), some (i_ (y : Int))] [] x Z Q := by
    intro m
    induction m with
    | zero =>
      intro y hy
      have e : sqL p v y = sq p v := by unfold sq; rw [show p.toNat = y by omega]
      have h01 := sqL_01 p v y
      exact b_X12_isSquare_4 o ⟨⟨by omega, by omega⟩, by rw [hb]; exact ⟨by omega, by omega⟩, fun _ => ⟨h01, by rw [e]; exact h⟩, fun c => by rw [hb] at c; omega⟩
    | succ m ih =>
      intro y hy
      have h01 := sqL_01 p v y
      have hm := mul_bd (t := (y : Int)) (c := 13) (B := (y : Int)) (by omega) (by omega)
      have he := emr ((y : Int) * y) (show 0 < p by omega)
      have nx := ih (y + 1) (by omega)
      have es : sqL p v (y + 1) = if ((y : Int) * y) % p = v then 1 else sqL p v y := rfl
      refine b_X12_isSquare_4 o ⟨⟨by omega, by omega⟩, by rw [hb]; exact ⟨by omega, by omega⟩, fun c => by rw [hb] at c; omega, fun _ => ⟨⟨by omega, by omega⟩, fun c => ?_, fun c => ⟨⟨by omega, by omega⟩, by omega, by omega, by rw [hb]; exact ⟨by omega, by omega⟩, hv, fun d => ?_, fun d => ?_⟩⟩⟩
      · rw [sqL_up (y + 1) y (by omega) (by omega)] at nx; exact nx
      · rw [hb] at d; rw [es, if_neg d, c] at nx; exact nx
      · rw [hb] at d; rw [es, if_pos d] at nx; exact nx
  exact b_X12_isSquare_0 (lp p.toNat 0 (by omega))
theorem sp_X12_shareA {k n : Nat} {x : Wx} {Z : Zt} {Q : Option Value → Wx → Zt → Prop} {b : Nat} (o : Is12 x b) (h : Q (some (i_ (Z b 15 - Z b 11 - 1))) x Z) : V mX12_shareA k n 0 [some (r_ b)] [] x Z Q := b_X12_shareA_0 o h
theorem nsq_ok {p : Int} (hp : IsP p) : 2 ≤ nsq p ∧ nsq p < p ∧ sq p (nsq p) = 0 ∧ ∀ v : Nat, v < 13 → 2 ≤ v → (v : Int) < nsq p → sq p v = 1 := by
  rcases hp with rfl | rfl | rfl | rfl | rfl <;> decide
theorem dX12_noSquare_0 : decode cX12_noSquare 0 = .ok (.iconst 2, 1) := by decide +kernel
theorem dX12_noSquare_1 : decode cX12_noSquare 1 = .ok (.istore_n 1, 1) := by decide +kernel
theorem dX12_noSquare_2 : decode cX12_noSquare 2 = .ok (.aload_n 0, 1) := by decide +kernel
theorem dX12_noSquare_3 : decode cX12_noSquare 3 = .ok (.iload_n 1, 1) := by decide +kernel
theorem dX12_noSquare_4 : decode cX12_noSquare 4 = .ok (.invokevirtual 233, 3) := by decide +kernel
theorem dX12_noSquare_7 : decode cX12_noSquare 7 = .ok (.ifCond .eq 9, 3) := by decide +kernel
theorem dX12_noSquare_10 : decode cX12_noSquare 10 = .ok (.iinc 1 1, 3) := by decide +kernel
theorem dX12_noSquare_13 : decode cX12_noSquare 13 = .ok (.goto (-11), 3) := by decide +kernel
theorem dX12_noSquare_16 : decode cX12_noSquare 16 = .ok (.iload_n 1, 1) := by decide +kernel
theorem dX12_noSquare_17 : decode cX12_noSquare 17 = .ok (.ireturn, 1) := by decide +kernel
set_option maxRecDepth 20000 in
theorem b_X12_noSquare_0 {k n : Nat} {x : Wx} {Z : Zt} {Q : Option Value → Wx → Zt → Prop} {a0 : Nat} 
    (h : V mX12_noSquare k n 2 [some (r_ a0), some (i_ 2)] [] x Z Q) :
    V mX12_noSquare k n 0 [some (r_ a0), none] [] x Z Q :=
  V_iconst dX12_noSquare_0 (V_istore_n (lv' := [some (r_ a0), some (i_ 2)]) dX12_noSquare_1 (Nat.le_of_ble_eq_true rfl) rfl (V_msk [true, true] rfl h))
set_option maxRecDepth 20000 in
theorem b_X12_noSquare_2 {k n : Nat} {x : Wx} {Z : Zt} {Q : Option Value → Wx → Zt → Prop} {a0 : Nat} {v1 : Int} (o_a0 : Is12 x a0)
    (h : ∃ g1 : Int, ((IsP g1 ∧ Z a0 11 = g1) ∧ Rg v1 ∧ (Rg (sq g1 v1) ∧ (((sq g1 v1 = 0) → (Q (some (i_ v1)) x Z)) ∧ ((sq g1 v1 ≠ 0) → (V mX12_noSquare k n 2 [some (r_ a0), some (i_ (v1 + 1))] [] x Z Q)))))) :
    V mX12_noSquare k n 2 [some (r_ a0), some (i_ v1)] [] x Z Q :=
  V_aload_n dX12_noSquare_2 rfl (V_iload_n dX12_noSquare_3 rfl (Exists.elim h (fun g1 w1 => V_callV (k' := 0) (n' := 0) (t := 12) (q := (RX12, TX12, 46)) [i_ v1] [] okX12_isSquare o_a0.1 rfl rfl lm_12_233 liX12_isSquare lqX12_isSquare (Nat.le_of_ble_eq_true rfl) (Nat.le_of_ble_eq_true rfl) (Nat.le_of_ble_eq_true rfl) (cat_of rfl) (Nat.le_of_ble_eq_true rfl) (Nat.zero_le _) (Nat.zero_le _) rfl dX12_noSquare_4 (sp_X12_isSquare o_a0 w1.1 w1.2.1 (V_if_eq (tgt := 16) dX12_noSquare_7 rfl w1.2.2.1 (fun c1 => V_iload_n dX12_noSquare_16 rfl (V_iret (ty := .int) dX12_noSquare_17 rfl rfl (w1.2.2.2.1 c1))) (fun c1 => V_iinc (lv' := [some (r_ a0), some (i_ (v1 + 1))]) dX12_noSquare_10 rfl (Nat.le_of_ble_eq_true rfl) rfl (V_goto (tgt := 2) dX12_noSquare_13 rfl (V_msk [true, true] rfl (w1.2.2.2.2 c1)))))))))
theorem sp_X12_noSquare {k n : Nat} {x : Wx} {Z : Zt} {Q : Option Value → Wx → Zt → Prop} {b : Nat} (o : Is12 x b) {p : Int} (hp : IsP p ∧ Z b 11 = p) (h : Q (some (i_ (nsq p))) x Z) : V mX12_noSquare k n 0 [some (r_ b), none] [] x Z Q := by
  have hr := hp.1.rg
  obtain ⟨n1, n2, n3, n4⟩ := nsq_ok hp.1
  have lp : ∀ (m : Nat) (v : Nat), 2 ≤ v → (v : Int) + m = nsq p → V mX12_noSquare k n 2 [some (r_ b), some (i_ (v : Int))] [] x Z Q := by
    intro m
    induction m with
    | zero =>
      intro v h2 hv
      have e : (v : Int) = nsq p := by omega
      refine b_X12_noSquare_2 o ⟨p, hp, ⟨by omega, by omega⟩, ?_⟩
      rw [e, n3]
      exact ⟨rg_z, fun _ => h, fun c => absurd rfl c⟩
    | succ m ih =>
      intro v h2 hv
      have e := n4 v (by omega) h2 (by omega)
      refine b_X12_noSquare_2 o ⟨p, hp, ⟨by omega, by omega⟩, ?_⟩
      rw [e]
      exact ⟨⟨by decide, by decide⟩, fun c => absurd c (by decide), fun _ => ih (v + 1) (by omega) (by omega)⟩
  exact b_X12_noSquare_0 (lp (nsq p - 2).toNat 2 (by omega) (by omega))
theorem dX12_pointsOfTwo_0 : decode cX12_pointsOfTwo 0 = .ok (.aload_n 0, 1) := by decide +kernel
theorem dX12_pointsOfTwo_1 : decode cX12_pointsOfTwo 1 = .ok (.invokevirtual 236, 3) := by decide +kernel
theorem dX12_pointsOfTwo_4 : decode cX12_pointsOfTwo 4 = .ok (.istore_n 1, 1) := by decide +kernel
theorem dX12_pointsOfTwo_5 : decode cX12_pointsOfTwo 5 = .ok (.iconst 1, 1) := by decide +kernel
theorem dX12_pointsOfTwo_6 : decode cX12_pointsOfTwo 6 = .ok (.istore_n 2, 1) := by decide +kernel
theorem dX12_pointsOfTwo_7 : decode cX12_pointsOfTwo 7 = .ok (.iconst 0, 1) := by decide +kernel
theorem dX12_pointsOfTwo_8 : decode cX12_pointsOfTwo 8 = .ok (.istore_n 3, 1) := by decide +kernel
theorem dX12_pointsOfTwo_9 : decode cX12_pointsOfTwo 9 = .ok (.iload_n 3, 1) := by decide +kernel
theorem dX12_pointsOfTwo_10 : decode cX12_pointsOfTwo 10 = .ok (.aload_n 0, 1) := by decide +kernel
theorem dX12_pointsOfTwo_11 : decode cX12_pointsOfTwo 11 = .ok (.getfield 179, 3) := by decide +kernel
theorem dX12_pointsOfTwo_14 : decode cX12_pointsOfTwo 14 = .ok (.if_icmp .ge 151, 3) := by decide +kernel
theorem dX12_pointsOfTwo_17 : decode cX12_pointsOfTwo 17 = .ok (.iconst 0, 1) := by decide +kernel
theorem dX12_pointsOfTwo_18 : decode cX12_pointsOfTwo 18 = .ok (.istore 4, 2) := by decide +kernel
theorem dX12_pointsOfTwo_20 : decode cX12_pointsOfTwo 20 = .ok (.iload 4, 2) := by decide +kernel
theorem dX12_pointsOfTwo_22 : decode cX12_pointsOfTwo 22 = .ok (.aload_n 0, 1) := by decide +kernel
theorem dX12_pointsOfTwo_23 : decode cX12_pointsOfTwo 23 = .ok (.getfield 179, 3) := by decide +kernel
theorem dX12_pointsOfTwo_26 : decode cX12_pointsOfTwo 26 = .ok (.if_icmp .ge 133, 3) := by decide +kernel
theorem dX12_pointsOfTwo_29 : decode cX12_pointsOfTwo 29 = .ok (.iconst 0, 1) := by decide +kernel
theorem dX12_pointsOfTwo_30 : decode cX12_pointsOfTwo 30 = .ok (.istore 5, 2) := by decide +kernel
theorem dX12_pointsOfTwo_32 : decode cX12_pointsOfTwo 32 = .ok (.iconst 0, 1) := by decide +kernel
theorem dX12_pointsOfTwo_33 : decode cX12_pointsOfTwo 33 = .ok (.istore 6, 2) := by decide +kernel
theorem dX12_pointsOfTwo_35 : decode cX12_pointsOfTwo 35 = .ok (.aload_n 0, 1) := by decide +kernel
theorem dX12_pointsOfTwo_36 : decode cX12_pointsOfTwo 36 = .ok (.iconst 0, 1) := by decide +kernel
theorem dX12_pointsOfTwo_37 : decode cX12_pointsOfTwo 37 = .ok (.invokevirtual 192, 3) := by decide +kernel
theorem dX12_pointsOfTwo_40 : decode cX12_pointsOfTwo 40 = .ok (.istore 7, 2) := by decide +kernel
theorem dX12_pointsOfTwo_42 : decode cX12_pointsOfTwo 42 = .ok (.iload 7, 2) := by decide +kernel
theorem dX12_pointsOfTwo_44 : decode cX12_pointsOfTwo 44 = .ok (.ifCond .lt 59, 3) := by decide +kernel
theorem dX12_pointsOfTwo_47 : decode cX12_pointsOfTwo 47 = .ok (.aload_n 0, 1) := by decide +kernel
theorem dX12_pointsOfTwo_48 : decode cX12_pointsOfTwo 48 = .ok (.iload 5, 2) := by decide +kernel
theorem dX12_pointsOfTwo_50 : decode cX12_pointsOfTwo 50 = .ok (.iload_n 3, 1) := by decide +kernel
theorem dX12_pointsOfTwo_51 : decode cX12_pointsOfTwo 51 = .ok (.imul, 1) := by decide +kernel
theorem dX12_pointsOfTwo_52 : decode cX12_pointsOfTwo 52 = .ok (.aload_n 0, 1) := by decide +kernel
theorem dX12_pointsOfTwo_53 : decode cX12_pointsOfTwo 53 = .ok (.iload 6, 2) := by decide +kernel
theorem dX12_pointsOfTwo_55 : decode cX12_pointsOfTwo 55 = .ok (.iload 4, 2) := by decide +kernel
theorem dX12_pointsOfTwo_57 : decode cX12_pointsOfTwo 57 = .ok (.imul, 1) := by decide +kernel
theorem dX12_pointsOfTwo_58 : decode cX12_pointsOfTwo 58 = .ok (.invokevirtual 182, 3) := by decide +kernel
theorem dX12_pointsOfTwo_61 : decode cX12_pointsOfTwo 61 = .ok (.iload_n 1, 1) := by decide +kernel
theorem dX12_pointsOfTwo_62 : decode cX12_pointsOfTwo 62 = .ok (.imul, 1) := by decide +kernel
theorem dX12_pointsOfTwo_63 : decode cX12_pointsOfTwo 63 = .ok (.iadd, 1) := by decide +kernel
theorem dX12_pointsOfTwo_64 : decode cX12_pointsOfTwo 64 = .ok (.aload_n 0, 1) := by decide +kernel
theorem dX12_pointsOfTwo_65 : decode cX12_pointsOfTwo 65 = .ok (.iconst 0, 1) := by decide +kernel
theorem dX12_pointsOfTwo_66 : decode cX12_pointsOfTwo 66 = .ok (.iload 7, 2) := by decide +kernel
theorem dX12_pointsOfTwo_68 : decode cX12_pointsOfTwo 68 = .ok (.invokevirtual 185, 3) := by decide +kernel
theorem dX12_pointsOfTwo_71 : decode cX12_pointsOfTwo 71 = .ok (.iadd, 1) := by decide +kernel
theorem dX12_pointsOfTwo_72 : decode cX12_pointsOfTwo 72 = .ok (.invokevirtual 182, 3) := by decide +kernel
theorem dX12_pointsOfTwo_75 : decode cX12_pointsOfTwo 75 = .ok (.istore 8, 2) := by decide +kernel
theorem dX12_pointsOfTwo_77 : decode cX12_pointsOfTwo 77 = .ok (.aload_n 0, 1) := by decide +kernel
theorem dX12_pointsOfTwo_78 : decode cX12_pointsOfTwo 78 = .ok (.iload 5, 2) := by decide +kernel
theorem dX12_pointsOfTwo_80 : decode cX12_pointsOfTwo 80 = .ok (.iload 4, 2) := by decide +kernel
theorem dX12_pointsOfTwo_82 : decode cX12_pointsOfTwo 82 = .ok (.imul, 1) := by decide +kernel
theorem dX12_pointsOfTwo_83 : decode cX12_pointsOfTwo 83 = .ok (.iload 6, 2) := by decide +kernel
theorem dX12_pointsOfTwo_85 : decode cX12_pointsOfTwo 85 = .ok (.iload_n 3, 1) := by decide +kernel
theorem dX12_pointsOfTwo_86 : decode cX12_pointsOfTwo 86 = .ok (.imul, 1) := by decide +kernel
theorem dX12_pointsOfTwo_87 : decode cX12_pointsOfTwo 87 = .ok (.iadd, 1) := by decide +kernel
theorem dX12_pointsOfTwo_88 : decode cX12_pointsOfTwo 88 = .ok (.invokevirtual 182, 3) := by decide +kernel
theorem dX12_pointsOfTwo_91 : decode cX12_pointsOfTwo 91 = .ok (.istore 6, 2) := by decide +kernel
theorem dX12_pointsOfTwo_93 : decode cX12_pointsOfTwo 93 = .ok (.iload 8, 2) := by decide +kernel
theorem dX12_pointsOfTwo_95 : decode cX12_pointsOfTwo 95 = .ok (.istore 5, 2) := by decide +kernel
theorem dX12_pointsOfTwo_97 : decode cX12_pointsOfTwo 97 = .ok (.iinc 7 (-1), 3) := by decide +kernel
theorem dX12_pointsOfTwo_100 : decode cX12_pointsOfTwo 100 = .ok (.goto (-58), 3) := by decide +kernel
theorem dX12_pointsOfTwo_103 : decode cX12_pointsOfTwo 103 = .ok (.iload_n 2, 1) := by decide +kernel
theorem dX12_pointsOfTwo_104 : decode cX12_pointsOfTwo 104 = .ok (.iload 5, 2) := by decide +kernel
theorem dX12_pointsOfTwo_106 : decode cX12_pointsOfTwo 106 = .ok (.ifCond .ne 12, 3) := by decide +kernel
theorem dX12_pointsOfTwo_109 : decode cX12_pointsOfTwo 109 = .ok (.iload 6, 2) := by decide +kernel
theorem dX12_pointsOfTwo_111 : decode cX12_pointsOfTwo 111 = .ok (.ifCond .ne 7, 3) := by decide +kernel
theorem dX12_pointsOfTwo_114 : decode cX12_pointsOfTwo 114 = .ok (.iconst 1, 1) := by decide +kernel
theorem dX12_pointsOfTwo_115 : decode cX12_pointsOfTwo 115 = .ok (.goto 36, 3) := by decide +kernel
theorem dX12_pointsOfTwo_118 : decode cX12_pointsOfTwo 118 = .ok (.aload_n 0, 1) := by decide +kernel
theorem dX12_pointsOfTwo_119 : decode cX12_pointsOfTwo 119 = .ok (.aload_n 0, 1) := by decide +kernel
theorem dX12_pointsOfTwo_120 : decode cX12_pointsOfTwo 120 = .ok (.iload 5, 2) := by decide +kernel
theorem dX12_pointsOfTwo_122 : decode cX12_pointsOfTwo 122 = .ok (.iload 5, 2) := by decide +kernel
theorem dX12_pointsOfTwo_124 : decode cX12_pointsOfTwo 124 = .ok (.imul, 1) := by decide +kernel
theorem dX12_pointsOfTwo_125 : decode cX12_pointsOfTwo 125 = .ok (.aload_n 0, 1) := by decide +kernel
theorem dX12_pointsOfTwo_126 : decode cX12_pointsOfTwo 126 = .ok (.iload 6, 2) := by decide +kernel
theorem dX12_pointsOfTwo_128 : decode cX12_pointsOfTwo 128 = .ok (.iload 6, 2) := by decide +kernel
theorem dX12_pointsOfTwo_130 : decode cX12_pointsOfTwo 130 = .ok (.imul, 1) := by decide +kernel
theorem dX12_pointsOfTwo_131 : decode cX12_pointsOfTwo 131 = .ok (.invokevirtual 182, 3) := by decide +kernel
theorem dX12_pointsOfTwo_134 : decode cX12_pointsOfTwo 134 = .ok (.iload_n 1, 1) := by decide +kernel
theorem dX12_pointsOfTwo_135 : decode cX12_pointsOfTwo 135 = .ok (.imul, 1) := by decide +kernel
theorem dX12_pointsOfTwo_136 : decode cX12_pointsOfTwo 136 = .ok (.isub, 1) := by decide +kernel
theorem dX12_pointsOfTwo_137 : decode cX12_pointsOfTwo 137 = .ok (.invokevirtual 182, 3) := by decide +kernel
theorem dX12_pointsOfTwo_140 : decode cX12_pointsOfTwo 140 = .ok (.invokevirtual 233, 3) := by decide +kernel
theorem dX12_pointsOfTwo_143 : decode cX12_pointsOfTwo 143 = .ok (.ifCond .eq 7, 3) := by decide +kernel
theorem dX12_pointsOfTwo_146 : decode cX12_pointsOfTwo 146 = .ok (.iconst 2, 1) := by decide +kernel
theorem dX12_pointsOfTwo_147 : decode cX12_pointsOfTwo 147 = .ok (.goto 4, 3) := by decide +kernel
theorem dX12_pointsOfTwo_150 : decode cX12_pointsOfTwo 150 = .ok (.iconst 0, 1) := by decide +kernel
theorem dX12_pointsOfTwo_151 : decode cX12_pointsOfTwo 151 = .ok (.iadd, 1) := by decide +kernel
theorem dX12_pointsOfTwo_152 : decode cX12_pointsOfTwo 152 = .ok (.istore_n 2, 1) := by decide +kernel
theorem dX12_pointsOfTwo_153 : decode cX12_pointsOfTwo 153 = .ok (.iinc 4 1, 3) := by decide +kernel
theorem dX12_pointsOfTwo_156 : decode cX12_pointsOfTwo 156 = .ok (.goto (-136), 3) := by decide +kernel
theorem dX12_pointsOfTwo_159 : decode cX12_pointsOfTwo 159 = .ok (.iinc 3 1, 3) := by decide +kernel
theorem dX12_pointsOfTwo_162 : decode cX12_pointsOfTwo 162 = .ok (.goto (-153), 3) := by decide +kernel
theorem dX12_pointsOfTwo_165 : decode cX12_pointsOfTwo 165 = .ok (.iload_n 2, 1) := by decide +kernel
theorem dX12_pointsOfTwo_166 : decode cX12_pointsOfTwo 166 = .ok (.ireturn, 1) := by decide +kernel
set_option maxRecDepth 20000 in
theorem b_X12_pointsOfTwo_0 {k n : Nat} {x : Wx} {Z : Zt} {Q : Option Value → Wx → Zt → Prop} {a0 : Nat} (o_a0 : Is12 x a0)
    (h : ∃ g1 : Int, ((IsP g1 ∧ Z a0 11 = g1) ∧ (V mX12_pointsOfTwo k n 9 [some (r_ a0), some (i_ (nsq g1)), some (i_ 1), some (i_ 0), none, none, none, none, none] [] x Z Q))) :
    V mX12_pointsOfTwo k n 0 [some (r_ a0), none, none, none, none, none, none, none, none] [] x Z Q :=
  V_aload_n dX12_pointsOfTwo_0 rfl (Exists.elim h (fun g1 w1 => V_callV (k' := 0) (n' := 0) (t := 12) (q := (RX12, TX12, 46)) [] [] okX12_noSquare o_a0.1 rfl rfl lm_12_236 liX12_noSquare lqX12_noSquare (Nat.le_of_ble_eq_true rfl) (Nat.le_of_ble_eq_true rfl) (Nat.le_of_ble_eq_true rfl) (cat_of rfl) (Nat.le_of_ble_eq_true rfl) (Nat.zero_le _) (Nat.zero_le _) rfl dX12_pointsOfTwo_1 (sp_X12_noSquare o_a0 w1.1 (V_istore_n (lv' := [some (r_ a0), some (i_ (nsq g1)), none, none, none, none, none, none, none]) dX12_pointsOfTwo_4 (Nat.le_of_ble_eq_true rfl) rfl (V_iconst dX12_pointsOfTwo_5 (V_istore_n (lv' := [some (r_ a0), some (i_ (nsq g1)), some (i_ 1), none, none, none, none, none, none]) dX12_pointsOfTwo_6 (Nat.le_of_ble_eq_true rfl) rfl (V_iconst dX12_pointsOfTwo_7 (V_istore_n (lv' := [some (r_ a0), some (i_ (nsq g1)), some (i_ 1), some (i_ 0), none, none, none, none, none]) dX12_pointsOfTwo_8 (Nat.le_of_ble_eq_true rfl) rfl (V_msk [true, true, true, true, false, false, false, false, false] rfl w1.2)))))))))
set_option maxRecDepth 20000 in
theorem b_X12_pointsOfTwo_9 {k n : Nat} {x : Wx} {Z : Zt} {Q : Option Value → Wx → Zt → Prop} {a0 : Nat} {v1 : Int} {v2 : Int} {v3 : Int} (o_a0 : Is12 x a0)
    (h : Rg v3 ∧ Rg (Z a0 11) ∧ (((Z a0 11 ≤ v3) → (Q (some (i_ v2)) x Z)) ∧ ((v3 < Z a0 11) → (V mX12_pointsOfTwo k n 20 [some (r_ a0), some (i_ v1), some (i_ v2), some (i_ v3), some (i_ 0), none, none, none, none] [] x Z Q)))) :
    V mX12_pointsOfTwo k n 9 [some (r_ a0), some (i_ v1), some (i_ v2), some (i_ v3), none, none, none, none, none] [] x Z Q :=
  V_iload_n dX12_pointsOfTwo_9 rfl (V_aload_n dX12_pointsOfTwo_10 rfl (G_12_11 o_a0.1 lf_12_179 dX12_pointsOfTwo_11 (V_icmp_ge (tgt := 165) dX12_pointsOfTwo_14 rfl h.1 h.2.1 (fun c1 => V_iload_n dX12_pointsOfTwo_165 rfl (V_iret (ty := .int) dX12_pointsOfTwo_166 rfl rfl (h.2.2.1 c1))) (fun c1 => V_iconst dX12_pointsOfTwo_17 (V_istore (lv' := [some (r_ a0), some (i_ v1), some (i_ v2), some (i_ v3), some (i_ 0), none, none, none, none]) dX12_pointsOfTwo_18 (Nat.le_of_ble_eq_true rfl) rfl (V_msk [true, true, true, true, true, false, false, false, false] rfl (h.2.2.2 c1)))))))
set_option maxRecDepth 20000 in
theorem b_X12_pointsOfTwo_20 {k n : Nat} {x : Wx} {Z : Zt} {Q : Option Value → Wx → Zt → Prop} {a0 : Nat} {v1 : Int} {v2 : Int} {v3 : Int} {v4 : Int} (o_a0 : Is12 x a0)
    (h : Rg v4 ∧ Rg (Z a0 11) ∧ (((Z a0 11 ≤ v4) → (V mX12_pointsOfTwo k n 9 [some (r_ a0), some (i_ v1), some (i_ v2), some (i_ (v3 + 1)), none, none, none, none, none] [] x Z Q)) ∧ ((v4 < Z a0 11) → (∃ g1 : Nat → Nat → Int, (MS Z a0 g1 ∧ (0 ≤ (0 : Int) ∧ (0 : Int) < 27) ∧ (∀ i : Nat, i < 24 → Rg (g1 (0 : Int).toNat i)) ∧ (V mX12_pointsOfTwo k n 42 [some (r_ a0), some (i_ v1), some (i_ v2), some (i_ v3), some (i_ v4), some (i_ 0), some (i_ 0), some (i_ (pd (g1 (0 : Int).toNat))), none] [] x Z Q)))))) :
    V mX12_pointsOfTwo k n 20 [some (r_ a0), some (i_ v1), some (i_ v2), some (i_ v3), some (i_ v4), none, none, none, none] [] x Z Q :=
  V_iload dX12_pointsOfTwo_20 rfl (V_aload_n dX12_pointsOfTwo_22 rfl (G_12_11 o_a0.1 lf_12_179 dX12_pointsOfTwo_23 (V_icmp_ge (tgt := 159) dX12_pointsOfTwo_26 rfl h.1 h.2.1 (fun c1 => V_iinc (lv' := [some (r_ a0), some (i_ v1), some (i_ v2), some (i_ (v3 + 1)), some (i_ v4), none, none, none, none]) dX12_pointsOfTwo_159 rfl (Nat.le_of_ble_eq_true rfl) rfl (V_goto (tgt := 9) dX12_pointsOfTwo_162 rfl (V_msk [true, true, true, true, false, false, false, false, false] rfl (h.2.2.1 c1)))) (fun c1 => V_iconst dX12_pointsOfTwo_29 (V_istore (lv' := [some (r_ a0), some (i_ v1), some (i_ v2), some (i_ v3), some (i_ v4), some (i_ 0), none, none, none]) dX12_pointsOfTwo_30 (Nat.le_of_ble_eq_true rfl) rfl (V_iconst dX12_pointsOfTwo_32 (V_istore (lv' := [some (r_ a0), some (i_ v1), some (i_ v2), some (i_ v3), some (i_ v4), some (i_ 0), some (i_ 0), none, none]) dX12_pointsOfTwo_33 (Nat.le_of_ble_eq_true rfl) rfl (V_aload_n dX12_pointsOfTwo_35 rfl (V_iconst dX12_pointsOfTwo_36 (Exists.elim (h.2.2.2 c1) (fun g1 w1 => V_callV (k' := 0) (n' := 0) (t := 12) (q := (RX12, TX12, 46)) [i_ 0] [] okX12_deg o_a0.1 rfl rfl lm_12_192 liX12_deg lqX12_deg (Nat.le_of_ble_eq_true rfl) (Nat.le_of_ble_eq_true rfl) (Nat.le_of_ble_eq_true rfl) (cat_of rfl) (Nat.le_of_ble_eq_true rfl) (Nat.zero_le _) (Nat.zero_le _) rfl dX12_pointsOfTwo_37 (sp_X12_deg o_a0 w1.1 w1.2.1 w1.2.2.1 (V_istore (lv' := [some (r_ a0), some (i_ v1), some (i_ v2), some (i_ v3), some (i_ v4), some (i_ 0), some (i_ 0), some (i_ (pd (g1 (0 : Int).toNat))), none]) dX12_pointsOfTwo_40 (Nat.le_of_ble_eq_true rfl) rfl (V_msk [true, true, true, true, true, true, true, true, false] rfl w1.2.2.2))))))))))))))
set_option maxRecDepth 20000 in
theorem b_X12_pointsOfTwo_42 {k n : Nat} {x : Wx} {Z : Zt} {Q : Option Value → Wx → Zt → Prop} {a0 : Nat} {v1 : Int} {v2 : Int} {v3 : Int} {v4 : Int} {v5 : Int} {v6 : Int} {v7 : Int} (o_a0 : Is12 x a0)
    (h : Rg v7 ∧ (((v7 < 0) → (Rg v5 ∧ (((v5 ≠ 0) → (V mX12_pointsOfTwo k n 118 [some (r_ a0), some (i_ v1), none, some (i_ v3), some (i_ v4), some (i_ v5), some (i_ v6), none, none] [i_ v2] x Z Q)) ∧ ((v5 = 0) → (Rg v6 ∧ (((v6 ≠ 0) → (V mX12_pointsOfTwo k n 118 [some (r_ a0), some (i_ v1), none, some (i_ v3), some (i_ v4), some (i_ v5), some (i_ v6), none, none] [i_ v2] x Z Q)) ∧ ((v6 = 0) → (V mX12_pointsOfTwo k n 151 [some (r_ a0), some (i_ v1), none, some (i_ v3), some (i_ v4), none, none, none, none] [i_ 1, i_ v2] x Z Q)))))))) ∧ ((0 ≤ v7) → (Rg (v6 * v4) ∧ 0 < Z a0 11 ∧ Z a0 11 ≤ 13 ∧ ((0 ≤ 24 * (0 : Int) + v7 ∧ 24 * (0 : Int) + v7 < 648) ∧ (Rg (((v5 * v3) + (((v6 * v4) % Z a0 11) * v1)) + (Z (a0 + 4) (24 * (0 : Int) + v7).toNat)) ∧ (∀ i1 : Int, i1 = (((v5 * v3) + (((v6 * v4) % Z a0 11) * v1)) + (Z (a0 + 4) (24 * (0 : Int) + v7).toNat)) % Z a0 11 → (Rg ((v5 * v4) + (v6 * v3)) ∧ (V mX12_pointsOfTwo k n 42 [some (r_ a0), some (i_ v1), some (i_ v2), some (i_ v3), some (i_ v4), some (i_ i1), some (i_ (((v5 * v4) + (v6 * v3)) % Z a0 11)), some (i_ (v7 + (-1))), none] [] x Z Q))))))))) :
    V mX12_pointsOfTwo k n 42 [some (r_ a0), some (i_ v1), some (i_ v2), some (i_ v3), some (i_ v4), some (i_ v5), some (i_ v6), some (i_ v7), none] [] x Z Q :=
  V_iload dX12_pointsOfTwo_42 rfl (V_if_lt (tgt := 103) dX12_pointsOfTwo_44 rfl h.1 (fun c1 => V_iload_n dX12_pointsOfTwo_103 rfl (V_iload dX12_pointsOfTwo_104 rfl (V_if_ne (tgt := 118) dX12_pointsOfTwo_106 rfl (h.2.1 c1).1 (fun c2 => V_msk [true, true, false, true, true, true, true, false, false] rfl ((h.2.1 c1).2.1 c2)) (fun c2 => V_iload dX12_pointsOfTwo_109 rfl (V_if_ne (tgt := 118) dX12_pointsOfTwo_111 rfl ((h.2.1 c1).2.2 c2).1 (fun c3 => V_msk [true, true, false, true, true, true, true, false, false] rfl (((h.2.1 c1).2.2 c2).2.1 c3)) (fun c3 => V_iconst dX12_pointsOfTwo_114 (V_goto (tgt := 151) dX12_pointsOfTwo_115 rfl (V_msk [true, true, false, true, true, false, false, false, false] rfl (((h.2.1 c1).2.2 c2).2.2 c3))))))))) (fun c1 => V_aload_n dX12_pointsOfTwo_47 rfl (V_iload dX12_pointsOfTwo_48 rfl (V_iload_n dX12_pointsOfTwo_50 rfl (V_imul dX12_pointsOfTwo_51 (V_aload_n dX12_pointsOfTwo_52 rfl (V_iload dX12_pointsOfTwo_53 rfl (V_iload dX12_pointsOfTwo_55 rfl (V_imul dX12_pointsOfTwo_57 (V_callV (k' := 0) (n' := 0) (t := 12) (q := (RX12, TX12, 46)) [i_ (v6 * v4)] [i_ (v5 * v3), r_ a0] okX12_mod o_a0.1 rfl rfl lm_12_182 liX12_mod lqX12_mod (Nat.le_of_ble_eq_true rfl) (Nat.le_of_ble_eq_true rfl) (Nat.le_of_ble_eq_true rfl) (cat_of rfl) (Nat.le_of_ble_eq_true rfl) (Nat.zero_le _) (Nat.zero_le _) rfl dX12_pointsOfTwo_58 (sp_X12_mod o_a0 (h.2.2 c1).1 (h.2.2 c1).2.1 (h.2.2 c1).2.2.1 (V_iload_n dX12_pointsOfTwo_61 rfl (V_imul dX12_pointsOfTwo_62 (V_iadd dX12_pointsOfTwo_63 (V_aload_n dX12_pointsOfTwo_64 rfl (V_iconst dX12_pointsOfTwo_65 (V_iload dX12_pointsOfTwo_66 rfl (V_callV (k' := 0) (n' := 0) (t := 12) (q := (RX12, TX12, 46)) [i_ 0, i_ v7] [i_ ((v5 * v3) + (((v6 * v4) % Z a0 11) * v1)), r_ a0] okX12_at o_a0.1 rfl rfl lm_12_185 liX12_at lqX12_at (Nat.le_of_ble_eq_true rfl) (Nat.le_of_ble_eq_true rfl) (Nat.le_of_ble_eq_true rfl) (cat_of rfl) (Nat.le_of_ble_eq_true rfl) (Nat.zero_le _) (Nat.zero_le _) rfl dX12_pointsOfTwo_68 (sp_X12_at o_a0 (h.2.2 c1).2.2.2.1 (V_iadd dX12_pointsOfTwo_71 (V_callV (k' := 0) (n' := 0) (t := 12) (q := (RX12, TX12, 46)) [i_ (((v5 * v3) + (((v6 * v4) % Z a0 11) * v1)) + (Z (a0 + 4) (24 * (0 : Int) + v7).toNat))] [] okX12_mod o_a0.1 rfl rfl lm_12_182 liX12_mod lqX12_mod (Nat.le_of_ble_eq_true rfl) (Nat.le_of_ble_eq_true rfl) (Nat.le_of_ble_eq_true rfl) (cat_of rfl) (Nat.le_of_ble_eq_true rfl) (Nat.zero_le _) (Nat.zero_le _) rfl dX12_pointsOfTwo_72 (sp_X12_mod o_a0 (h.2.2 c1).2.2.2.2.1 (h.2.2 c1).2.1 (h.2.2 c1).2.2.1 (V_nmi (fun i1 ei1 => V_istore (lv' := [some (r_ a0), some (i_ v1), some (i_ v2), some (i_ v3), some (i_ v4), some (i_ v5), some (i_ v6), some (i_ v7), some (i_ i1)]) dX12_pointsOfTwo_75 (Nat.le_of_ble_eq_true rfl) rfl (V_aload_n dX12_pointsOfTwo_77 rfl (V_iload dX12_pointsOfTwo_78 rfl (V_iload dX12_pointsOfTwo_80 rfl (V_imul dX12_pointsOfTwo_82 (V_iload dX12_pointsOfTwo_83 rfl (V_iload_n dX12_pointsOfTwo_85 rfl (V_imul dX12_pointsOfTwo_86 (V_iadd dX12_pointsOfTwo_87 (V_callV (k' := 0) (n' := 0) (t := 12) (q := (RX12, TX12, 46)) [i_ ((v5 * v4) + (v6 * v3))] [] okX12_mod o_a0.1 rfl rfl lm_12_182 liX12_mod lqX12_mod (Nat.le_of_ble_eq_true rfl) (Nat.le_of_ble_eq_true rfl) (Nat.le_of_ble_eq_true rfl) (cat_of rfl) (Nat.le_of_ble_eq_true rfl) (Nat.zero_le _) (Nat.zero_le _) rfl dX12_pointsOfTwo_88 (sp_X12_mod o_a0 ((h.2.2 c1).2.2.2.2.2 i1 ei1).1 (h.2.2 c1).2.1 (h.2.2 c1).2.2.1 (V_istore (lv' := [some (r_ a0), some (i_ v1), some (i_ v2), some (i_ v3), some (i_ v4), some (i_ v5), some (i_ (((v5 * v4) + (v6 * v3)) % Z a0 11)), some (i_ v7), some (i_ i1)]) dX12_pointsOfTwo_91 (Nat.le_of_ble_eq_true rfl) rfl (V_iload dX12_pointsOfTwo_93 rfl (V_istore (lv' := [some (r_ a0), some (i_ v1), some (i_ v2), some (i_ v3), some (i_ v4), some (i_ i1), some (i_ (((v5 * v4) + (v6 * v3)) % Z a0 11)), some (i_ v7), some (i_ i1)]) dX12_pointsOfTwo_95 (Nat.le_of_ble_eq_true rfl) rfl (V_iinc (lv' := [some (r_ a0), some (i_ v1), some (i_ v2), some (i_ v3), some (i_ v4), some (i_ i1), some (i_ (((v5 * v4) + (v6 * v3)) % Z a0 11)), some (i_ (v7 + (-1))), some (i_ i1)]) dX12_pointsOfTwo_97 rfl (Nat.le_of_ble_eq_true rfl) rfl (V_goto (tgt := 42) dX12_pointsOfTwo_100 rfl (V_msk [true, true, true, true, true, true, true, true, false] rfl ((h.2.2 c1).2.2.2.2.2 i1 ei1).2))))))))))))))))))))))))))))))))))))))))
set_option maxRecDepth 20000 in
theorem b_X12_pointsOfTwo_118 {k n : Nat} {x : Wx} {Z : Zt} {Q : Option Value → Wx → Zt → Prop} {a0 : Nat} {v1 : Int} {v3 : Int} {v4 : Int} {v5 : Int} {v6 : Int} {t0 : Int} (o_a0 : Is12 x a0)
    (h : Rg (v6 * v6) ∧ 0 < Z a0 11 ∧ Z a0 11 ≤ 13 ∧ (Rg ((v5 * v5) - (((v6 * v6) % Z a0 11) * v1)) ∧ (∃ g1 : Int, ((IsP g1 ∧ Z a0 11 = g1) ∧ Rg (((v5 * v5) - (((v6 * v6) % Z a0 11) * v1)) % Z a0 11) ∧ (Rg (sq g1 (((v5 * v5) - (((v6 * v6) % Z a0 11) * v1)) % Z a0 11)) ∧ (((sq g1 (((v5 * v5) - (((v6 * v6) % Z a0 11) * v1)) % Z a0 11) = 0) → (V mX12_pointsOfTwo k n 151 [some (r_ a0), some (i_ v1), none, some (i_ v3), some (i_ v4), none, none, none, none] [i_ 0, i_ t0] x Z Q)) ∧ ((sq g1 (((v5 * v5) - (((v6 * v6) % Z a0 11) * v1)) % Z a0 11) ≠ 0) → (V mX12_pointsOfTwo k n 151 [some (r_ a0), some (i_ v1), none, some (i_ v3), some (i_ v4), none, none, none, none] [i_ 2, i_ t0] x Z Q)))))))) :
    V mX12_pointsOfTwo k n 118 [some (r_ a0), some (i_ v1), none, some (i_ v3), some (i_ v4), some (i_ v5), some (i_ v6), none, none] [i_ t0] x Z Q :=
  V_aload_n dX12_pointsOfTwo_118 rfl (V_aload_n dX12_pointsOfTwo_119 rfl (V_iload dX12_pointsOfTwo_120 rfl (V_iload dX12_pointsOfTwo_122 rfl (V_imul dX12_pointsOfTwo_124 (V_aload_n dX12_pointsOfTwo_125 rfl (V_iload dX12_pointsOfTwo_126 rfl (V_iload dX12_pointsOfTwo_128 rfl (V_imul dX12_pointsOfTwo_130 (V_callV (k' := 0) (n' := 0) (t := 12) (q := (RX12, TX12, 46)) [i_ (v6 * v6)] [i_ (v5 * v5), r_ a0, r_ a0, i_ t0] okX12_mod o_a0.1 rfl rfl lm_12_182 liX12_mod lqX12_mod (Nat.le_of_ble_eq_true rfl) (Nat.le_of_ble_eq_true rfl) (Nat.le_of_ble_eq_true rfl) (cat_of rfl) (Nat.le_of_ble_eq_true rfl) (Nat.zero_le _) (Nat.zero_le _) rfl dX12_pointsOfTwo_131 (sp_X12_mod o_a0 h.1 h.2.1 h.2.2.1 (V_iload_n dX12_pointsOfTwo_134 rfl (V_imul dX12_pointsOfTwo_135 (V_isub dX12_pointsOfTwo_136 (V_callV (k' := 0) (n' := 0) (t := 12) (q := (RX12, TX12, 46)) [i_ ((v5 * v5) - (((v6 * v6) % Z a0 11) * v1))] [r_ a0, i_ t0] okX12_mod o_a0.1 rfl rfl lm_12_182 liX12_mod lqX12_mod (Nat.le_of_ble_eq_true rfl) (Nat.le_of_ble_eq_true rfl) (Nat.le_of_ble_eq_true rfl) (cat_of rfl) (Nat.le_of_ble_eq_true rfl) (Nat.zero_le _) (Nat.zero_le _) rfl dX12_pointsOfTwo_137 (sp_X12_mod o_a0 h.2.2.2.1 h.2.1 h.2.2.1 (Exists.elim h.2.2.2.2 (fun g1 w1 => V_callV (k' := 0) (n' := 0) (t := 12) (q := (RX12, TX12, 46)) [i_ (((v5 * v5) - (((v6 * v6) % Z a0 11) * v1)) % Z a0 11)] [i_ t0] okX12_isSquare o_a0.1 rfl rfl lm_12_233 liX12_isSquare lqX12_isSquare (Nat.le_of_ble_eq_true rfl) (Nat.le_of_ble_eq_true rfl) (Nat.le_of_ble_eq_true rfl) (cat_of rfl) (Nat.le_of_ble_eq_true rfl) (Nat.zero_le _) (Nat.zero_le _) rfl dX12_pointsOfTwo_140 (sp_X12_isSquare o_a0 w1.1 w1.2.1 (V_if_eq (tgt := 150) dX12_pointsOfTwo_143 rfl w1.2.2.1 (fun c1 => V_iconst dX12_pointsOfTwo_150 (V_msk [true, true, false, true, true, false, false, false, false] rfl (w1.2.2.2.1 c1))) (fun c1 => V_iconst dX12_pointsOfTwo_146 (V_goto (tgt := 151) dX12_pointsOfTwo_147 rfl (V_msk [true, true, false, true, true, false, false, false, false] rfl (w1.2.2.2.2 c1)))))))))))))))))))))))
set_option maxRecDepth 20000 in
theorem b_X12_pointsOfTwo_151 {k n : Nat} {x : Wx} {Z : Zt} {Q : Option Value → Wx → Zt → Prop} {a0 : Nat} {v1 : Int} {v3 : Int} {v4 : Int} {t0 : Int} {t1 : Int} 
    (h : V mX12_pointsOfTwo k n 20 [some (r_ a0), some (i_ v1), some (i_ (t0 + t1)), some (i_ v3), some (i_ (v4 + 1)), none, none, none, none] [] x Z Q) :
    V mX12_pointsOfTwo k n 151 [some (r_ a0), some (i_ v1), none, some (i_ v3), some (i_ v4), none, none, none, none] [i_ t1, i_ t0] x Z Q :=
  V_iadd dX12_pointsOfTwo_151 (V_istore_n (lv' := [some (r_ a0), some (i_ v1), some (i_ (t0 + t1)), some (i_ v3), some (i_ v4), none, none, none, none]) dX12_pointsOfTwo_152 (Nat.le_of_ble_eq_true rfl) rfl (V_iinc (lv' := [some (r_ a0), some (i_ v1), some (i_ (t0 + t1)), some (i_ v3), some (i_ (v4 + 1)), none, none, none, none]) dX12_pointsOfTwo_153 rfl (Nat.le_of_ble_eq_true rfl) rfl (V_goto (tgt := 20) dX12_pointsOfTwo_156 rfl (V_msk [true, true, true, true, true, false, false, false, false] rfl h))))
theorem sp_X12_pointsOfTwo {k n : Nat} {x : Wx} {Z : Zt} {Q : Option Value → Wx → Zt → Prop} {b : Nat} (o : Is12 x b) {P : Nat → Nat → Int} {p : Int} (hp : IsP p ∧ Z b 11 = p) (hP : MS Z b P) (hf : InP p (P 0) ∧ Fin (P 0)) (h : Q (some (i_ (sqf p (P 0)))) x Z) : V mX12_pointsOfTwo k n 0 [some (r_ b), none, none, none, none, none, none, none, none] [] x Z Q := by
  obtain ⟨hp', hb⟩ := hp
  have hr := hp'.rg
  have hn := nsq_rg hp'
  have hp0 : 0 < p := by omega
  have k1 := pd_ge (P 0)
  have k2 := pd_lt (P 0)
  -- the value
  have lp : ∀ (m : Nat) (u v a c t : Int), m ≤ 24 → (0 ≤ u ∧ u < p) → (0 ≤ v ∧ v < p) → (0 ≤ a ∧ a < p) → (0 ≤ c ∧ c < p) → hq p (nsq p) (P 0) u v m (a, c) = hq p (nsq p) (P 0) u v 24 (0, 0) → V mX12_pointsOfTwo k n 20 [some (r_ b), some (i_ (nsq p)), some (i_ (t + pov p (P 0) u v)), some (i_ u), some (i_ (v + 1)), none, none, none, none] [] x Z Q → V mX12_pointsOfTwo k n 42 [some (r_ b), some (i_ (nsq p)), some (i_ t), some (i_ u), some (i_ v), some (i_ a), some (i_ c), some (i_ ((m : Int) - 1)), none] [] x Z Q := by
    intro m
    induction m with
    | zero =>
      intro u v a c t _ hu hv ha hc he nx
      have he : (a, c) = hq p (nsq p) (P 0) u v 24 (0, 0) := he
      unfold pov at nx
      rw [← he] at nx
      have hcc := mul_bd (t := c) (c := 13) (B := c) (by omega) (by omega)
      have haa := mul_bd (t := a) (c := 13) (B := a) (by omega) (by omega)
      have hm := emr (c * c) hp0
      have hmn := mul_bd (t := c * c % p) (c := 13) (B := nsq p) (by omega) (by omega)
      have hme := emr (a * a - c * c % p * nsq p) hp0
      have hsq := sqL_01 p ((a * a - c * c % p * nsq p) % p) p.toNat
      have r118 : ¬ (a = 0 ∧ c = 0) → V mX12_pointsOfTwo k n 118 [some (r_ b), some (i_ (nsq p)), none, some (i_ u), some (i_ v), some (i_ a), some (i_ c), none, none] [i_ t] x Z Q := fun cc => by
        rw [if_neg cc] at nx
        have nx : V mX12_pointsOfTwo k n 20 [some (r_ b), some (i_ (nsq p)), some (i_ (t + if sq p ((a * a - nsq p * (c * c % p)) % p) = 0 then 0 else 2)), some (i_ u), some (i_ (v + 1)), none, none, none, none] [] x Z Q := nx
        rw [Int.mul_comm (nsq p)] at nx
        refine b_X12_pointsOfTwo_118 o ⟨⟨by omega, by omega⟩, by omega, by omega, by rw [hb]; exact ⟨by omega, by omega⟩, p, ⟨hp', hb⟩, by rw [hb]; exact ⟨by omega, by omega⟩, ?_⟩
        rw [hb]
        refine ⟨by unfold sq; exact ⟨by omega, by omega⟩, fun d => b_X12_pointsOfTwo_151 ?_, fun d => b_X12_pointsOfTwo_151 ?_⟩
        · rw [if_pos d] at nx; exact nx
        · rw [if_neg d] at nx; exact nx
      refine b_X12_pointsOfTwo_42 o ⟨⟨by omega, by omega⟩, fun _ => ⟨⟨by omega, by omega⟩, fun d => r118 (fun q => d q.1), fun d => ⟨⟨by omega, by omega⟩, fun d2 => r118 (fun q => d2 q.2), fun d2 => b_X12_pointsOfTwo_151 ?_⟩⟩, fun d => by omega⟩
      rw [if_pos ⟨d, d2⟩] at nx; exact nx
    | succ m ih =>
      intro u v a c t hm24 hu hv ha hc he nx
      have e := hP.at (u := 0) (by decide) (i := ((m + 1 : Nat) : Int) - 1) (by omega)
      rw [show (((m + 1 : Nat) : Int) - 1).toNat = m from by omega, show (0 : Int).toNat = 0 from rfl] at e
      have bf := hf.1 m
      have h1 := mul_bd (t := c) (c := 13) (B := v) (by omega) (by omega)
      have h2 := mul_bd (t := a) (c := 13) (B := u) (by omega) (by omega)
      have h3 := emr (c * v) hp0
      have h4 := mul_bd (t := c * v % p) (c := 13) (B := nsq p) (by omega) (by omega)
      have h5 := mul_bd (t := a) (c := 13) (B := v) (by omega) (by omega)
      have h6 := mul_bd (t := c) (c := 13) (B := u) (by omega) (by omega)
      refine b_X12_pointsOfTwo_42 o ⟨⟨by omega, by omega⟩, fun d => by omega, fun _ => ⟨⟨by omega, by omega⟩, by omega, by omega, by omega, by rw [e, hb]; exact ⟨by omega, by omega⟩, fun i1 ei1 => ⟨⟨by omega, by omega⟩, ?_⟩⟩⟩
      rw [e, hb] at ei1
      rw [hb, show ((m + 1 : Nat) : Int) - 1 + (-1) = (m : Int) - 1 from by omega]
      refine ih u v i1 _ t (by omega) hu hv (by rw [ei1]; exact emr _ hp0) (emr _ hp0) ?_ nx
      rw [← he]
      show hq p (nsq p) (P 0) u v m (i1, (a * v + c * u) % p) = hq p (nsq p) (P 0) u v m ((a * u + nsq p * (c * v % p) + P 0 m) % p, (a * v + c * u) % p)
      rw [ei1, Int.mul_comm (c * v % p)]
  have inner : ∀ (m : Nat) (u v t : Int), (0 ≤ u ∧ u < p) → 0 ≤ v → v + m = p → V mX12_pointsOfTwo k n 9 [some (r_ b), some (i_ (nsq p)), some (i_ (t + sqT p (P 0) u m v)), some (i_ (u + 1)), none, none, none, none, none] [] x Z Q → V mX12_pointsOfTwo k n 20 [some (r_ b), some (i_ (nsq p)), some (i_ t), some (i_ u), some (i_ v), none, none, none, none] [] x Z Q := by
    intro m
    induction m with
    | zero =>
      intro u v t hu h0 h1 nx
      have nx : V mX12_pointsOfTwo k n 9 [some (r_ b), some (i_ (nsq p)), some (i_ (t + 0)), some (i_ (u + 1)), none, none, none, none, none] [] x Z Q := nx
      rw [Int.add_zero] at nx
      exact b_X12_pointsOfTwo_20 o ⟨⟨by omega, by omega⟩, by rw [hb]; exact ⟨by omega, by omega⟩, fun _ => nx, fun c => by rw [hb] at c; omega⟩
    | succ m ih =>
      intro u v t hu h0 h1 nx
      have nx : V mX12_pointsOfTwo k n 9 [some (r_ b), some (i_ (nsq p)), some (i_ (t + (pov p (P 0) u v + sqT p (P 0) u m (v + 1)))), some (i_ (u + 1)), none, none, none, none, none] [] x Z Q := nx
      rw [← Int.add_assoc] at nx
      refine b_X12_pointsOfTwo_20 o ⟨⟨by omega, by omega⟩, by rw [hb]; exact ⟨by omega, by omega⟩, fun c => by rw [hb] at c; omega, fun _ => ⟨P, hP, by decide, fun i _ => by have := hf.1 i; exact ⟨by show -2147483648 ≤ P 0 i; omega, by show P 0 i < 2147483648; omega⟩, ?_⟩⟩
      show V mX12_pointsOfTwo k n 42 [some (r_ b), some (i_ (nsq p)), some (i_ t), some (i_ u), some (i_ v), some (i_ 0), some (i_ 0), some (i_ (pd (P 0))), none] [] x Z Q
      rw [show pd (P 0) = (((pd (P 0) + 1).toNat : Nat) : Int) - 1 from by omega]
      refine lp (pd (P 0) + 1).toNat u v 0 0 t (by omega) hu ⟨h0, by omega⟩ ⟨by omega, hp0⟩ ⟨by omega, hp0⟩ ?_ (ih u (v + 1) _ hu (by omega) (by omega) nx)
      have := hq_0 (p := p) (d := nsq p) (F := P 0) (s := u) (t := v) (24 - (pd (P 0) + 1).toNat) (pd (P 0) + 1).toNat (fun i h1 h2 => pd_hi hf.2 i (by omega))
      rw [show (pd (P 0) + 1).toNat + (24 - (pd (P 0) + 1).toNat) = 24 from by omega] at this
      exact this.symm
  have outer : ∀ (m : Nat) (u t : Int), 0 ≤ u → u + m = p → t + sqS p (P 0) m u = sqf p (P 0) → V mX12_pointsOfTwo k n 9 [some (r_ b), some (i_ (nsq p)), some (i_ t), some (i_ u), none, none, none, none, none] [] x Z Q := by
    intro m
    induction m with
    | zero =>
      intro u t h0 h1 he
      have he : t + 0 = sqf p (P 0) := he
      rw [Int.add_zero] at he
      exact b_X12_pointsOfTwo_9 o ⟨⟨by omega, by omega⟩, by rw [hb]; exact ⟨by omega, by omega⟩, fun _ => by rw [he]; exact h, fun c => by rw [hb] at c; omega⟩
    | succ m ih =>
      intro u t h0 h1 he
      have he : t + (sqT p (P 0) u p.toNat 0 + sqS p (P 0) m (u + 1)) = sqf p (P 0) := he
      exact b_X12_pointsOfTwo_9 o ⟨⟨by omega, by omega⟩, by rw [hb]; exact ⟨by omega, by omega⟩, fun c => by rw [hb] at c; omega, fun _ => inner p.toNat u 0 t ⟨h0, by omega⟩ (by decide) (by omega) (ih (u + 1) _ (by omega) (by omega) (by omega))⟩
  exact b_X12_pointsOfTwo_0 o ⟨p, ⟨hp', hb⟩, outer p.toNat 0 1 (by decide) (by omega) rfl⟩
theorem dX12_shareOf_0 : decode cX12_shareOf 0 = .ok (.aload_n 0, 1) := by decide +kernel
theorem dX12_shareOf_1 : decode cX12_shareOf 1 = .ok (.invokevirtual 240, 3) := by decide +kernel
theorem dX12_shareOf_4 : decode cX12_shareOf 4 = .ok (.istore_n 2, 1) := by decide +kernel
theorem dX12_shareOf_5 : decode cX12_shareOf 5 = .ok (.iload_n 1, 1) := by decide +kernel
theorem dX12_shareOf_6 : decode cX12_shareOf 6 = .ok (.ifCond .ne 5, 3) := by decide +kernel
theorem dX12_shareOf_9 : decode cX12_shareOf 9 = .ok (.iconst 1, 1) := by decide +kernel
theorem dX12_shareOf_10 : decode cX12_shareOf 10 = .ok (.ireturn, 1) := by decide +kernel
theorem dX12_shareOf_11 : decode cX12_shareOf 11 = .ok (.iload_n 1, 1) := by decide +kernel
theorem dX12_shareOf_12 : decode cX12_shareOf 12 = .ok (.iconst 1, 1) := by decide +kernel
theorem dX12_shareOf_13 : decode cX12_shareOf 13 = .ok (.if_icmp .ne 5, 3) := by decide +kernel
theorem dX12_shareOf_16 : decode cX12_shareOf 16 = .ok (.iload_n 2, 1) := by decide +kernel
theorem dX12_shareOf_17 : decode cX12_shareOf 17 = .ok (.ireturn, 1) := by decide +kernel
theorem dX12_shareOf_18 : decode cX12_shareOf 18 = .ok (.aload_n 0, 1) := by decide +kernel
theorem dX12_shareOf_19 : decode cX12_shareOf 19 = .ok (.getfield 221, 3) := by decide +kernel
theorem dX12_shareOf_22 : decode cX12_shareOf 22 = .ok (.iconst 1, 1) := by decide +kernel
theorem dX12_shareOf_23 : decode cX12_shareOf 23 = .ok (.if_icmp .ne 8, 3) := by decide +kernel
theorem dX12_shareOf_26 : decode cX12_shareOf 26 = .ok (.aload_n 0, 1) := by decide +kernel
theorem dX12_shareOf_27 : decode cX12_shareOf 27 = .ok (.getfield 179, 3) := by decide +kernel
theorem dX12_shareOf_30 : decode cX12_shareOf 30 = .ok (.ireturn, 1) := by decide +kernel
theorem dX12_shareOf_31 : decode cX12_shareOf 31 = .ok (.iload_n 1, 1) := by decide +kernel
theorem dX12_shareOf_32 : decode cX12_shareOf 32 = .ok (.iconst 2, 1) := by decide +kernel
theorem dX12_shareOf_33 : decode cX12_shareOf 33 = .ok (.if_icmp .ne 28, 3) := by decide +kernel
theorem dX12_shareOf_36 : decode cX12_shareOf 36 = .ok (.aload_n 0, 1) := by decide +kernel
theorem dX12_shareOf_37 : decode cX12_shareOf 37 = .ok (.invokevirtual 243, 3) := by decide +kernel
theorem dX12_shareOf_40 : decode cX12_shareOf 40 = .ok (.aload_n 0, 1) := by decide +kernel
theorem dX12_shareOf_41 : decode cX12_shareOf 41 = .ok (.getfield 179, 3) := by decide +kernel
theorem dX12_shareOf_44 : decode cX12_shareOf 44 = .ok (.aload_n 0, 1) := by decide +kernel
theorem dX12_shareOf_45 : decode cX12_shareOf 45 = .ok (.getfield 179, 3) := by decide +kernel
theorem dX12_shareOf_48 : decode cX12_shareOf 48 = .ok (.imul, 1) := by decide +kernel
theorem dX12_shareOf_49 : decode cX12_shareOf 49 = .ok (.isub, 1) := by decide +kernel
theorem dX12_shareOf_50 : decode cX12_shareOf 50 = .ok (.iconst 1, 1) := by decide +kernel
theorem dX12_shareOf_51 : decode cX12_shareOf 51 = .ok (.isub, 1) := by decide +kernel
theorem dX12_shareOf_52 : decode cX12_shareOf 52 = .ok (.iload_n 2, 1) := by decide +kernel
theorem dX12_shareOf_53 : decode cX12_shareOf 53 = .ok (.iload_n 2, 1) := by decide +kernel
theorem dX12_shareOf_54 : decode cX12_shareOf 54 = .ok (.imul, 1) := by decide +kernel
theorem dX12_shareOf_55 : decode cX12_shareOf 55 = .ok (.iadd, 1) := by decide +kernel
theorem dX12_shareOf_56 : decode cX12_shareOf 56 = .ok (.iconst 2, 1) := by decide +kernel
theorem dX12_shareOf_57 : decode cX12_shareOf 57 = .ok (.idiv, 1) := by decide +kernel
theorem dX12_shareOf_58 : decode cX12_shareOf 58 = .ok (.goto 26, 3) := by decide +kernel
theorem dX12_shareOf_61 : decode cX12_shareOf 61 = .ok (.iload_n 1, 1) := by decide +kernel
theorem dX12_shareOf_62 : decode cX12_shareOf 62 = .ok (.iconst 3, 1) := by decide +kernel
theorem dX12_shareOf_63 : decode cX12_shareOf 63 = .ok (.if_icmp .ne 12, 3) := by decide +kernel
theorem dX12_shareOf_66 : decode cX12_shareOf 66 = .ok (.aload_n 0, 1) := by decide +kernel
theorem dX12_shareOf_67 : decode cX12_shareOf 67 = .ok (.getfield 179, 3) := by decide +kernel
theorem dX12_shareOf_70 : decode cX12_shareOf 70 = .ok (.iload_n 2, 1) := by decide +kernel
theorem dX12_shareOf_71 : decode cX12_shareOf 71 = .ok (.imul, 1) := by decide +kernel
theorem dX12_shareOf_72 : decode cX12_shareOf 72 = .ok (.goto 12, 3) := by decide +kernel
theorem dX12_shareOf_75 : decode cX12_shareOf 75 = .ok (.aload_n 0, 1) := by decide +kernel
theorem dX12_shareOf_76 : decode cX12_shareOf 76 = .ok (.getfield 179, 3) := by decide +kernel
theorem dX12_shareOf_79 : decode cX12_shareOf 79 = .ok (.aload_n 0, 1) := by decide +kernel
theorem dX12_shareOf_80 : decode cX12_shareOf 80 = .ok (.getfield 179, 3) := by decide +kernel
theorem dX12_shareOf_83 : decode cX12_shareOf 83 = .ok (.imul, 1) := by decide +kernel
theorem dX12_shareOf_84 : decode cX12_shareOf 84 = .ok (.ireturn, 1) := by decide +kernel
set_option maxRecDepth 20000 in
theorem b_X12_shareOf_0 {k n : Nat} {x : Wx} {Z : Zt} {Q : Option Value → Wx → Zt → Prop} {a0 : Nat} {v1 : Int} (o_a0 : Is12 x a0)
    (h : Rg v1 ∧ (((v1 ≠ 0) → (((v1 ≠ 1) → (Rg (Z a0 12) ∧ (((Z a0 12 ≠ 1) → (((v1 ≠ 2) → (((v1 ≠ 3) → (Q (some (i_ ((Z a0 11) * (Z a0 11)))) x Z)) ∧ ((v1 = 3) → (Q (some (i_ ((Z a0 11) * (Z a0 15 - Z a0 11 - 1)))) x Z)))) ∧ ((v1 = 2) → (∃ g1 : Nat → Nat → Int, (∃ g2 : Int, ((IsP g2 ∧ Z a0 11 = g2) ∧ MS Z a0 g1 ∧ (InP g2 (g1 0) ∧ Fin (g1 0)) ∧ (Rg ((((sqf g2 (g1 0)) - ((Z a0 11) * (Z a0 11))) - 1) + ((Z a0 15 - Z a0 11 - 1) * (Z a0 15 - Z a0 11 - 1))) ∧ (Q (some (i_ (Int.tdiv ((((sqf g2 (g1 0)) - ((Z a0 11) * (Z a0 11))) - 1) + ((Z a0 15 - Z a0 11 - 1) * (Z a0 15 - Z a0 11 - 1))) 2))) x Z)))))))) ∧ ((Z a0 12 = 1) → (Q (some (i_ (Z a0 11))) x Z))))) ∧ ((v1 = 1) → (Q (some (i_ (Z a0 15 - Z a0 11 - 1))) x Z)))) ∧ ((v1 = 0) → (Q (some (i_ 1)) x Z)))) :
    V mX12_shareOf k n 0 [some (r_ a0), some (i_ v1), none] [] x Z Q :=
  V_aload_n dX12_shareOf_0 rfl (V_callV (k' := 0) (n' := 0) (t := 12) (q := (RX12, TX12, 46)) [] [] okX12_shareA o_a0.1 rfl rfl lm_12_240 liX12_shareA lqX12_shareA (Nat.le_of_ble_eq_true rfl) (Nat.le_of_ble_eq_true rfl) (Nat.le_of_ble_eq_true rfl) (cat_of rfl) (Nat.le_of_ble_eq_true rfl) (Nat.zero_le _) (Nat.zero_le _) rfl dX12_shareOf_1 (sp_X12_shareA o_a0  (V_istore_n (lv' := [some (r_ a0), some (i_ v1), some (i_ (Z a0 15 - Z a0 11 - 1))]) dX12_shareOf_4 (Nat.le_of_ble_eq_true rfl) rfl (V_iload_n dX12_shareOf_5 rfl (V_if_ne (tgt := 11) dX12_shareOf_6 rfl h.1 (fun c1 => V_iload_n dX12_shareOf_11 rfl (V_iconst dX12_shareOf_12 (V_icmp_ne (tgt := 18) dX12_shareOf_13 rfl h.1 (rg_c rfl) (fun c2 => V_aload_n dX12_shareOf_18 rfl (G_12_12 o_a0.1 lf_12_221 dX12_shareOf_19 (V_iconst dX12_shareOf_22 (V_icmp_ne (tgt := 31) dX12_shareOf_23 rfl ((h.2.1 c1).1 c2).1 (rg_c rfl) (fun c3 => V_iload_n dX12_shareOf_31 rfl (V_iconst dX12_shareOf_32 (V_icmp_ne (tgt := 61) dX12_shareOf_33 rfl h.1 (rg_c rfl) (fun c4 => V_iload_n dX12_shareOf_61 rfl (V_iconst dX12_shareOf_62 (V_icmp_ne (tgt := 75) dX12_shareOf_63 rfl h.1 (rg_c rfl) (fun c5 => V_aload_n dX12_shareOf_75 rfl (G_12_11 o_a0.1 lf_12_179 dX12_shareOf_76 (V_aload_n dX12_shareOf_79 rfl (G_12_11 o_a0.1 lf_12_179 dX12_shareOf_80 (V_imul dX12_shareOf_83 (V_iret (ty := .int) dX12_shareOf_84 rfl rfl (((((h.2.1 c1).1 c2).2.1 c3).1 c4).1 c5))))))) (fun c5 => V_aload_n dX12_shareOf_66 rfl (G_12_11 o_a0.1 lf_12_179 dX12_shareOf_67 (V_iload_n dX12_shareOf_70 rfl (V_imul dX12_shareOf_71 (V_goto (tgt := 84) dX12_shareOf_72 rfl (V_iret (ty := .int) dX12_shareOf_84 rfl rfl (((((h.2.1 c1).1 c2).2.1 c3).1 c4).2 c5)))))))))) (fun c4 => V_aload_n dX12_shareOf_36 rfl (Exists.elim ((((h.2.1 c1).1 c2).2.1 c3).2 c4) (fun g1 w1 => Exists.elim w1 (fun g2 w2 => V_callV (k' := 0) (n' := 0) (t := 12) (q := (RX12, TX12, 46)) [] [] okX12_pointsOfTwo o_a0.1 rfl rfl lm_12_243 liX12_pointsOfTwo lqX12_pointsOfTwo (Nat.le_of_ble_eq_true rfl) (Nat.le_of_ble_eq_true rfl) (Nat.le_of_ble_eq_true rfl) (cat_of rfl) (Nat.le_of_ble_eq_true rfl) (Nat.zero_le _) (Nat.zero_le _) rfl dX12_shareOf_37 (sp_X12_pointsOfTwo o_a0 w2.1 w2.2.1 w2.2.2.1 (V_aload_n dX12_shareOf_40 rfl (G_12_11 o_a0.1 lf_12_179 dX12_shareOf_41 (V_aload_n dX12_shareOf_44 rfl (G_12_11 o_a0.1 lf_12_179 dX12_shareOf_45 (V_imul dX12_shareOf_48 (V_isub dX12_shareOf_49 (V_iconst dX12_shareOf_50 (V_isub dX12_shareOf_51 (V_iload_n dX12_shareOf_52 rfl (V_iload_n dX12_shareOf_53 rfl (V_imul dX12_shareOf_54 (V_iadd dX12_shareOf_55 (V_iconst dX12_shareOf_56 (V_idiv dX12_shareOf_57 w2.2.2.2.1 (rg_c rfl) (by decide) (V_goto (tgt := 84) dX12_shareOf_58 rfl (V_iret (ty := .int) dX12_shareOf_84 rfl rfl w2.2.2.2.2)))))))))))))))))))))))) (fun c3 => V_aload_n dX12_shareOf_26 rfl (G_12_11 o_a0.1 lf_12_179 dX12_shareOf_27 (V_iret (ty := .int) dX12_shareOf_30 rfl rfl (((h.2.1 c1).1 c2).2.2 c3)))))))) (fun c2 => V_iload_n dX12_shareOf_16 rfl (V_iret (ty := .int) dX12_shareOf_17 rfl rfl ((h.2.1 c1).2 c2)))))) (fun c1 => V_iconst dX12_shareOf_9 (V_iret (ty := .int) dX12_shareOf_10 rfl rfl (h.2.2 c1))))))))
/-- the curve that is taken, with its F -/
def MF (Z : Zt) (b : Nat) (p : Int) (F : Nat → Int) : Prop := MC Z b p F ∧ CF p (gen F) F ∧ ∃ P : Nat → Nat → Int, MS Z b P ∧ P 0 = F
theorem sp_X12_shareOf {k n : Nat} {x : Wx} {Z : Zt} {Q : Option Value → Wx → Zt → Prop} {b : Nat} {i : Int} (o : Is12 x b) {p : Int} {F : Nat → Int} (hF : MF Z b p F) (hi : 0 ≤ i ∧ i ≤ 2 * gen F) (h : Q (some (i_ (shF p F i.toNat))) x Z) : V mX12_shareOf k n 0 [some (r_ b), some (i_ i), none] [] x Z Q := by
  obtain ⟨⟨⟨m1, m2⟩, m3, m4⟩, hCF, P, hM, hP0⟩ := hF
  have hp := hCF.1
  have hr := hp.rg
  have hl := pall_len hp F
  have hg := gen_rg F
  have hs := sqf_rg hp F
  have hpp := mul_bd (t := p) (c := 13) (B := p) (by omega) (by omega)
  have ea : Z b 15 - Z b 11 - 1 = ((pall p F).length : Int) - p - 1 := by rw [m1, m3]
  have haa : 0 ≤ (((pall p F).length : Int) - p - 1) * (((pall p F).length : Int) - p - 1) ∧ (((pall p F).length : Int) - p - 1) * (((pall p F).length : Int) - p - 1) ≤ 729 := by
    have := sq_le (A := ((pall p F).length : Int) - p - 1) (p := 27) (by omega) (by omega); omega
  have hd : ∀ j : Nat, shF p F j = if j = 0 then 1 else if j = 1 then ((pall p F).length : Int) - p - 1 else if gen F = 1 then (if j = 2 then p else 0) else if j = 2 then Int.tdiv (c2F p F - p * p - 1 + (((pall p F).length : Int) - p - 1) * (((pall p F).length : Int) - p - 1)) 2 else if j = 3 then p * (((pall p F).length : Int) - p - 1) else if j = 4 then p * p else 0 := fun j => rfl
  rw [hd] at h
  refine b_X12_shareOf_0 o ⟨⟨by omega, by omega⟩, fun c => ⟨fun c1 => ⟨by rw [m2]; exact ⟨by omega, by omega⟩, fun c2 => ⟨fun c3 => ⟨fun c4 => ?_, fun c4 => ?_⟩, fun c3 => ⟨P, p, ⟨hp, m1⟩, hM, by rw [hP0]; exact ⟨hCF.2.1, hCF.2.2.1⟩, ?_⟩⟩, fun c2 => ?_⟩, fun c1 => ?_⟩, fun c => ?_⟩
  · rw [m2] at c2
    rw [if_neg (by omega), if_neg (by omega), if_neg (by omega), if_neg (by omega), if_neg (by omega), if_pos (by omega)] at h
    rw [m1]; exact h
  · rw [m2] at c2
    rw [if_neg (by omega), if_neg (by omega), if_neg (by omega), if_neg (by omega), if_pos (by omega)] at h
    rw [ea, m1]; exact h
  · rw [m2] at c2
    have ec : c2F p F = sqf p F := by unfold c2F; rw [if_neg (by omega)]
    rw [if_neg (by omega), if_neg (by omega), if_neg (by omega), if_pos (by omega), ec] at h
    rw [hP0, ea, m1]
    refine ⟨⟨by omega, by omega⟩, h⟩
  · rw [m2] at c2
    rw [if_neg (by omega), if_neg (by omega), if_pos (by omega), if_pos (by omega)] at h
    rw [m1]; exact h
  · rw [if_neg (by omega), if_pos (by omega)] at h
    rw [ea]; exact h
  · rw [if_pos (by omega)] at h; exact h
