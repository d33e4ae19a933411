/-! ===== the reference: answers of curve, share, twist, point, sum, function, count, fault ===== -/
theorem dX12_classesOf_0 : decode cX12_classesOf 0 = .ok (.iconst 0, 1) := by decide +kernel
theorem dX12_classesOf_1 : decode cX12_classesOf 1 = .ok (.istore_n 2, 1) := by decide +kernel
theorem dX12_classesOf_2 : decode cX12_classesOf 2 = .ok (.iconst 0, 1) := by decide +kernel
theorem dX12_classesOf_3 : decode cX12_classesOf 3 = .ok (.istore_n 3, 1) := by decide +kernel
theorem dX12_classesOf_4 : decode cX12_classesOf 4 = .ok (.iload_n 3, 1) := by decide +kernel
theorem dX12_classesOf_5 : decode cX12_classesOf 5 = .ok (.iconst 2, 1) := by decide +kernel
theorem dX12_classesOf_6 : decode cX12_classesOf 6 = .ok (.aload_n 0, 1) := by decide +kernel
theorem dX12_classesOf_7 : decode cX12_classesOf 7 = .ok (.getfield 221, 3) := by decide +kernel
theorem dX12_classesOf_10 : decode cX12_classesOf 10 = .ok (.imul, 1) := by decide +kernel
theorem dX12_classesOf_11 : decode cX12_classesOf 11 = .ok (.if_icmp .gt 37, 3) := by decide +kernel
theorem dX12_classesOf_14 : decode cX12_classesOf 14 = .ok (.iload_n 2, 1) := by decide +kernel
theorem dX12_classesOf_15 : decode cX12_classesOf 15 = .ok (.iload_n 1, 1) := by decide +kernel
theorem dX12_classesOf_16 : decode cX12_classesOf 16 = .ok (.ifCond .eq 19, 3) := by decide +kernel
theorem dX12_classesOf_19 : decode cX12_classesOf 19 = .ok (.iload_n 3, 1) := by decide +kernel
theorem dX12_classesOf_20 : decode cX12_classesOf 20 = .ok (.iconst 2, 1) := by decide +kernel
theorem dX12_classesOf_21 : decode cX12_classesOf 21 = .ok (.irem, 1) := by decide +kernel
theorem dX12_classesOf_22 : decode cX12_classesOf 22 = .ok (.iconst 1, 1) := by decide +kernel
theorem dX12_classesOf_23 : decode cX12_classesOf 23 = .ok (.if_icmp .ne 12, 3) := by decide +kernel
theorem dX12_classesOf_26 : decode cX12_classesOf 26 = .ok (.aload_n 0, 1) := by decide +kernel
theorem dX12_classesOf_27 : decode cX12_classesOf 27 = .ok (.iload_n 3, 1) := by decide +kernel
theorem dX12_classesOf_28 : decode cX12_classesOf 28 = .ok (.invokevirtual 246, 3) := by decide +kernel
theorem dX12_classesOf_31 : decode cX12_classesOf 31 = .ok (.ineg, 1) := by decide +kernel
theorem dX12_classesOf_32 : decode cX12_classesOf 32 = .ok (.goto 8, 3) := by decide +kernel
theorem dX12_classesOf_35 : decode cX12_classesOf 35 = .ok (.aload_n 0, 1) := by decide +kernel
theorem dX12_classesOf_36 : decode cX12_classesOf 36 = .ok (.iload_n 3, 1) := by decide +kernel
theorem dX12_classesOf_37 : decode cX12_classesOf 37 = .ok (.invokevirtual 246, 3) := by decide +kernel
theorem dX12_classesOf_40 : decode cX12_classesOf 40 = .ok (.iadd, 1) := by decide +kernel
theorem dX12_classesOf_41 : decode cX12_classesOf 41 = .ok (.istore_n 2, 1) := by decide +kernel
theorem dX12_classesOf_42 : decode cX12_classesOf 42 = .ok (.iinc 3 1, 3) := by decide +kernel
theorem dX12_classesOf_45 : decode cX12_classesOf 45 = .ok (.goto (-41), 3) := by decide +kernel
theorem dX12_classesOf_48 : decode cX12_classesOf 48 = .ok (.iload_n 2, 1) := by decide +kernel
theorem dX12_classesOf_49 : decode cX12_classesOf 49 = .ok (.ireturn, 1) := by decide +kernel
set_option maxRecDepth 20000 in
theorem b_X12_classesOf_0 {k n : Nat} {x : Wx} {Z : Zt} {Q : Option Value → Wx → Zt → Prop} {a0 : Nat} {v1 : Int} 
    (h : V mX12_classesOf k n 4 [some (r_ a0), some (i_ v1), some (i_ 0), some (i_ 0)] [] x Z Q) :
    V mX12_classesOf k n 0 [some (r_ a0), some (i_ v1), none, none] [] x Z Q :=
  V_iconst dX12_classesOf_0 (V_istore_n (lv' := [some (r_ a0), some (i_ v1), some (i_ 0), none]) dX12_classesOf_1 (Nat.le_of_ble_eq_true rfl) rfl (V_iconst dX12_classesOf_2 (V_istore_n (lv' := [some (r_ a0), some (i_ v1), some (i_ 0), some (i_ 0)]) dX12_classesOf_3 (Nat.le_of_ble_eq_true rfl) rfl (V_msk [true, true, true, true] rfl h))))
set_option maxRecDepth 20000 in
theorem b_X12_classesOf_4 {k n : Nat} {x : Wx} {Z : Zt} {Q : Option Value → Wx → Zt → Prop} {a0 : Nat} {v1 : Int} {v2 : Int} {v3 : Int} (o_a0 : Is12 x a0)
    (h : Rg v3 ∧ Rg (2 * (Z a0 12)) ∧ (((2 * (Z a0 12) < v3) → (Q (some (i_ v2)) x Z)) ∧ ((v3 ≤ 2 * (Z a0 12)) → (Rg v1 ∧ (((v1 = 0) → (V mX12_classesOf k n 35 [some (r_ a0), some (i_ v1), none, some (i_ v3)] [i_ v2] x Z Q)) ∧ ((v1 ≠ 0) → (Rg (Int.tmod v3 2) ∧ (((Int.tmod v3 2 ≠ 1) → (V mX12_classesOf k n 35 [some (r_ a0), some (i_ v1), none, some (i_ v3)] [i_ v2] x Z Q)) ∧ ((Int.tmod v3 2 = 1) → (∃ g1 : Int, (∃ g2 : Nat → Int, (MF Z a0 g1 g2 ∧ (0 ≤ v3 ∧ v3 ≤ 2 * gen g2) ∧ (V mX12_classesOf k n 40 [some (r_ a0), some (i_ v1), none, some (i_ v3)] [i_ (-(shF g1 g2 v3.toNat)), i_ v2] x Z Q))))))))))))) :
    V mX12_classesOf k n 4 [some (r_ a0), some (i_ v1), some (i_ v2), some (i_ v3)] [] x Z Q :=
  V_iload_n dX12_classesOf_4 rfl (V_iconst dX12_classesOf_5 (V_aload_n dX12_classesOf_6 rfl (G_12_12 o_a0.1 lf_12_221 dX12_classesOf_7 (V_imul dX12_classesOf_10 (V_icmp_gt (tgt := 48) dX12_classesOf_11 rfl h.1 h.2.1 (fun c1 => V_iload_n dX12_classesOf_48 rfl (V_iret (ty := .int) dX12_classesOf_49 rfl rfl (h.2.2.1 c1))) (fun c1 => V_iload_n dX12_classesOf_14 rfl (V_iload_n dX12_classesOf_15 rfl (V_if_eq (tgt := 35) dX12_classesOf_16 rfl (h.2.2.2 c1).1 (fun c2 => V_msk [true, true, false, true] rfl ((h.2.2.2 c1).2.1 c2)) (fun c2 => V_iload_n dX12_classesOf_19 rfl (V_iconst dX12_classesOf_20 (V_irem dX12_classesOf_21 h.1 (rg_c rfl) (by decide) (V_iconst dX12_classesOf_22 (V_icmp_ne (tgt := 35) dX12_classesOf_23 rfl ((h.2.2.2 c1).2.2 c2).1 (rg_c rfl) (fun c3 => V_msk [true, true, false, true] rfl (((h.2.2.2 c1).2.2 c2).2.1 c3)) (fun c3 => V_aload_n dX12_classesOf_26 rfl (V_iload_n dX12_classesOf_27 rfl (Exists.elim (((h.2.2.2 c1).2.2 c2).2.2 c3) (fun g1 w1 => Exists.elim w1 (fun g2 w2 => V_callV (k' := 0) (n' := 0) (t := 12) (q := (RX12, TX12, 46)) [i_ v3] [i_ v2] okX12_shareOf o_a0.1 rfl rfl lm_12_246 liX12_shareOf lqX12_shareOf (Nat.le_of_ble_eq_true rfl) (Nat.le_of_ble_eq_true rfl) (Nat.le_of_ble_eq_true rfl) (cat_of rfl) (Nat.le_of_ble_eq_true rfl) (Nat.zero_le _) (Nat.zero_le _) rfl dX12_classesOf_28 (sp_X12_shareOf o_a0 w2.1 w2.2.1 (V_ineg dX12_classesOf_31 (V_goto (tgt := 40) dX12_classesOf_32 rfl (V_msk [true, true, false, true] rfl w2.2.2))))))))))))))))))))))
set_option maxRecDepth 20000 in
theorem b_X12_classesOf_35 {k n : Nat} {x : Wx} {Z : Zt} {Q : Option Value → Wx → Zt → Prop} {a0 : Nat} {v1 : Int} {v3 : Int} {t0 : Int} (o_a0 : Is12 x a0)
    (h : ∃ g1 : Int, (∃ g2 : Nat → Int, (MF Z a0 g1 g2 ∧ (0 ≤ v3 ∧ v3 ≤ 2 * gen g2) ∧ (V mX12_classesOf k n 40 [some (r_ a0), some (i_ v1), none, some (i_ v3)] [i_ (shF g1 g2 v3.toNat), i_ t0] x Z Q)))) :
    V mX12_classesOf k n 35 [some (r_ a0), some (i_ v1), none, some (i_ v3)] [i_ t0] x Z Q :=
  V_aload_n dX12_classesOf_35 rfl (V_iload_n dX12_classesOf_36 rfl (Exists.elim h (fun g1 w1 => Exists.elim w1 (fun g2 w2 => V_callV (k' := 0) (n' := 0) (t := 12) (q := (RX12, TX12, 46)) [i_ v3] [i_ t0] okX12_shareOf o_a0.1 rfl rfl lm_12_246 liX12_shareOf lqX12_shareOf (Nat.le_of_ble_eq_true rfl) (Nat.le_of_ble_eq_true rfl) (Nat.le_of_ble_eq_true rfl) (cat_of rfl) (Nat.le_of_ble_eq_true rfl) (Nat.zero_le _) (Nat.zero_le _) rfl dX12_classesOf_37 (sp_X12_shareOf o_a0 w2.1 w2.2.1 (V_msk [true, true, false, true] rfl w2.2.2))))))
set_option maxRecDepth 20000 in
theorem b_X12_classesOf_40 {k n : Nat} {x : Wx} {Z : Zt} {Q : Option Value → Wx → Zt → Prop} {a0 : Nat} {v1 : Int} {v3 : Int} {t0 : Int} {t1 : Int} 
    (h : V mX12_classesOf k n 4 [some (r_ a0), some (i_ v1), some (i_ (t0 + t1)), some (i_ (v3 + 1))] [] x Z Q) :
    V mX12_classesOf k n 40 [some (r_ a0), some (i_ v1), none, some (i_ v3)] [i_ t1, i_ t0] x Z Q :=
  V_iadd dX12_classesOf_40 (V_istore_n (lv' := [some (r_ a0), some (i_ v1), some (i_ (t0 + t1)), some (i_ v3)]) dX12_classesOf_41 (Nat.le_of_ble_eq_true rfl) rfl (V_iinc (lv' := [some (r_ a0), some (i_ v1), some (i_ (t0 + t1)), some (i_ (v3 + 1))]) dX12_classesOf_42 rfl (Nat.le_of_ble_eq_true rfl) rfl (V_goto (tgt := 4) dX12_classesOf_45 rfl (V_msk [true, true, true, true] rfl h))))
theorem dX12_fixedOnes_0 : decode cX12_fixedOnes 0 = .ok (.iconst 0, 1) := by decide +kernel
theorem dX12_fixedOnes_1 : decode cX12_fixedOnes 1 = .ok (.istore_n 1, 1) := by decide +kernel
theorem dX12_fixedOnes_2 : decode cX12_fixedOnes 2 = .ok (.iconst 0, 1) := by decide +kernel
theorem dX12_fixedOnes_3 : decode cX12_fixedOnes 3 = .ok (.istore_n 2, 1) := by decide +kernel
theorem dX12_fixedOnes_4 : decode cX12_fixedOnes 4 = .ok (.iload_n 2, 1) := by decide +kernel
theorem dX12_fixedOnes_5 : decode cX12_fixedOnes 5 = .ok (.aload_n 0, 1) := by decide +kernel
theorem dX12_fixedOnes_6 : decode cX12_fixedOnes 6 = .ok (.getfield 227, 3) := by decide +kernel
theorem dX12_fixedOnes_9 : decode cX12_fixedOnes 9 = .ok (.if_icmp .ge 25, 3) := by decide +kernel
theorem dX12_fixedOnes_12 : decode cX12_fixedOnes 12 = .ok (.iload_n 1, 1) := by decide +kernel
theorem dX12_fixedOnes_13 : decode cX12_fixedOnes 13 = .ok (.aload_n 0, 1) := by decide +kernel
theorem dX12_fixedOnes_14 : decode cX12_fixedOnes 14 = .ok (.iload_n 2, 1) := by decide +kernel
theorem dX12_fixedOnes_15 : decode cX12_fixedOnes 15 = .ok (.invokevirtual 267, 3) := by decide +kernel
theorem dX12_fixedOnes_18 : decode cX12_fixedOnes 18 = .ok (.ifCond .eq 7, 3) := by decide +kernel
theorem dX12_fixedOnes_21 : decode cX12_fixedOnes 21 = .ok (.iconst 1, 1) := by decide +kernel
theorem dX12_fixedOnes_22 : decode cX12_fixedOnes 22 = .ok (.goto 4, 3) := by decide +kernel
theorem dX12_fixedOnes_25 : decode cX12_fixedOnes 25 = .ok (.iconst 0, 1) := by decide +kernel
theorem dX12_fixedOnes_26 : decode cX12_fixedOnes 26 = .ok (.iadd, 1) := by decide +kernel
theorem dX12_fixedOnes_27 : decode cX12_fixedOnes 27 = .ok (.istore_n 1, 1) := by decide +kernel
theorem dX12_fixedOnes_28 : decode cX12_fixedOnes 28 = .ok (.iinc 2 1, 3) := by decide +kernel
theorem dX12_fixedOnes_31 : decode cX12_fixedOnes 31 = .ok (.goto (-27), 3) := by decide +kernel
theorem dX12_fixedOnes_34 : decode cX12_fixedOnes 34 = .ok (.iload_n 1, 1) := by decide +kernel
theorem dX12_fixedOnes_35 : decode cX12_fixedOnes 35 = .ok (.ireturn, 1) := by decide +kernel
set_option maxRecDepth 20000 in
theorem b_X12_fixedOnes_0 {k n : Nat} {x : Wx} {Z : Zt} {Q : Option Value → Wx → Zt → Prop} {a0 : Nat} 
    (h : V mX12_fixedOnes k n 4 [some (r_ a0), some (i_ 0), some (i_ 0)] [] x Z Q) :
    V mX12_fixedOnes k n 0 [some (r_ a0), none, none] [] x Z Q :=
  V_iconst dX12_fixedOnes_0 (V_istore_n (lv' := [some (r_ a0), some (i_ 0), none]) dX12_fixedOnes_1 (Nat.le_of_ble_eq_true rfl) rfl (V_iconst dX12_fixedOnes_2 (V_istore_n (lv' := [some (r_ a0), some (i_ 0), some (i_ 0)]) dX12_fixedOnes_3 (Nat.le_of_ble_eq_true rfl) rfl (V_msk [true, true, true] rfl h))))
set_option maxRecDepth 20000 in
theorem b_X12_fixedOnes_4 {k n : Nat} {x : Wx} {Z : Zt} {Q : Option Value → Wx → Zt → Prop} {a0 : Nat} {v1 : Int} {v2 : Int} (o_a0 : Is12 x a0)
    (h : Rg v2 ∧ Rg (Z a0 15) ∧ (((Z a0 15 ≤ v2) → (Q (some (i_ v1)) x Z)) ∧ ((v2 < Z a0 15) → (∃ g1 : Int, (∃ g2 : Nat → Int, (IsP g1 ∧ MPt Z a0 (pall g1 g2) ∧ (0 ≤ v2 ∧ v2 < (pall g1 g2).length) ∧ (Rg (bI (fxd (pall g1 g2) v2)) ∧ (((bI (fxd (pall g1 g2) v2) = 0) → (V mX12_fixedOnes k n 26 [some (r_ a0), none, some (i_ v2)] [i_ 0, i_ v1] x Z Q)) ∧ ((bI (fxd (pall g1 g2) v2) ≠ 0) → (V mX12_fixedOnes k n 26 [some (r_ a0), none, some (i_ v2)] [i_ 1, i_ v1] x Z Q)))))))))) :
    V mX12_fixedOnes k n 4 [some (r_ a0), some (i_ v1), some (i_ v2)] [] x Z Q :=
  V_iload_n dX12_fixedOnes_4 rfl (V_aload_n dX12_fixedOnes_5 rfl (G_12_15 o_a0.1 lf_12_227 dX12_fixedOnes_6 (V_icmp_ge (tgt := 34) dX12_fixedOnes_9 rfl h.1 h.2.1 (fun c1 => V_iload_n dX12_fixedOnes_34 rfl (V_iret (ty := .int) dX12_fixedOnes_35 rfl rfl (h.2.2.1 c1))) (fun c1 => V_iload_n dX12_fixedOnes_12 rfl (V_aload_n dX12_fixedOnes_13 rfl (V_iload_n dX12_fixedOnes_14 rfl (Exists.elim (h.2.2.2 c1) (fun g1 w1 => Exists.elim w1 (fun g2 w2 => V_callV (k' := 0) (n' := 0) (t := 12) (q := (RX12, TX12, 46)) [i_ v2] [i_ v1] okX12_isFixed o_a0.1 rfl rfl lm_12_267 liX12_isFixed lqX12_isFixed (Nat.le_of_ble_eq_true rfl) (Nat.le_of_ble_eq_true rfl) (Nat.le_of_ble_eq_true rfl) (cat_of rfl) (Nat.le_of_ble_eq_true rfl) (Nat.zero_le _) (Nat.zero_le _) rfl dX12_fixedOnes_15 (sp_X12_isFixed o_a0 w2.1 w2.2.1 w2.2.2.1 (V_if_eq (tgt := 25) dX12_fixedOnes_18 rfl w2.2.2.2.1 (fun c2 => V_iconst dX12_fixedOnes_25 (V_msk [true, false, true] rfl (w2.2.2.2.2.1 c2))) (fun c2 => V_iconst dX12_fixedOnes_21 (V_goto (tgt := 26) dX12_fixedOnes_22 rfl (V_msk [true, false, true] rfl (w2.2.2.2.2.2 c2)))))))))))))))
set_option maxRecDepth 20000 in
theorem b_X12_fixedOnes_26 {k n : Nat} {x : Wx} {Z : Zt} {Q : Option Value → Wx → Zt → Prop} {a0 : Nat} {v2 : Int} {t0 : Int} {t1 : Int} 
    (h : V mX12_fixedOnes k n 4 [some (r_ a0), some (i_ (t0 + t1)), some (i_ (v2 + 1))] [] x Z Q) :
    V mX12_fixedOnes k n 26 [some (r_ a0), none, some (i_ v2)] [i_ t1, i_ t0] x Z Q :=
  V_iadd dX12_fixedOnes_26 (V_istore_n (lv' := [some (r_ a0), some (i_ (t0 + t1)), some (i_ v2)]) dX12_fixedOnes_27 (Nat.le_of_ble_eq_true rfl) rfl (V_iinc (lv' := [some (r_ a0), some (i_ (t0 + t1)), some (i_ (v2 + 1))]) dX12_fixedOnes_28 rfl (Nat.le_of_ble_eq_true rfl) rfl (V_goto (tgt := 4) dX12_fixedOnes_31 rfl (V_msk [true, true, true] rfl h))))
def TkC (b : Nat) (T : Td) (c : Int) (Z Z' : Zt) (P P' : Nat → Nat → Int) (r : Int) : Prop := (r = 1 ∧ (0 ≤ c ∧ c < T.ct 0) ∧ MC Z' b (T.p c.toNat) (T.F c.toNat) ∧ MS Z' b P' ∧ P' 0 = T.F c.toNat ∧ (∀ q : Nat, q ≠ 0 → P' q = P q) ∧ Oth Z Z' (fun d => d = b ∨ d = b + 4 ∨ d = b + 5 ∨ d = b + 6) ∧ (∀ i : Nat, i ≠ 11 → i ≠ 12 → i ≠ 15 → Z' b i = Z b i)) ∨ (r = 0 ∧ ¬ (0 ≤ c ∧ c < T.ct 0) ∧ Z' = Z ∧ P' = P)
theorem w_X12_takesCurve {k n : Nat} {x : Wx} {Z : Zt} {Q : Option Value → Wx → Zt → Prop} {b : Nat} {c : Int} (o : Is12 x b) {P : Nat → Nat → Int} {T : Td} (hT : MT (Z (b + 1)) T) (hV : TdV T) (hP : MS Z b P) (hc : Rg c) (h : ∀ (Z' : Zt) (P' : Nat → Nat → Int) (r : Int), TkC b T c Z Z' P P' r → Q (some (i_ r)) x Z') : V mX12_takesCurve k n 0 [some (r_ b), some (i_ c), none, none] [] x Z Q := sp_X12_takesCurve o hT hV hP hc h
theorem MS.any {Z : Zt} {b : Nat} : MS Z b (fun q i => Z (b + 4) (24 * q + i)) := fun _ _ _ _ => rfl
theorem TkC.rg {b : Nat} {T : Td} {c : Int} {Z Z' : Zt} {P P' : Nat → Nat → Int} {r : Int} (h : TkC b T c Z Z' P P' r) : Rg r ∧ (r = 0 ∨ r = 1) := by
  rcases h with h | h <;> exact ⟨⟨by omega, by omega⟩, by omega⟩
theorem TkC.yes {b : Nat} {T : Td} {c : Int} {Z Z' : Zt} {P P' : Nat → Nat → Int} {r : Int} (h : TkC b T c Z Z' P P' r) (hV : TdV T) (hr : r ≠ 0) : (0 ≤ c ∧ c < T.ct 0) ∧ MF Z' b (T.p c.toNat) (T.F c.toNat) ∧ Mq b Z Z' := by
  rcases h with ⟨_, h1, h2, h3, h4, h5, h6, h7⟩ | h
  · exact ⟨h1, ⟨h2, (Td.crv hV (by omega)).1, P', h3, h4⟩, Mq.oth h6 (fun d hd => by have hd : d = b ∨ d = b + 4 ∨ d = b + 5 ∨ d = b + 6 := hd; omega)⟩
  · exact absurd h.1 hr
theorem TkC.no {b : Nat} {T : Td} {c : Int} {Z Z' : Zt} {P P' : Nat → Nat → Int} {r : Int} (h : TkC b T c Z Z' P P' r) (hr : r = 0) : ¬ (0 ≤ c ∧ c < T.ct 0) ∧ Mq b Z Z' := by
  rcases h with h | h
  · omega
  · exact ⟨h.2.1, by rw [h.2.2.1]; exact Mq.rf⟩
theorem Td.Fat {T : Td} (h : TdV T) {q v : Nat} (hq : (q : Int) < T.ct 0) (hv : (v : Int) ≤ T.rw q 1) : T.F q v = T.rw q (2 + v) := by
  have hc := (h.2.2.2.2.2.2.2.1 q hq).2.2.1 v hv
  show ptak (T.rw q 0) (T.rw q) 2 (T.rw q 1).toNat v = _
  unfold ptak; rw [if_pos (by omega)]; exact Int.emod_eq_of_lt hc.1 hc.2
def RAm (b : Nat) (x : Wx) (Z : Zt) (Q : Option Value → Wx → Zt → Prop) (r : Int) : Prop := ∀ Z' : Zt, Mq b Z Z' → Q (some (i_ r)) x Z'
def alS (s : Nat → Int) (t : Int) : Nat → Int
  | 0 => 0
  | m + 1 => alS s t m + (if t ≠ 0 ∧ m % 2 = 1 then -(s m) else s m)
theorem alS_shA {s : Nat → Int} {g : Int} (hg : g = 1 ∨ g = 2) : alS s 0 (2 * g + 1).toNat = shA s 1 (2 * g + 1).toNat 0 ∧ alS s 1 (2 * g + 1).toNat = shA s (-1) (2 * g + 1).toNat 0 := by
  rcases hg with rfl | rfl
  · refine ⟨?_, ?_⟩
    · show 0 + s 0 + s 1 + s 2 = ((0 * 1 + s 2) * 1 + s 1) * 1 + s 0; omega
    · show 0 + s 0 + -(s 1) + s 2 = ((0 * (-1) + s 2) * (-1) + s 1) * (-1) + s 0; omega
  · refine ⟨?_, ?_⟩
    · show 0 + s 0 + s 1 + s 2 + s 3 + s 4 = ((((0 * 1 + s 4) * 1 + s 3) * 1 + s 2) * 1 + s 1) * 1 + s 0; omega
    · show 0 + s 0 + -(s 1) + s 2 + -(s 3) + s 4 = ((((0 * (-1) + s 4) * (-1) + s 3) * (-1) + s 2) * (-1) + s 1) * (-1) + s 0; omega
theorem sp_X12_classesOf {k n : Nat} {x : Wx} {Z : Zt} {Q : Option Value → Wx → Zt → Prop} {b : Nat} {t : Int} (o : Is12 x b) {p : Int} {F : Nat → Int} (hF : MF Z b p F) (ht : t = 0 ∨ t = 1) (h : Q (some (i_ (shA (shF p F) (if t = 0 then 1 else -1) (2 * gen F + 1).toNat 0))) x Z) : V mX12_classesOf k n 0 [some (r_ b), some (i_ t), none, none] [] x Z Q := by
  have hg := gen_rg F
  have m2 := hF.1.1.2
  have lp : ∀ (m : Nat) (i : Nat), (i : Int) + m = 2 * gen F + 1 → V mX12_classesOf k n 4 [some (r_ b), some (i_ t), some (i_ (alS (shF p F) t i)), some (i_ (i : Int))] [] x Z Q := by
    intro m
    induction m with
    | zero =>
      intro i hi
      refine b_X12_classesOf_4 o ⟨⟨by omega, by omega⟩, by rw [m2]; exact ⟨by omega, by omega⟩, fun _ => ?_, fun c => by rw [m2] at c; omega⟩
      have e := alS_shA (s := shF p F) (g := gen F) (by omega)
      rw [show (2 * gen F + 1).toNat = i by omega] at e h
      rcases ht with rfl | rfl
      · rw [e.1]; exact h
      · rw [e.2]; exact h
    | succ m ih =>
      intro i hi
      have nx := ih (i + 1) (by omega)
      have es : alS (shF p F) t (i + 1) = alS (shF p F) t i + (if t ≠ 0 ∧ i % 2 = 1 then -(shF p F i) else shF p F i) := rfl
      have em : Int.tmod (i : Int) 2 = ((i % 2 : Nat) : Int) := by rw [Int.tmod_eq_emod_of_nonneg (by omega)]; omega
      have r35 : ¬ (t ≠ 0 ∧ i % 2 = 1) → V mX12_classesOf k n 35 [some (r_ b), some (i_ t), none, some (i_ (i : Int))] [i_ (alS (shF p F) t i)] x Z Q := fun c => by
        rw [es, if_neg c] at nx
        refine b_X12_classesOf_35 o ⟨p, F, hF, by omega, b_X12_classesOf_40 ?_⟩
        rw [Int.toNat_natCast]; exact nx
      refine b_X12_classesOf_4 o ⟨⟨by omega, by omega⟩, by rw [m2]; exact ⟨by omega, by omega⟩, fun c => by rw [m2] at c; omega, fun _ => ⟨⟨by omega, by omega⟩, fun c => r35 (fun q => q.1 c), fun c => ⟨by rw [em]; exact ⟨by omega, by omega⟩, fun d => r35 (fun q => d (by rw [em]; omega)), fun d => ⟨p, F, hF, by omega, b_X12_classesOf_40 ?_⟩⟩⟩⟩
      rw [em] at d
      rw [es, if_pos ⟨c, by omega⟩] at nx
      rw [Int.toNat_natCast]; exact nx
  exact b_X12_classesOf_0 (lp (2 * gen F + 1).toNat 0 (by omega))
theorem sp_X12_fixedOnes {k n : Nat} {x : Wx} {Z : Zt} {Q : Option Value → Wx → Zt → Prop} {b : Nat} (o : Is12 x b) {p : Int} {F : Nat → Int} (hp : IsP p) (hL : MPt Z b (pall p F)) (h : Q (some (i_ (fxn (pall p F) (pall p F).length))) x Z) : V mX12_fixedOnes k n 0 [some (r_ b), none, none] [] x Z Q := by
  have hl := pall_len hp F
  have lp : ∀ (m : Nat) (i : Nat), i + m = (pall p F).length → V mX12_fixedOnes k n 4 [some (r_ b), some (i_ (fxn (pall p F) i)), some (i_ (i : Int))] [] x Z Q := by
    intro m
    induction m with
    | zero =>
      intro i hi
      exact b_X12_fixedOnes_4 o ⟨⟨by omega, by omega⟩, by rw [hL.1]; exact ⟨by omega, by omega⟩, fun _ => by rw [show i = (pall p F).length by omega]; exact h, fun c => by rw [hL.1] at c; omega⟩
    | succ m ih =>
      intro i hi
      have nx := ih (i + 1) (by omega)
      have es : fxn (pall p F) (i + 1) = fxn (pall p F) i + bI (fxd (pall p F) (i : Int)) := rfl
      rw [es] at nx
      refine b_X12_fixedOnes_4 o ⟨⟨by omega, by omega⟩, by rw [hL.1]; exact ⟨by omega, by omega⟩, fun c => by rw [hL.1] at c; omega, fun _ => ⟨p, F, hp, hL, by omega, ?_⟩⟩
      cases hb : fxd (pall p F) (i : Int) with
      | true =>
        rw [hb] at nx
        exact ⟨⟨by decide, by decide⟩, fun c => absurd c (by decide), fun _ => b_X12_fixedOnes_26 nx⟩
      | false =>
        rw [hb] at nx
        exact ⟨⟨by decide, by decide⟩, fun _ => b_X12_fixedOnes_26 nx, fun c => absurd rfl c⟩
  exact b_X12_fixedOnes_0 (lp (pall p F).length 0 (by omega))
theorem dX12_share_0 : decode cX12_share 0 = .ok (.aload_n 0, 1) := by decide +kernel
theorem dX12_share_1 : decode cX12_share 1 = .ok (.iload_n 1, 1) := by decide +kernel
theorem dX12_share_2 : decode cX12_share 2 = .ok (.invokevirtual 249, 3) := by decide +kernel
theorem dX12_share_5 : decode cX12_share 5 = .ok (.ifCond .eq 17, 3) := by decide +kernel
theorem dX12_share_8 : decode cX12_share 8 = .ok (.iload_n 2, 1) := by decide +kernel
theorem dX12_share_9 : decode cX12_share 9 = .ok (.iconst (-1), 1) := by decide +kernel
theorem dX12_share_10 : decode cX12_share 10 = .ok (.iconst 2, 1) := by decide +kernel
theorem dX12_share_11 : decode cX12_share 11 = .ok (.aload_n 0, 1) := by decide +kernel
theorem dX12_share_12 : decode cX12_share 12 = .ok (.getfield 221, 3) := by decide +kernel
theorem dX12_share_15 : decode cX12_share 15 = .ok (.imul, 1) := by decide +kernel
theorem dX12_share_16 : decode cX12_share 16 = .ok (.invokestatic 129, 3) := by decide +kernel
theorem dX12_share_19 : decode cX12_share 19 = .ok (.ifCond .ne 6, 3) := by decide +kernel
theorem dX12_share_22 : decode cX12_share 22 = .ok (.ldc 252, 2) := by decide +kernel
theorem dX12_share_24 : decode cX12_share 24 = .ok (.ireturn, 1) := by decide +kernel
theorem dX12_share_25 : decode cX12_share 25 = .ok (.iload_n 2, 1) := by decide +kernel
theorem dX12_share_26 : decode cX12_share 26 = .ok (.iconst (-1), 1) := by decide +kernel
theorem dX12_share_27 : decode cX12_share 27 = .ok (.if_icmp .ne 11, 3) := by decide +kernel
theorem dX12_share_30 : decode cX12_share 30 = .ok (.aload_n 0, 1) := by decide +kernel
theorem dX12_share_31 : decode cX12_share 31 = .ok (.iconst 0, 1) := by decide +kernel
theorem dX12_share_32 : decode cX12_share 32 = .ok (.invokevirtual 253, 3) := by decide +kernel
theorem dX12_share_35 : decode cX12_share 35 = .ok (.goto 8, 3) := by decide +kernel
theorem dX12_share_38 : decode cX12_share 38 = .ok (.aload_n 0, 1) := by decide +kernel
theorem dX12_share_39 : decode cX12_share 39 = .ok (.iload_n 2, 1) := by decide +kernel
theorem dX12_share_40 : decode cX12_share 40 = .ok (.invokevirtual 246, 3) := by decide +kernel
theorem dX12_share_43 : decode cX12_share 43 = .ok (.ireturn, 1) := by decide +kernel
set_option maxRecDepth 20000 in
theorem b_X12_share_0 {k n : Nat} {x : Wx} {Z : Zt} {Q : Option Value → Wx → Zt → Prop} {a0 : Nat} {v1 : Int} {v2 : Int} (o_a0 : Is12 x a0)
    (h : ∃ g1 : Nat → Nat → Int, (∃ g2 : Td, (MT (Z (a0 + 1)) g2 ∧ TdV g2 ∧ MS Z a0 g1 ∧ Rg v1 ∧ (∀ (Z'1 : Zt) (P'1 : Nat → Nat → Int) (r1 : Int), (TkC a0 g2 v1 Z Z'1 g1 P'1 r1) → (Rg r1 ∧ (((r1 = 0) → (V mX12_share k n 22 [none, none, none] [] x Z'1 Q)) ∧ ((r1 ≠ 0) → ((Rg v2 ∧ Rg (-1 : Int) ∧ Rg (2 * (Z'1 a0 12))) ∧ (∀ (r2 : Int), (((r2 = 1 ∧ (-1 : Int) ≤ v2 ∧ v2 ≤ (2 * (Z'1 a0 12))) ∨ (r2 = 0 ∧ (v2 < (-1 : Int) ∨ (2 * (Z'1 a0 12)) < v2)))) → (Rg r2 ∧ (((r2 ≠ 0) → (Rg v2 ∧ (((v2 ≠ (-1)) → (∃ g3 : Int, (∃ g4 : Nat → Int, (MF Z'1 a0 g3 g4 ∧ (0 ≤ v2 ∧ v2 ≤ 2 * gen g4) ∧ (Q (some (i_ (shF g3 g4 v2.toNat))) x Z'1))))) ∧ ((v2 = (-1)) → (∃ g5 : Int, (∃ g6 : Nat → Int, (MF Z'1 a0 g5 g6 ∧ ((0 : Int) = 0 ∨ (0 : Int) = 1) ∧ (Q (some (i_ (shA (shF g5 g6) (if (0 : Int) = 0 then 1 else -1) (2 * gen g6 + 1).toNat 0))) x Z'1)))))))) ∧ ((r2 = 0) → (V mX12_share k n 22 [none, none, none] [] x Z'1 Q))))))))))))) :
    V mX12_share k n 0 [some (r_ a0), some (i_ v1), some (i_ v2)] [] x Z Q :=
  V_aload_n dX12_share_0 rfl (V_iload_n dX12_share_1 rfl (Exists.elim h (fun g1 w1 => Exists.elim w1 (fun g2 w2 => V_callV (k' := 0) (n' := 0) (t := 12) (q := (RX12, TX12, 46)) [i_ v1] [] okX12_takesCurve o_a0.1 rfl rfl lm_12_249 liX12_takesCurve lqX12_takesCurve (Nat.le_of_ble_eq_true rfl) (Nat.le_of_ble_eq_true rfl) (Nat.le_of_ble_eq_true rfl) (cat_of rfl) (Nat.le_of_ble_eq_true rfl) (Nat.zero_le _) (Nat.zero_le _) rfl dX12_share_2 (w_X12_takesCurve o_a0 w2.1 w2.2.1 w2.2.2.1 w2.2.2.2.1 (fun Z'1 P'1 r1 p1 => V_if_eq (tgt := 22) dX12_share_5 rfl (w2.2.2.2.2 Z'1 P'1 r1 p1).1 (fun c1 => V_msk [false, false, false] rfl ((w2.2.2.2.2 Z'1 P'1 r1 p1).2.1 c1)) (fun c1 => V_iload_n dX12_share_8 rfl (V_iconst dX12_share_9 (V_iconst dX12_share_10 (V_aload_n dX12_share_11 rfl (G_12_12 o_a0.1 lf_12_221 dX12_share_12 (V_imul dX12_share_15 (V_callS (k' := 0) (n' := 0) [i_ v2, i_ (-1), i_ (2 * (Z'1 a0 12))] [] okX12_isIn lm_12_129 lsX12_isIn (Nat.le_of_ble_eq_true rfl) (Nat.le_of_ble_eq_true rfl) (Nat.le_of_ble_eq_true rfl) (cat_of rfl) (Nat.le_of_ble_eq_true rfl) (Nat.zero_le _) (Nat.zero_le _) rfl dX12_share_16 (sp_X12_isIn  ((w2.2.2.2.2 Z'1 P'1 r1 p1).2.2 c1).1 (fun r2 p2 => V_if_ne (tgt := 25) dX12_share_19 rfl (((w2.2.2.2.2 Z'1 P'1 r1 p1).2.2 c1).2 r2 p2).1 (fun c2 => V_iload_n dX12_share_25 rfl (V_iconst dX12_share_26 (V_icmp_ne (tgt := 38) dX12_share_27 rfl ((((w2.2.2.2.2 Z'1 P'1 r1 p1).2.2 c1).2 r2 p2).2.1 c2).1 (rg_c rfl) (fun c3 => V_aload_n dX12_share_38 rfl (V_iload_n dX12_share_39 rfl (Exists.elim (((((w2.2.2.2.2 Z'1 P'1 r1 p1).2.2 c1).2 r2 p2).2.1 c2).2.1 c3) (fun g3 w3 => Exists.elim w3 (fun g4 w4 => V_callV (k' := 0) (n' := 0) (t := 12) (q := (RX12, TX12, 46)) [i_ v2] [] okX12_shareOf o_a0.1 rfl rfl lm_12_246 liX12_shareOf lqX12_shareOf (Nat.le_of_ble_eq_true rfl) (Nat.le_of_ble_eq_true rfl) (Nat.le_of_ble_eq_true rfl) (cat_of rfl) (Nat.le_of_ble_eq_true rfl) (Nat.zero_le _) (Nat.zero_le _) rfl dX12_share_40 (sp_X12_shareOf o_a0 w4.1 w4.2.1 (V_iret (ty := .int) dX12_share_43 rfl rfl w4.2.2))))))) (fun c3 => V_aload_n dX12_share_30 rfl (V_iconst dX12_share_31 (Exists.elim (((((w2.2.2.2.2 Z'1 P'1 r1 p1).2.2 c1).2 r2 p2).2.1 c2).2.2 c3) (fun g5 w5 => Exists.elim w5 (fun g6 w6 => V_callV (k' := 0) (n' := 0) (t := 12) (q := (RX12, TX12, 46)) [i_ 0] [] okX12_classesOf o_a0.1 rfl rfl lm_12_253 liX12_classesOf lqX12_classesOf (Nat.le_of_ble_eq_true rfl) (Nat.le_of_ble_eq_true rfl) (Nat.le_of_ble_eq_true rfl) (cat_of rfl) (Nat.le_of_ble_eq_true rfl) (Nat.zero_le _) (Nat.zero_le _) rfl dX12_share_32 (sp_X12_classesOf o_a0 w6.1 w6.2.1 (V_goto (tgt := 43) dX12_share_35 rfl (V_iret (ty := .int) dX12_share_43 rfl rfl w6.2.2))))))))))) (fun c2 => V_msk [false, false, false] rfl ((((w2.2.2.2.2 Z'1 P'1 r1 p1).2.2 c1).2 r2 p2).2.2 c2)))))))))))))))))
set_option maxRecDepth 20000 in
theorem b_X12_share_22 {k n : Nat} {x : Wx} {Z : Zt} {Q : Option Value → Wx → Zt → Prop}  
    (h : Q (some (i_ (-1000000))) x Z) :
    V mX12_share k n 22 [none, none, none] [] x Z Q :=
  V_ldc (z := (-1000000)) dX12_share_22 lk_12_252 (V_iret (ty := .int) dX12_share_24 rfl rfl h)
theorem dX12_curve_0 : decode cX12_curve 0 = .ok (.aload_n 0, 1) := by decide +kernel
theorem dX12_curve_1 : decode cX12_curve 1 = .ok (.iload_n 1, 1) := by decide +kernel
theorem dX12_curve_2 : decode cX12_curve 2 = .ok (.invokevirtual 249, 3) := by decide +kernel
theorem dX12_curve_5 : decode cX12_curve 5 = .ok (.ifCond .ne 5, 3) := by decide +kernel
theorem dX12_curve_8 : decode cX12_curve 8 = .ok (.iconst (-1), 1) := by decide +kernel
theorem dX12_curve_9 : decode cX12_curve 9 = .ok (.ireturn, 1) := by decide +kernel
theorem dX12_curve_10 : decode cX12_curve 10 = .ok (.iload_n 2, 1) := by decide +kernel
theorem dX12_curve_11 : decode cX12_curve 11 = .ok (.tableswitch 82 0 6 #[41, 46, 52, 57, 62, 67, 73], 41) := by decide +kernel
theorem dX12_curve_52 : decode cX12_curve 52 = .ok (.aload_n 0, 1) := by decide +kernel
theorem dX12_curve_53 : decode cX12_curve 53 = .ok (.getfield 179, 3) := by decide +kernel
theorem dX12_curve_56 : decode cX12_curve 56 = .ok (.ireturn, 1) := by decide +kernel
theorem dX12_curve_57 : decode cX12_curve 57 = .ok (.aload_n 0, 1) := by decide +kernel
theorem dX12_curve_58 : decode cX12_curve 58 = .ok (.iconst 0, 1) := by decide +kernel
theorem dX12_curve_59 : decode cX12_curve 59 = .ok (.invokevirtual 192, 3) := by decide +kernel
theorem dX12_curve_62 : decode cX12_curve 62 = .ok (.ireturn, 1) := by decide +kernel
theorem dX12_curve_63 : decode cX12_curve 63 = .ok (.aload_n 0, 1) := by decide +kernel
theorem dX12_curve_64 : decode cX12_curve 64 = .ok (.getfield 221, 3) := by decide +kernel
theorem dX12_curve_67 : decode cX12_curve 67 = .ok (.ireturn, 1) := by decide +kernel
theorem dX12_curve_68 : decode cX12_curve 68 = .ok (.aload_n 0, 1) := by decide +kernel
theorem dX12_curve_69 : decode cX12_curve 69 = .ok (.getfield 227, 3) := by decide +kernel
theorem dX12_curve_72 : decode cX12_curve 72 = .ok (.ireturn, 1) := by decide +kernel
theorem dX12_curve_73 : decode cX12_curve 73 = .ok (.aload_n 0, 1) := by decide +kernel
theorem dX12_curve_74 : decode cX12_curve 74 = .ok (.invokevirtual 270, 3) := by decide +kernel
theorem dX12_curve_77 : decode cX12_curve 77 = .ok (.ireturn, 1) := by decide +kernel
theorem dX12_curve_78 : decode cX12_curve 78 = .ok (.aload_n 0, 1) := by decide +kernel
theorem dX12_curve_79 : decode cX12_curve 79 = .ok (.iconst 0, 1) := by decide +kernel
theorem dX12_curve_80 : decode cX12_curve 80 = .ok (.invokevirtual 253, 3) := by decide +kernel
theorem dX12_curve_83 : decode cX12_curve 83 = .ok (.ireturn, 1) := by decide +kernel
theorem dX12_curve_84 : decode cX12_curve 84 = .ok (.iconst 2, 1) := by decide +kernel
theorem dX12_curve_85 : decode cX12_curve 85 = .ok (.aload_n 0, 1) := by decide +kernel
theorem dX12_curve_86 : decode cX12_curve 86 = .ok (.getfield 221, 3) := by decide +kernel
theorem dX12_curve_89 : decode cX12_curve 89 = .ok (.imul, 1) := by decide +kernel
theorem dX12_curve_90 : decode cX12_curve 90 = .ok (.iconst 2, 1) := by decide +kernel
theorem dX12_curve_91 : decode cX12_curve 91 = .ok (.iadd, 1) := by decide +kernel
theorem dX12_curve_92 : decode cX12_curve 92 = .ok (.ireturn, 1) := by decide +kernel
theorem dX12_curve_93 : decode cX12_curve 93 = .ok (.iload_n 2, 1) := by decide +kernel
theorem dX12_curve_94 : decode cX12_curve 94 = .ok (.bipush 10, 2) := by decide +kernel
theorem dX12_curve_96 : decode cX12_curve 96 = .ok (.bipush 10, 2) := by decide +kernel
theorem dX12_curve_98 : decode cX12_curve 98 = .ok (.aload_n 0, 1) := by decide +kernel
theorem dX12_curve_99 : decode cX12_curve 99 = .ok (.iconst 0, 1) := by decide +kernel
theorem dX12_curve_100 : decode cX12_curve 100 = .ok (.invokevirtual 192, 3) := by decide +kernel
theorem dX12_curve_103 : decode cX12_curve 103 = .ok (.iadd, 1) := by decide +kernel
theorem dX12_curve_104 : decode cX12_curve 104 = .ok (.invokestatic 129, 3) := by decide +kernel
theorem dX12_curve_107 : decode cX12_curve 107 = .ok (.ifCond .eq 15, 3) := by decide +kernel
theorem dX12_curve_110 : decode cX12_curve 110 = .ok (.aload_n 0, 1) := by decide +kernel
theorem dX12_curve_111 : decode cX12_curve 111 = .ok (.iconst 0, 1) := by decide +kernel
theorem dX12_curve_112 : decode cX12_curve 112 = .ok (.iload_n 2, 1) := by decide +kernel
theorem dX12_curve_113 : decode cX12_curve 113 = .ok (.bipush 10, 2) := by decide +kernel
theorem dX12_curve_115 : decode cX12_curve 115 = .ok (.isub, 1) := by decide +kernel
theorem dX12_curve_116 : decode cX12_curve 116 = .ok (.invokevirtual 185, 3) := by decide +kernel
theorem dX12_curve_119 : decode cX12_curve 119 = .ok (.goto 4, 3) := by decide +kernel
theorem dX12_curve_122 : decode cX12_curve 122 = .ok (.iconst (-1), 1) := by decide +kernel
theorem dX12_curve_123 : decode cX12_curve 123 = .ok (.ireturn, 1) := by decide +kernel
set_option maxRecDepth 20000 in
theorem b_X12_curve_0 {k n : Nat} {x : Wx} {Z : Zt} {Q : Option Value → Wx → Zt → Prop} {a0 : Nat} {v1 : Int} {v2 : Int} (o_a0 : Is12 x a0)
    (h : ∃ g1 : Nat → Nat → Int, (∃ g2 : Td, (MT (Z (a0 + 1)) g2 ∧ TdV g2 ∧ MS Z a0 g1 ∧ Rg v1 ∧ (∀ (Z'1 : Zt) (P'1 : Nat → Nat → Int) (r1 : Int), (TkC a0 g2 v1 Z Z'1 g1 P'1 r1) → (Rg r1 ∧ (((r1 ≠ 0) → (Rg v2 ∧ ((v2 = 0 → (Q (some (i_ (Z'1 a0 11))) x Z'1)) ∧ (v2 = 1 → (∃ g3 : Nat → Nat → Int, (MS Z'1 a0 g3 ∧ (0 ≤ (0 : Int) ∧ (0 : Int) < 27) ∧ (∀ i : Nat, i < 24 → Rg (g3 (0 : Int).toNat i)) ∧ (Q (some (i_ (pd (g3 (0 : Int).toNat)))) x Z'1)))) ∧ (v2 = 2 → (Q (some (i_ (Z'1 a0 12))) x Z'1)) ∧ (v2 = 3 → (Q (some (i_ (Z'1 a0 15))) x Z'1)) ∧ (v2 = 4 → (∃ g4 : Int, (∃ g5 : Nat → Int, (IsP g4 ∧ MPt Z'1 a0 (pall g4 g5) ∧ (Q (some (i_ (fxn (pall g4 g5) (pall g4 g5).length))) x Z'1))))) ∧ (v2 = 5 → (∃ g6 : Int, (∃ g7 : Nat → Int, (MF Z'1 a0 g6 g7 ∧ ((0 : Int) = 0 ∨ (0 : Int) = 1) ∧ (Q (some (i_ (shA (shF g6 g7) (if (0 : Int) = 0 then 1 else -1) (2 * gen g7 + 1).toNat 0))) x Z'1))))) ∧ (v2 = 6 → (Q (some (i_ ((2 * (Z'1 a0 12)) + 2))) x Z'1)) ∧ ((v2 < 0 ∨ 6 < v2) → (∃ g8 : Nat → Nat → Int, (MS Z'1 a0 g8 ∧ (0 ≤ (0 : Int) ∧ (0 : Int) < 27) ∧ (∀ i : Nat, i < 24 → Rg (g8 (0 : Int).toNat i)) ∧ ((Rg v2 ∧ Rg (10 : Int) ∧ Rg (10 + (pd (g8 (0 : Int).toNat)))) ∧ (∀ (r2 : Int), (((r2 = 1 ∧ (10 : Int) ≤ v2 ∧ v2 ≤ (10 + (pd (g8 (0 : Int).toNat)))) ∨ (r2 = 0 ∧ (v2 < (10 : Int) ∨ (10 + (pd (g8 (0 : Int).toNat))) < v2)))) → (Rg r2 ∧ (((r2 = 0) → (Q (some (i_ (-1))) x Z'1)) ∧ ((r2 ≠ 0) → ((0 ≤ 24 * (0 : Int) + (v2 - 10) ∧ 24 * (0 : Int) + (v2 - 10) < 648) ∧ (Q (some (i_ (Z'1 (a0 + 4) (24 * (0 : Int) + (v2 - 10)).toNat))) x Z'1))))))))))))) ∧ ((r1 = 0) → (Q (some (i_ (-1))) x Z'1)))))))) :
    V mX12_curve k n 0 [some (r_ a0), some (i_ v1), some (i_ v2)] [] x Z Q :=
  V_aload_n dX12_curve_0 rfl (V_iload_n dX12_curve_1 rfl (Exists.elim h (fun g1 w1 => Exists.elim w1 (fun g2 w2 => V_callV (k' := 0) (n' := 0) (t := 12) (q := (RX12, TX12, 46)) [i_ v1] [] okX12_takesCurve o_a0.1 rfl rfl lm_12_249 liX12_takesCurve lqX12_takesCurve (Nat.le_of_ble_eq_true rfl) (Nat.le_of_ble_eq_true rfl) (Nat.le_of_ble_eq_true rfl) (cat_of rfl) (Nat.le_of_ble_eq_true rfl) (Nat.zero_le _) (Nat.zero_le _) rfl dX12_curve_2 (w_X12_takesCurve o_a0 w2.1 w2.2.1 w2.2.2.1 w2.2.2.2.1 (fun Z'1 P'1 r1 p1 => V_if_ne (tgt := 10) dX12_curve_5 rfl (w2.2.2.2.2 Z'1 P'1 r1 p1).1 (fun c1 => V_iload_n dX12_curve_10 rfl ((by
    rcases sw0_7 v2 with c2 | c3 | c4 | c5 | c6 | c7 | c8 | c9
    · exact V_tableIn (tgt := 52) dX12_curve_11 ((w2.2.2.2.2 Z'1 P'1 r1 p1).2.1 c1).1 (by rw [c2]; decide) (by rw [c2]; decide) (by rw [c2]; rfl) rfl (V_aload_n dX12_curve_52 rfl (G_12_11 o_a0.1 lf_12_179 dX12_curve_53 (V_iret (ty := .int) dX12_curve_56 rfl rfl (((w2.2.2.2.2 Z'1 P'1 r1 p1).2.1 c1).2.1 c2))))
    · exact V_tableIn (tgt := 57) dX12_curve_11 ((w2.2.2.2.2 Z'1 P'1 r1 p1).2.1 c1).1 (by rw [c3]; decide) (by rw [c3]; decide) (by rw [c3]; rfl) rfl (V_aload_n dX12_curve_57 rfl (V_iconst dX12_curve_58 (Exists.elim (((w2.2.2.2.2 Z'1 P'1 r1 p1).2.1 c1).2.2.1 c3) (fun g3 w3 => V_callV (k' := 0) (n' := 0) (t := 12) (q := (RX12, TX12, 46)) [i_ 0] [] okX12_deg o_a0.1 rfl rfl lm_12_192 liX12_deg lqX12_deg (Nat.le_of_ble_eq_true rfl) (Nat.le_of_ble_eq_true rfl) (Nat.le_of_ble_eq_true rfl) (cat_of rfl) (Nat.le_of_ble_eq_true rfl) (Nat.zero_le _) (Nat.zero_le _) rfl dX12_curve_59 (sp_X12_deg o_a0 w3.1 w3.2.1 w3.2.2.1 (V_iret (ty := .int) dX12_curve_62 rfl rfl w3.2.2.2))))))
    · exact V_tableIn (tgt := 63) dX12_curve_11 ((w2.2.2.2.2 Z'1 P'1 r1 p1).2.1 c1).1 (by rw [c4]; decide) (by rw [c4]; decide) (by rw [c4]; rfl) rfl (V_aload_n dX12_curve_63 rfl (G_12_12 o_a0.1 lf_12_221 dX12_curve_64 (V_iret (ty := .int) dX12_curve_67 rfl rfl (((w2.2.2.2.2 Z'1 P'1 r1 p1).2.1 c1).2.2.2.1 c4))))
    · exact V_tableIn (tgt := 68) dX12_curve_11 ((w2.2.2.2.2 Z'1 P'1 r1 p1).2.1 c1).1 (by rw [c5]; decide) (by rw [c5]; decide) (by rw [c5]; rfl) rfl (V_aload_n dX12_curve_68 rfl (G_12_15 o_a0.1 lf_12_227 dX12_curve_69 (V_iret (ty := .int) dX12_curve_72 rfl rfl (((w2.2.2.2.2 Z'1 P'1 r1 p1).2.1 c1).2.2.2.2.1 c5))))
    · exact V_tableIn (tgt := 73) dX12_curve_11 ((w2.2.2.2.2 Z'1 P'1 r1 p1).2.1 c1).1 (by rw [c6]; decide) (by rw [c6]; decide) (by rw [c6]; rfl) rfl (V_aload_n dX12_curve_73 rfl (Exists.elim (((w2.2.2.2.2 Z'1 P'1 r1 p1).2.1 c1).2.2.2.2.2.1 c6) (fun g4 w4 => Exists.elim w4 (fun g5 w5 => V_callV (k' := 0) (n' := 0) (t := 12) (q := (RX12, TX12, 46)) [] [] okX12_fixedOnes o_a0.1 rfl rfl lm_12_270 liX12_fixedOnes lqX12_fixedOnes (Nat.le_of_ble_eq_true rfl) (Nat.le_of_ble_eq_true rfl) (Nat.le_of_ble_eq_true rfl) (cat_of rfl) (Nat.le_of_ble_eq_true rfl) (Nat.zero_le _) (Nat.zero_le _) rfl dX12_curve_74 (sp_X12_fixedOnes o_a0 w5.1 w5.2.1 (V_iret (ty := .int) dX12_curve_77 rfl rfl w5.2.2))))))
    · exact V_tableIn (tgt := 78) dX12_curve_11 ((w2.2.2.2.2 Z'1 P'1 r1 p1).2.1 c1).1 (by rw [c7]; decide) (by rw [c7]; decide) (by rw [c7]; rfl) rfl (V_aload_n dX12_curve_78 rfl (V_iconst dX12_curve_79 (Exists.elim (((w2.2.2.2.2 Z'1 P'1 r1 p1).2.1 c1).2.2.2.2.2.2.1 c7) (fun g6 w6 => Exists.elim w6 (fun g7 w7 => V_callV (k' := 0) (n' := 0) (t := 12) (q := (RX12, TX12, 46)) [i_ 0] [] okX12_classesOf o_a0.1 rfl rfl lm_12_253 liX12_classesOf lqX12_classesOf (Nat.le_of_ble_eq_true rfl) (Nat.le_of_ble_eq_true rfl) (Nat.le_of_ble_eq_true rfl) (cat_of rfl) (Nat.le_of_ble_eq_true rfl) (Nat.zero_le _) (Nat.zero_le _) rfl dX12_curve_80 (sp_X12_classesOf o_a0 w7.1 w7.2.1 (V_iret (ty := .int) dX12_curve_83 rfl rfl w7.2.2)))))))
    · exact V_tableIn (tgt := 84) dX12_curve_11 ((w2.2.2.2.2 Z'1 P'1 r1 p1).2.1 c1).1 (by rw [c8]; decide) (by rw [c8]; decide) (by rw [c8]; rfl) rfl (V_iconst dX12_curve_84 (V_aload_n dX12_curve_85 rfl (G_12_12 o_a0.1 lf_12_221 dX12_curve_86 (V_imul dX12_curve_89 (V_iconst dX12_curve_90 (V_iadd dX12_curve_91 (V_iret (ty := .int) dX12_curve_92 rfl rfl (((w2.2.2.2.2 Z'1 P'1 r1 p1).2.1 c1).2.2.2.2.2.2.2.1 c8))))))))
    · exact V_tableOut (tgt := 93) dX12_curve_11 ((w2.2.2.2.2 Z'1 P'1 r1 p1).2.1 c1).1 c9 rfl (V_iload_n dX12_curve_93 rfl (V_bipush dX12_curve_94 rfl (V_bipush dX12_curve_96 rfl (V_aload_n dX12_curve_98 rfl (V_iconst dX12_curve_99 (Exists.elim (((w2.2.2.2.2 Z'1 P'1 r1 p1).2.1 c1).2.2.2.2.2.2.2.2 c9) (fun g8 w8 => V_callV (k' := 0) (n' := 0) (t := 12) (q := (RX12, TX12, 46)) [i_ 0] [i_ 10, i_ 10, i_ v2] okX12_deg o_a0.1 rfl rfl lm_12_192 liX12_deg lqX12_deg (Nat.le_of_ble_eq_true rfl) (Nat.le_of_ble_eq_true rfl) (Nat.le_of_ble_eq_true rfl) (cat_of rfl) (Nat.le_of_ble_eq_true rfl) (Nat.zero_le _) (Nat.zero_le _) rfl dX12_curve_100 (sp_X12_deg o_a0 w8.1 w8.2.1 w8.2.2.1 (V_iadd dX12_curve_103 (V_callS (k' := 0) (n' := 0) [i_ v2, i_ 10, i_ (10 + (pd (g8 (0 : Int).toNat)))] [] okX12_isIn lm_12_129 lsX12_isIn (Nat.le_of_ble_eq_true rfl) (Nat.le_of_ble_eq_true rfl) (Nat.le_of_ble_eq_true rfl) (cat_of rfl) (Nat.le_of_ble_eq_true rfl) (Nat.zero_le _) (Nat.zero_le _) rfl dX12_curve_104 (sp_X12_isIn  w8.2.2.2.1 (fun r2 p2 => V_if_eq (tgt := 122) dX12_curve_107 rfl (w8.2.2.2.2 r2 p2).1 (fun c10 => V_iconst dX12_curve_122 (V_iret (ty := .int) dX12_curve_123 rfl rfl ((w8.2.2.2.2 r2 p2).2.1 c10))) (fun c10 => V_aload_n dX12_curve_110 rfl (V_iconst dX12_curve_111 (V_iload_n dX12_curve_112 rfl (V_bipush dX12_curve_113 rfl (V_isub dX12_curve_115 (V_callV (k' := 0) (n' := 0) (t := 12) (q := (RX12, TX12, 46)) [i_ 0, i_ (v2 - 10)] [] okX12_at o_a0.1 rfl rfl lm_12_185 liX12_at lqX12_at (Nat.le_of_ble_eq_true rfl) (Nat.le_of_ble_eq_true rfl) (Nat.le_of_ble_eq_true rfl) (cat_of rfl) (Nat.le_of_ble_eq_true rfl) (Nat.zero_le _) (Nat.zero_le _) rfl dX12_curve_116 (sp_X12_at o_a0 ((w8.2.2.2.2 r2 p2).2.2 c10).1 (V_goto (tgt := 123) dX12_curve_119 rfl (V_iret (ty := .int) dX12_curve_123 rfl rfl ((w8.2.2.2.2 r2 p2).2.2 c10).2)))))))))))))))))))))))) (fun c1 => V_iconst dX12_curve_8 (V_iret (ty := .int) dX12_curve_9 rfl rfl ((w2.2.2.2.2 Z'1 P'1 r1 p1).2.2 c1)))))))))
theorem dX12_twist_0 : decode cX12_twist 0 = .ok (.aload_n 0, 1) := by decide +kernel
theorem dX12_twist_1 : decode cX12_twist 1 = .ok (.iload_n 1, 1) := by decide +kernel
theorem dX12_twist_2 : decode cX12_twist 2 = .ok (.invokevirtual 249, 3) := by decide +kernel
theorem dX12_twist_5 : decode cX12_twist 5 = .ok (.ifCond .ne 5, 3) := by decide +kernel
theorem dX12_twist_8 : decode cX12_twist 8 = .ok (.iconst (-1), 1) := by decide +kernel
theorem dX12_twist_9 : decode cX12_twist 9 = .ok (.ireturn, 1) := by decide +kernel
theorem dX12_twist_10 : decode cX12_twist 10 = .ok (.iload_n 2, 1) := by decide +kernel
theorem dX12_twist_11 : decode cX12_twist 11 = .ok (.ifCond .ne 10, 3) := by decide +kernel
theorem dX12_twist_14 : decode cX12_twist 14 = .ok (.aload_n 0, 1) := by decide +kernel
theorem dX12_twist_15 : decode cX12_twist 15 = .ok (.invokevirtual 236, 3) := by decide +kernel
theorem dX12_twist_18 : decode cX12_twist 18 = .ok (.goto 38, 3) := by decide +kernel
theorem dX12_twist_21 : decode cX12_twist 21 = .ok (.iload_n 2, 1) := by decide +kernel
theorem dX12_twist_22 : decode cX12_twist 22 = .ok (.iconst 1, 1) := by decide +kernel
theorem dX12_twist_23 : decode cX12_twist 23 = .ok (.if_icmp .ne 19, 3) := by decide +kernel
theorem dX12_twist_26 : decode cX12_twist 26 = .ok (.iconst 2, 1) := by decide +kernel
theorem dX12_twist_27 : decode cX12_twist 27 = .ok (.aload_n 0, 1) := by decide +kernel
theorem dX12_twist_28 : decode cX12_twist 28 = .ok (.getfield 179, 3) := by decide +kernel
theorem dX12_twist_31 : decode cX12_twist 31 = .ok (.imul, 1) := by decide +kernel
theorem dX12_twist_32 : decode cX12_twist 32 = .ok (.iconst 2, 1) := by decide +kernel
theorem dX12_twist_33 : decode cX12_twist 33 = .ok (.iadd, 1) := by decide +kernel
theorem dX12_twist_34 : decode cX12_twist 34 = .ok (.aload_n 0, 1) := by decide +kernel
theorem dX12_twist_35 : decode cX12_twist 35 = .ok (.getfield 227, 3) := by decide +kernel
theorem dX12_twist_38 : decode cX12_twist 38 = .ok (.isub, 1) := by decide +kernel
theorem dX12_twist_39 : decode cX12_twist 39 = .ok (.goto 17, 3) := by decide +kernel
theorem dX12_twist_42 : decode cX12_twist 42 = .ok (.iload_n 2, 1) := by decide +kernel
theorem dX12_twist_43 : decode cX12_twist 43 = .ok (.iconst 2, 1) := by decide +kernel
theorem dX12_twist_44 : decode cX12_twist 44 = .ok (.if_icmp .ne 11, 3) := by decide +kernel
theorem dX12_twist_47 : decode cX12_twist 47 = .ok (.aload_n 0, 1) := by decide +kernel
theorem dX12_twist_48 : decode cX12_twist 48 = .ok (.iconst 1, 1) := by decide +kernel
theorem dX12_twist_49 : decode cX12_twist 49 = .ok (.invokevirtual 253, 3) := by decide +kernel
theorem dX12_twist_52 : decode cX12_twist 52 = .ok (.goto 4, 3) := by decide +kernel
theorem dX12_twist_55 : decode cX12_twist 55 = .ok (.iconst (-1), 1) := by decide +kernel
theorem dX12_twist_56 : decode cX12_twist 56 = .ok (.ireturn, 1) := by decide +kernel
set_option maxRecDepth 20000 in
theorem b_X12_twist_0 {k n : Nat} {x : Wx} {Z : Zt} {Q : Option Value → Wx → Zt → Prop} {a0 : Nat} {v1 : Int} {v2 : Int} (o_a0 : Is12 x a0)
    (h : ∃ g1 : Nat → Nat → Int, (∃ g2 : Td, (MT (Z (a0 + 1)) g2 ∧ TdV g2 ∧ MS Z a0 g1 ∧ Rg v1 ∧ (∀ (Z'1 : Zt) (P'1 : Nat → Nat → Int) (r1 : Int), (TkC a0 g2 v1 Z Z'1 g1 P'1 r1) → (Rg r1 ∧ (((r1 ≠ 0) → (Rg v2 ∧ (((v2 ≠ 0) → (((v2 ≠ 1) → (((v2 ≠ 2) → (Q (some (i_ (-1))) x Z'1)) ∧ ((v2 = 2) → (∃ g3 : Int, (∃ g4 : Nat → Int, (MF Z'1 a0 g3 g4 ∧ ((1 : Int) = 0 ∨ (1 : Int) = 1) ∧ (Q (some (i_ (shA (shF g3 g4) (if (1 : Int) = 0 then 1 else -1) (2 * gen g4 + 1).toNat 0))) x Z'1))))))) ∧ ((v2 = 1) → (Q (some (i_ (((2 * (Z'1 a0 11)) + 2) - (Z'1 a0 15)))) x Z'1)))) ∧ ((v2 = 0) → (∃ g5 : Int, ((IsP g5 ∧ Z'1 a0 11 = g5) ∧ (Q (some (i_ (nsq g5))) x Z'1))))))) ∧ ((r1 = 0) → (Q (some (i_ (-1))) x Z'1)))))))) :
    V mX12_twist k n 0 [some (r_ a0), some (i_ v1), some (i_ v2)] [] x Z Q :=
  V_aload_n dX12_twist_0 rfl (V_iload_n dX12_twist_1 rfl (Exists.elim h (fun g1 w1 => Exists.elim w1 (fun g2 w2 => V_callV (k' := 0) (n' := 0) (t := 12) (q := (RX12, TX12, 46)) [i_ v1] [] okX12_takesCurve o_a0.1 rfl rfl lm_12_249 liX12_takesCurve lqX12_takesCurve (Nat.le_of_ble_eq_true rfl) (Nat.le_of_ble_eq_true rfl) (Nat.le_of_ble_eq_true rfl) (cat_of rfl) (Nat.le_of_ble_eq_true rfl) (Nat.zero_le _) (Nat.zero_le _) rfl dX12_twist_2 (w_X12_takesCurve o_a0 w2.1 w2.2.1 w2.2.2.1 w2.2.2.2.1 (fun Z'1 P'1 r1 p1 => V_if_ne (tgt := 10) dX12_twist_5 rfl (w2.2.2.2.2 Z'1 P'1 r1 p1).1 (fun c1 => V_iload_n dX12_twist_10 rfl (V_if_ne (tgt := 21) dX12_twist_11 rfl ((w2.2.2.2.2 Z'1 P'1 r1 p1).2.1 c1).1 (fun c2 => V_iload_n dX12_twist_21 rfl (V_iconst dX12_twist_22 (V_icmp_ne (tgt := 42) dX12_twist_23 rfl ((w2.2.2.2.2 Z'1 P'1 r1 p1).2.1 c1).1 (rg_c rfl) (fun c3 => V_iload_n dX12_twist_42 rfl (V_iconst dX12_twist_43 (V_icmp_ne (tgt := 55) dX12_twist_44 rfl ((w2.2.2.2.2 Z'1 P'1 r1 p1).2.1 c1).1 (rg_c rfl) (fun c4 => V_iconst dX12_twist_55 (V_iret (ty := .int) dX12_twist_56 rfl rfl (((((w2.2.2.2.2 Z'1 P'1 r1 p1).2.1 c1).2.1 c2).1 c3).1 c4))) (fun c4 => V_aload_n dX12_twist_47 rfl (V_iconst dX12_twist_48 (Exists.elim (((((w2.2.2.2.2 Z'1 P'1 r1 p1).2.1 c1).2.1 c2).1 c3).2 c4) (fun g3 w3 => Exists.elim w3 (fun g4 w4 => V_callV (k' := 0) (n' := 0) (t := 12) (q := (RX12, TX12, 46)) [i_ 1] [] okX12_classesOf o_a0.1 rfl rfl lm_12_253 liX12_classesOf lqX12_classesOf (Nat.le_of_ble_eq_true rfl) (Nat.le_of_ble_eq_true rfl) (Nat.le_of_ble_eq_true rfl) (cat_of rfl) (Nat.le_of_ble_eq_true rfl) (Nat.zero_le _) (Nat.zero_le _) rfl dX12_twist_49 (sp_X12_classesOf o_a0 w4.1 w4.2.1 (V_goto (tgt := 56) dX12_twist_52 rfl (V_iret (ty := .int) dX12_twist_56 rfl rfl w4.2.2))))))))))) (fun c3 => V_iconst dX12_twist_26 (V_aload_n dX12_twist_27 rfl (G_12_11 o_a0.1 lf_12_179 dX12_twist_28 (V_imul dX12_twist_31 (V_iconst dX12_twist_32 (V_iadd dX12_twist_33 (V_aload_n dX12_twist_34 rfl (G_12_15 o_a0.1 lf_12_227 dX12_twist_35 (V_isub dX12_twist_38 (V_goto (tgt := 56) dX12_twist_39 rfl (V_iret (ty := .int) dX12_twist_56 rfl rfl ((((w2.2.2.2.2 Z'1 P'1 r1 p1).2.1 c1).2.1 c2).2 c3))))))))))))))) (fun c2 => V_aload_n dX12_twist_14 rfl (Exists.elim (((w2.2.2.2.2 Z'1 P'1 r1 p1).2.1 c1).2.2 c2) (fun g5 w5 => V_callV (k' := 0) (n' := 0) (t := 12) (q := (RX12, TX12, 46)) [] [] okX12_noSquare o_a0.1 rfl rfl lm_12_236 liX12_noSquare lqX12_noSquare (Nat.le_of_ble_eq_true rfl) (Nat.le_of_ble_eq_true rfl) (Nat.le_of_ble_eq_true rfl) (cat_of rfl) (Nat.le_of_ble_eq_true rfl) (Nat.zero_le _) (Nat.zero_le _) rfl dX12_twist_15 (sp_X12_noSquare o_a0 w5.1 (V_goto (tgt := 56) dX12_twist_18 rfl (V_iret (ty := .int) dX12_twist_56 rfl rfl w5.2)))))))) (fun c1 => V_iconst dX12_twist_8 (V_iret (ty := .int) dX12_twist_9 rfl rfl ((w2.2.2.2.2 Z'1 P'1 r1 p1).2.2 c1)))))))))
theorem dX12_point_0 : decode cX12_point 0 = .ok (.aload_n 0, 1) := by decide +kernel
theorem dX12_point_1 : decode cX12_point 1 = .ok (.iload_n 1, 1) := by decide +kernel
theorem dX12_point_2 : decode cX12_point 2 = .ok (.invokevirtual 249, 3) := by decide +kernel
theorem dX12_point_5 : decode cX12_point 5 = .ok (.ifCond .eq 11, 3) := by decide +kernel
theorem dX12_point_8 : decode cX12_point 8 = .ok (.aload_n 0, 1) := by decide +kernel
theorem dX12_point_9 : decode cX12_point 9 = .ok (.iload_n 2, 1) := by decide +kernel
theorem dX12_point_10 : decode cX12_point 10 = .ok (.invokevirtual 273, 3) := by decide +kernel
theorem dX12_point_13 : decode cX12_point 13 = .ok (.ifCond .ne 5, 3) := by decide +kernel
theorem dX12_point_16 : decode cX12_point 16 = .ok (.iconst (-1), 1) := by decide +kernel
theorem dX12_point_17 : decode cX12_point 17 = .ok (.ireturn, 1) := by decide +kernel
theorem dX12_point_18 : decode cX12_point 18 = .ok (.iload_n 3, 1) := by decide +kernel
theorem dX12_point_19 : decode cX12_point 19 = .ok (.ifCond .ne 12, 3) := by decide +kernel
theorem dX12_point_22 : decode cX12_point 22 = .ok (.aload_n 0, 1) := by decide +kernel
theorem dX12_point_23 : decode cX12_point 23 = .ok (.getfield 23, 3) := by decide +kernel
theorem dX12_point_26 : decode cX12_point 26 = .ok (.iload_n 2, 1) := by decide +kernel
theorem dX12_point_27 : decode cX12_point 27 = .ok (.iaload, 1) := by decide +kernel
theorem dX12_point_28 : decode cX12_point 28 = .ok (.goto 39, 3) := by decide +kernel
theorem dX12_point_31 : decode cX12_point 31 = .ok (.iload_n 3, 1) := by decide +kernel
theorem dX12_point_32 : decode cX12_point 32 = .ok (.iconst 1, 1) := by decide +kernel
theorem dX12_point_33 : decode cX12_point 33 = .ok (.if_icmp .ne 12, 3) := by decide +kernel
theorem dX12_point_36 : decode cX12_point 36 = .ok (.aload_n 0, 1) := by decide +kernel
theorem dX12_point_37 : decode cX12_point 37 = .ok (.getfield 26, 3) := by decide +kernel
theorem dX12_point_40 : decode cX12_point 40 = .ok (.iload_n 2, 1) := by decide +kernel
theorem dX12_point_41 : decode cX12_point 41 = .ok (.iaload, 1) := by decide +kernel
theorem dX12_point_42 : decode cX12_point 42 = .ok (.goto 25, 3) := by decide +kernel
theorem dX12_point_45 : decode cX12_point 45 = .ok (.iload_n 3, 1) := by decide +kernel
theorem dX12_point_46 : decode cX12_point 46 = .ok (.iconst 2, 1) := by decide +kernel
theorem dX12_point_47 : decode cX12_point 47 = .ok (.if_icmp .ne 19, 3) := by decide +kernel
theorem dX12_point_50 : decode cX12_point 50 = .ok (.aload_n 0, 1) := by decide +kernel
theorem dX12_point_51 : decode cX12_point 51 = .ok (.iload_n 2, 1) := by decide +kernel
theorem dX12_point_52 : decode cX12_point 52 = .ok (.invokevirtual 267, 3) := by decide +kernel
theorem dX12_point_55 : decode cX12_point 55 = .ok (.ifCond .eq 7, 3) := by decide +kernel
theorem dX12_point_58 : decode cX12_point 58 = .ok (.iconst 1, 1) := by decide +kernel
theorem dX12_point_59 : decode cX12_point 59 = .ok (.goto 8, 3) := by decide +kernel
theorem dX12_point_62 : decode cX12_point 62 = .ok (.iconst 0, 1) := by decide +kernel
theorem dX12_point_63 : decode cX12_point 63 = .ok (.goto 4, 3) := by decide +kernel
theorem dX12_point_66 : decode cX12_point 66 = .ok (.iconst (-1), 1) := by decide +kernel
theorem dX12_point_67 : decode cX12_point 67 = .ok (.ireturn, 1) := by decide +kernel
set_option maxRecDepth 20000 in
theorem b_X12_point_0 {k n : Nat} {x : Wx} {Z : Zt} {Q : Option Value → Wx → Zt → Prop} {a0 : Nat} {v1 : Int} {v2 : Int} {v3 : Int} (o_a0 : Is12 x a0)
    (h : ∃ g1 : Nat → Nat → Int, (∃ g2 : Td, (MT (Z (a0 + 1)) g2 ∧ TdV g2 ∧ MS Z a0 g1 ∧ Rg v1 ∧ (∀ (Z'1 : Zt) (P'1 : Nat → Nat → Int) (r1 : Int), (TkC a0 g2 v1 Z Z'1 g1 P'1 r1) → (Rg r1 ∧ (((r1 = 0) → (V mX12_point k n 16 [none, none, none, none] [] x Z'1 Q)) ∧ ((r1 ≠ 0) → (∃ g3 : List (Int × Int), (Z'1 a0 15 = g3.length ∧ g3.length ≤ 27 ∧ Rg v2 ∧ (∀ (r2 : Int), (((r2 = 1 ∧ 0 ≤ v2 ∧ v2 < g3.length) ∨ (r2 = 0 ∧ ¬ (0 ≤ v2 ∧ v2 < g3.length)))) → (Rg r2 ∧ (((r2 ≠ 0) → (Rg v3 ∧ (((v3 ≠ 0) → (((v3 ≠ 1) → (((v3 ≠ 2) → (Q (some (i_ (-1))) x Z'1)) ∧ ((v3 = 2) → (∃ g4 : Int, (∃ g5 : Nat → Int, (IsP g4 ∧ MPt Z'1 a0 (pall g4 g5) ∧ (0 ≤ v2 ∧ v2 < (pall g4 g5).length) ∧ (Rg (bI (fxd (pall g4 g5) v2)) ∧ (((bI (fxd (pall g4 g5) v2) = 0) → (Q (some (i_ 0)) x Z'1)) ∧ ((bI (fxd (pall g4 g5) v2) ≠ 0) → (Q (some (i_ 1)) x Z'1)))))))))) ∧ ((v3 = 1) → (0 ≤ v2 ∧ v2 < 32 ∧ (Q (some (i_ (Z'1 (a0 + 6) v2.toNat))) x Z'1))))) ∧ ((v3 = 0) → (0 ≤ v2 ∧ v2 < 32 ∧ (Q (some (i_ (Z'1 (a0 + 5) v2.toNat))) x Z'1)))))) ∧ ((r2 = 0) → (V mX12_point k n 16 [none, none, none, none] [] x Z'1 Q)))))))))))))) :
    V mX12_point k n 0 [some (r_ a0), some (i_ v1), some (i_ v2), some (i_ v3)] [] x Z Q :=
  V_aload_n dX12_point_0 rfl (V_iload_n dX12_point_1 rfl (Exists.elim h (fun g1 w1 => Exists.elim w1 (fun g2 w2 => V_callV (k' := 0) (n' := 0) (t := 12) (q := (RX12, TX12, 46)) [i_ v1] [] okX12_takesCurve o_a0.1 rfl rfl lm_12_249 liX12_takesCurve lqX12_takesCurve (Nat.le_of_ble_eq_true rfl) (Nat.le_of_ble_eq_true rfl) (Nat.le_of_ble_eq_true rfl) (cat_of rfl) (Nat.le_of_ble_eq_true rfl) (Nat.zero_le _) (Nat.zero_le _) rfl dX12_point_2 (w_X12_takesCurve o_a0 w2.1 w2.2.1 w2.2.2.1 w2.2.2.2.1 (fun Z'1 P'1 r1 p1 => V_if_eq (tgt := 16) dX12_point_5 rfl (w2.2.2.2.2 Z'1 P'1 r1 p1).1 (fun c1 => V_msk [false, false, false, false] rfl ((w2.2.2.2.2 Z'1 P'1 r1 p1).2.1 c1)) (fun c1 => V_aload_n dX12_point_8 rfl (V_iload_n dX12_point_9 rfl (Exists.elim ((w2.2.2.2.2 Z'1 P'1 r1 p1).2.2 c1) (fun g3 w3 => V_callV (k' := 0) (n' := 0) (t := 12) (q := (RX12, TX12, 46)) [i_ v2] [] okX12_isPoint o_a0.1 rfl rfl lm_12_273 liX12_isPoint lqX12_isPoint (Nat.le_of_ble_eq_true rfl) (Nat.le_of_ble_eq_true rfl) (Nat.le_of_ble_eq_true rfl) (cat_of rfl) (Nat.le_of_ble_eq_true rfl) (Nat.zero_le _) (Nat.zero_le _) rfl dX12_point_10 (sp_X12_isPoint o_a0 w3.1 w3.2.1 w3.2.2.1 (fun r2 p2 => V_if_ne (tgt := 18) dX12_point_13 rfl (w3.2.2.2 r2 p2).1 (fun c2 => V_iload_n dX12_point_18 rfl (V_if_ne (tgt := 31) dX12_point_19 rfl ((w3.2.2.2 r2 p2).2.1 c2).1 (fun c3 => V_iload_n dX12_point_31 rfl (V_iconst dX12_point_32 (V_icmp_ne (tgt := 45) dX12_point_33 rfl ((w3.2.2.2 r2 p2).2.1 c2).1 (rg_c rfl) (fun c4 => V_iload_n dX12_point_45 rfl (V_iconst dX12_point_46 (V_icmp_ne (tgt := 66) dX12_point_47 rfl ((w3.2.2.2 r2 p2).2.1 c2).1 (rg_c rfl) (fun c5 => V_iconst dX12_point_66 (V_iret (ty := .int) dX12_point_67 rfl rfl (((((w3.2.2.2 r2 p2).2.1 c2).2.1 c3).1 c4).1 c5))) (fun c5 => V_aload_n dX12_point_50 rfl (V_iload_n dX12_point_51 rfl (Exists.elim (((((w3.2.2.2 r2 p2).2.1 c2).2.1 c3).1 c4).2 c5) (fun g4 w4 => Exists.elim w4 (fun g5 w5 => V_callV (k' := 0) (n' := 0) (t := 12) (q := (RX12, TX12, 46)) [i_ v2] [] okX12_isFixed o_a0.1 rfl rfl lm_12_267 liX12_isFixed lqX12_isFixed (Nat.le_of_ble_eq_true rfl) (Nat.le_of_ble_eq_true rfl) (Nat.le_of_ble_eq_true rfl) (cat_of rfl) (Nat.le_of_ble_eq_true rfl) (Nat.zero_le _) (Nat.zero_le _) rfl dX12_point_52 (sp_X12_isFixed o_a0 w5.1 w5.2.1 w5.2.2.1 (V_if_eq (tgt := 62) dX12_point_55 rfl w5.2.2.2.1 (fun c6 => V_iconst dX12_point_62 (V_goto (tgt := 67) dX12_point_63 rfl (V_iret (ty := .int) dX12_point_67 rfl rfl (w5.2.2.2.2.1 c6)))) (fun c6 => V_iconst dX12_point_58 (V_goto (tgt := 67) dX12_point_59 rfl (V_iret (ty := .int) dX12_point_67 rfl rfl (w5.2.2.2.2.2 c6)))))))))))))) (fun c4 => V_aload_n dX12_point_36 rfl (G_12_14 o_a0.1 o_a0.qR14 lf_12_26 dX12_point_37 (V_iload_n dX12_point_40 rfl (V_iald (t := 100) o_a0.qK14 (by decide) rfl ((((w3.2.2.2 r2 p2).2.1 c2).2.1 c3).2 c4).1 ((((w3.2.2.2 r2 p2).2.1 c2).2.1 c3).2 c4).2.1 (Nat.le_of_ble_eq_true rfl) dX12_point_41 (V_goto (tgt := 67) dX12_point_42 rfl (V_iret (ty := .int) dX12_point_67 rfl rfl ((((w3.2.2.2 r2 p2).2.1 c2).2.1 c3).2 c4).2.2))))))))) (fun c3 => V_aload_n dX12_point_22 rfl (G_12_13 o_a0.1 o_a0.qR13 lf_12_23 dX12_point_23 (V_iload_n dX12_point_26 rfl (V_iald (t := 100) o_a0.qK13 (by decide) rfl (((w3.2.2.2 r2 p2).2.1 c2).2.2 c3).1 (((w3.2.2.2 r2 p2).2.1 c2).2.2 c3).2.1 (Nat.le_of_ble_eq_true rfl) dX12_point_27 (V_goto (tgt := 67) dX12_point_28 rfl (V_iret (ty := .int) dX12_point_67 rfl rfl (((w3.2.2.2 r2 p2).2.1 c2).2.2 c3).2.2)))))))) (fun c2 => V_msk [false, false, false, false] rfl ((w3.2.2.2 r2 p2).2.2 c2))))))))))))))
set_option maxRecDepth 20000 in
theorem b_X12_point_16 {k n : Nat} {x : Wx} {Z : Zt} {Q : Option Value → Wx → Zt → Prop}  
    (h : Q (some (i_ (-1))) x Z) :
    V mX12_point k n 16 [none, none, none, none] [] x Z Q :=
  V_iconst dX12_point_16 (V_iret (ty := .int) dX12_point_17 rfl rfl h)
theorem dX12_sum_0 : decode cX12_sum 0 = .ok (.aload_n 0, 1) := by decide +kernel
theorem dX12_sum_1 : decode cX12_sum 1 = .ok (.iconst 1, 1) := by decide +kernel
theorem dX12_sum_2 : decode cX12_sum 2 = .ok (.iload_n 1, 1) := by decide +kernel
theorem dX12_sum_3 : decode cX12_sum 3 = .ok (.invokevirtual 156, 3) := by decide +kernel
theorem dX12_sum_6 : decode cX12_sum 6 = .ok (.ifCond .ne 6, 3) := by decide +kernel
theorem dX12_sum_9 : decode cX12_sum 9 = .ok (.bipush (-100), 2) := by decide +kernel
theorem dX12_sum_11 : decode cX12_sum 11 = .ok (.ireturn, 1) := by decide +kernel
theorem dX12_sum_12 : decode cX12_sum 12 = .ok (.iconst 1, 1) := by decide +kernel
theorem dX12_sum_13 : decode cX12_sum 13 = .ok (.iload_n 1, 1) := by decide +kernel
theorem dX12_sum_14 : decode cX12_sum 14 = .ok (.invokestatic 176, 3) := by decide +kernel
theorem dX12_sum_17 : decode cX12_sum 17 = .ok (.istore_n 3, 1) := by decide +kernel
theorem dX12_sum_18 : decode cX12_sum 18 = .ok (.aload_n 0, 1) := by decide +kernel
theorem dX12_sum_19 : decode cX12_sum 19 = .ok (.getfield 7, 3) := by decide +kernel
theorem dX12_sum_22 : decode cX12_sum 22 = .ok (.iload_n 3, 1) := by decide +kernel
theorem dX12_sum_23 : decode cX12_sum 23 = .ok (.iaload, 1) := by decide +kernel
theorem dX12_sum_24 : decode cX12_sum 24 = .ok (.istore 4, 2) := by decide +kernel
theorem dX12_sum_26 : decode cX12_sum 26 = .ok (.iload_n 2, 1) := by decide +kernel
theorem dX12_sum_27 : decode cX12_sum 27 = .ok (.iconst 0, 1) := by decide +kernel
theorem dX12_sum_28 : decode cX12_sum 28 = .ok (.iconst 1, 1) := by decide +kernel
theorem dX12_sum_29 : decode cX12_sum 29 = .ok (.invokestatic 129, 3) := by decide +kernel
theorem dX12_sum_32 : decode cX12_sum 32 = .ok (.ifCond .eq 12, 3) := by decide +kernel
theorem dX12_sum_35 : decode cX12_sum 35 = .ok (.aload_n 0, 1) := by decide +kernel
theorem dX12_sum_36 : decode cX12_sum 36 = .ok (.getfield 7, 3) := by decide +kernel
theorem dX12_sum_39 : decode cX12_sum 39 = .ok (.iload_n 3, 1) := by decide +kernel
theorem dX12_sum_40 : decode cX12_sum 40 = .ok (.iload_n 2, 1) := by decide +kernel
theorem dX12_sum_41 : decode cX12_sum 41 = .ok (.iadd, 1) := by decide +kernel
theorem dX12_sum_42 : decode cX12_sum 42 = .ok (.iaload, 1) := by decide +kernel
theorem dX12_sum_43 : decode cX12_sum 43 = .ok (.ireturn, 1) := by decide +kernel
theorem dX12_sum_44 : decode cX12_sum 44 = .ok (.iconst 1, 1) := by decide +kernel
theorem dX12_sum_45 : decode cX12_sum 45 = .ok (.istore 5, 2) := by decide +kernel
theorem dX12_sum_47 : decode cX12_sum 47 = .ok (.iload 5, 2) := by decide +kernel
theorem dX12_sum_49 : decode cX12_sum 49 = .ok (.iconst 4, 1) := by decide +kernel
theorem dX12_sum_50 : decode cX12_sum 50 = .ok (.if_icmp .ge 53, 3) := by decide +kernel
theorem dX12_sum_53 : decode cX12_sum 53 = .ok (.iload_n 2, 1) := by decide +kernel
theorem dX12_sum_54 : decode cX12_sum 54 = .ok (.bipush 10, 2) := by decide +kernel
theorem dX12_sum_56 : decode cX12_sum 56 = .ok (.iload 5, 2) := by decide +kernel
theorem dX12_sum_58 : decode cX12_sum 58 = .ok (.imul, 1) := by decide +kernel
theorem dX12_sum_59 : decode cX12_sum 59 = .ok (.bipush 10, 2) := by decide +kernel
theorem dX12_sum_61 : decode cX12_sum 61 = .ok (.iload 5, 2) := by decide +kernel
theorem dX12_sum_63 : decode cX12_sum 63 = .ok (.imul, 1) := by decide +kernel
theorem dX12_sum_64 : decode cX12_sum 64 = .ok (.iload 4, 2) := by decide +kernel
theorem dX12_sum_66 : decode cX12_sum 66 = .ok (.iadd, 1) := by decide +kernel
theorem dX12_sum_67 : decode cX12_sum 67 = .ok (.iconst 1, 1) := by decide +kernel
theorem dX12_sum_68 : decode cX12_sum 68 = .ok (.isub, 1) := by decide +kernel
theorem dX12_sum_69 : decode cX12_sum 69 = .ok (.invokestatic 129, 3) := by decide +kernel
theorem dX12_sum_72 : decode cX12_sum 72 = .ok (.ifCond .eq 25, 3) := by decide +kernel
theorem dX12_sum_75 : decode cX12_sum 75 = .ok (.aload_n 0, 1) := by decide +kernel
theorem dX12_sum_76 : decode cX12_sum 76 = .ok (.getfield 7, 3) := by decide +kernel
theorem dX12_sum_79 : decode cX12_sum 79 = .ok (.iload_n 3, 1) := by decide +kernel
theorem dX12_sum_80 : decode cX12_sum 80 = .ok (.iconst 1, 1) := by decide +kernel
theorem dX12_sum_81 : decode cX12_sum 81 = .ok (.iadd, 1) := by decide +kernel
theorem dX12_sum_82 : decode cX12_sum 82 = .ok (.iload 5, 2) := by decide +kernel
theorem dX12_sum_84 : decode cX12_sum 84 = .ok (.iadd, 1) := by decide +kernel
theorem dX12_sum_85 : decode cX12_sum 85 = .ok (.iconst 3, 1) := by decide +kernel
theorem dX12_sum_86 : decode cX12_sum 86 = .ok (.iload_n 2, 1) := by decide +kernel
theorem dX12_sum_87 : decode cX12_sum 87 = .ok (.bipush 10, 2) := by decide +kernel
theorem dX12_sum_89 : decode cX12_sum 89 = .ok (.iload 5, 2) := by decide +kernel
theorem dX12_sum_91 : decode cX12_sum 91 = .ok (.imul, 1) := by decide +kernel
theorem dX12_sum_92 : decode cX12_sum 92 = .ok (.isub, 1) := by decide +kernel
theorem dX12_sum_93 : decode cX12_sum 93 = .ok (.imul, 1) := by decide +kernel
theorem dX12_sum_94 : decode cX12_sum 94 = .ok (.iadd, 1) := by decide +kernel
theorem dX12_sum_95 : decode cX12_sum 95 = .ok (.iaload, 1) := by decide +kernel
theorem dX12_sum_96 : decode cX12_sum 96 = .ok (.ireturn, 1) := by decide +kernel
theorem dX12_sum_97 : decode cX12_sum 97 = .ok (.iinc 5 1, 3) := by decide +kernel
theorem dX12_sum_100 : decode cX12_sum 100 = .ok (.goto (-53), 3) := by decide +kernel
theorem dX12_sum_103 : decode cX12_sum 103 = .ok (.bipush (-100), 2) := by decide +kernel
theorem dX12_sum_105 : decode cX12_sum 105 = .ok (.ireturn, 1) := by decide +kernel
set_option maxRecDepth 20000 in
theorem b_X12_sum_0 {k n : Nat} {x : Wx} {Z : Zt} {Q : Option Value → Wx → Zt → Prop} {a0 : Nat} {v1 : Int} {v2 : Int} (o_a0 : Is12 x a0)
    (h : (0 ≤ (1 : Int) ∧ (1 : Int) < 3) ∧ Rg v1 ∧ Rg (Z (a0 + 1) (1 : Int).toNat - 1) ∧ (∀ (r1 : Int), (((r1 = 1 ∧ 0 ≤ v1 ∧ v1 < Z (a0 + 1) (1 : Int).toNat) ∨ (r1 = 0 ∧ (v1 < 0 ∨ Z (a0 + 1) (1 : Int).toNat ≤ v1)))) → (Rg r1 ∧ (((r1 ≠ 0) → (Rg (1 : Int) ∧ (0 ≤ plcO (1 : Int) v1 ∧ plcO (1 : Int) v1 < 2912 ∧ ((Rg v2 ∧ Rg (0 : Int) ∧ Rg (1 : Int)) ∧ (∀ (r2 : Int), (((r2 = 1 ∧ (0 : Int) ≤ v2 ∧ v2 ≤ (1 : Int)) ∨ (r2 = 0 ∧ (v2 < (0 : Int) ∨ (1 : Int) < v2)))) → (Rg r2 ∧ (((r2 = 0) → (V mX12_sum k n 47 [some (r_ a0), none, some (i_ v2), some (i_ (plcO (1 : Int) v1)), some (i_ (Z (a0 + 1) (plcO (1 : Int) v1).toNat)), some (i_ 1)] [] x Z Q)) ∧ ((r2 ≠ 0) → (0 ≤ (plcO (1 : Int) v1) + v2 ∧ (plcO (1 : Int) v1) + v2 < 2912 ∧ (Q (some (i_ (Z (a0 + 1) ((plcO (1 : Int) v1) + v2).toNat))) x Z)))))))))) ∧ ((r1 = 0) → (Q (some (i_ (-100))) x Z)))))) :
    V mX12_sum k n 0 [some (r_ a0), some (i_ v1), some (i_ v2), none, none, none] [] x Z Q :=
  V_aload_n dX12_sum_0 rfl (V_iconst dX12_sum_1 (V_iload_n dX12_sum_2 rfl (V_callV (k' := 0) (n' := 0) (t := 12) (q := (RX12, TX12, 46)) [i_ 1, i_ v1] [] okX12_isOf o_a0.1 rfl rfl lm_12_156 liX12_isOf lqX12_isOf (Nat.le_of_ble_eq_true rfl) (Nat.le_of_ble_eq_true rfl) (Nat.le_of_ble_eq_true rfl) (cat_of rfl) (Nat.le_of_ble_eq_true rfl) (Nat.zero_le _) (Nat.zero_le _) rfl dX12_sum_3 (sp_X12_isOf o_a0 h.1 h.2.1 h.2.2.1 (fun r1 p1 => V_if_ne (tgt := 12) dX12_sum_6 rfl (h.2.2.2 r1 p1).1 (fun c1 => V_iconst dX12_sum_12 (V_iload_n dX12_sum_13 rfl (V_callS (k' := 0) (n' := 0) [i_ 1, i_ v1] [] okX12_placeOf lm_12_176 lsX12_placeOf (Nat.le_of_ble_eq_true rfl) (Nat.le_of_ble_eq_true rfl) (Nat.le_of_ble_eq_true rfl) (cat_of rfl) (Nat.le_of_ble_eq_true rfl) (Nat.zero_le _) (Nat.zero_le _) rfl dX12_sum_14 (sp_X12_placeOf  ((h.2.2.2 r1 p1).2.1 c1).1 (V_istore_n (lv' := [some (r_ a0), some (i_ v1), some (i_ v2), some (i_ (plcO (1 : Int) v1)), none, none]) dX12_sum_17 (Nat.le_of_ble_eq_true rfl) rfl (V_aload_n dX12_sum_18 rfl (G_12_0 o_a0.1 o_a0.qR0 lf_12_7 dX12_sum_19 (V_iload_n dX12_sum_22 rfl (V_iald (t := 100) o_a0.qK0 (by decide) rfl ((h.2.2.2 r1 p1).2.1 c1).2.1 ((h.2.2.2 r1 p1).2.1 c1).2.2.1 (Nat.le_of_ble_eq_true rfl) dX12_sum_23 (V_istore (lv' := [some (r_ a0), some (i_ v1), some (i_ v2), some (i_ (plcO (1 : Int) v1)), some (i_ (Z (a0 + 1) (plcO (1 : Int) v1).toNat)), none]) dX12_sum_24 (Nat.le_of_ble_eq_true rfl) rfl (V_iload_n dX12_sum_26 rfl (V_iconst dX12_sum_27 (V_iconst dX12_sum_28 (V_callS (k' := 0) (n' := 0) [i_ v2, i_ 0, i_ 1] [] okX12_isIn lm_12_129 lsX12_isIn (Nat.le_of_ble_eq_true rfl) (Nat.le_of_ble_eq_true rfl) (Nat.le_of_ble_eq_true rfl) (cat_of rfl) (Nat.le_of_ble_eq_true rfl) (Nat.zero_le _) (Nat.zero_le _) rfl dX12_sum_29 (sp_X12_isIn  ((h.2.2.2 r1 p1).2.1 c1).2.2.2.1 (fun r2 p2 => V_if_eq (tgt := 44) dX12_sum_32 rfl (((h.2.2.2 r1 p1).2.1 c1).2.2.2.2 r2 p2).1 (fun c2 => V_iconst dX12_sum_44 (V_istore (lv' := [some (r_ a0), some (i_ v1), some (i_ v2), some (i_ (plcO (1 : Int) v1)), some (i_ (Z (a0 + 1) (plcO (1 : Int) v1).toNat)), some (i_ 1)]) dX12_sum_45 (Nat.le_of_ble_eq_true rfl) rfl (V_msk [true, false, true, true, true, true] rfl ((((h.2.2.2 r1 p1).2.1 c1).2.2.2.2 r2 p2).2.1 c2)))) (fun c2 => V_aload_n dX12_sum_35 rfl (G_12_0 o_a0.1 o_a0.qR0 lf_12_7 dX12_sum_36 (V_iload_n dX12_sum_39 rfl (V_iload_n dX12_sum_40 rfl (V_iadd dX12_sum_41 (V_iald (t := 100) o_a0.qK0 (by decide) rfl ((((h.2.2.2 r1 p1).2.1 c1).2.2.2.2 r2 p2).2.2 c2).1 ((((h.2.2.2 r1 p1).2.1 c1).2.2.2.2 r2 p2).2.2 c2).2.1 (Nat.le_of_ble_eq_true rfl) dX12_sum_42 (V_iret (ty := .int) dX12_sum_43 rfl rfl ((((h.2.2.2 r1 p1).2.1 c1).2.2.2.2 r2 p2).2.2 c2).2.2))))))))))))))))))))))) (fun c1 => V_bipush dX12_sum_9 rfl (V_iret (ty := .int) dX12_sum_11 rfl rfl ((h.2.2.2 r1 p1).2.2 c1))))))))
set_option maxRecDepth 20000 in
theorem b_X12_sum_47 {k n : Nat} {x : Wx} {Z : Zt} {Q : Option Value → Wx → Zt → Prop} {a0 : Nat} {v2 : Int} {v3 : Int} {v4 : Int} {v5 : Int} (o_a0 : Is12 x a0)
    (h : Rg v5 ∧ (((4 ≤ v5) → (Q (some (i_ (-100))) x Z)) ∧ ((v5 < 4) → ((Rg v2 ∧ Rg (10 * v5) ∧ Rg (((10 * v5) + v4) - 1)) ∧ (∀ (r1 : Int), (((r1 = 1 ∧ (10 * v5) ≤ v2 ∧ v2 ≤ (((10 * v5) + v4) - 1)) ∨ (r1 = 0 ∧ (v2 < (10 * v5) ∨ (((10 * v5) + v4) - 1) < v2)))) → (Rg r1 ∧ (((r1 = 0) → (V mX12_sum k n 47 [some (r_ a0), none, some (i_ v2), some (i_ v3), some (i_ v4), some (i_ (v5 + 1))] [] x Z Q)) ∧ ((r1 ≠ 0) → (0 ≤ ((v3 + 1) + v5) + (3 * (v2 - (10 * v5))) ∧ ((v3 + 1) + v5) + (3 * (v2 - (10 * v5))) < 2912 ∧ (Q (some (i_ (Z (a0 + 1) (((v3 + 1) + v5) + (3 * (v2 - (10 * v5)))).toNat))) x Z)))))))))) :
    V mX12_sum k n 47 [some (r_ a0), none, some (i_ v2), some (i_ v3), some (i_ v4), some (i_ v5)] [] x Z Q :=
  V_iload dX12_sum_47 rfl (V_iconst dX12_sum_49 (V_icmp_ge (tgt := 103) dX12_sum_50 rfl h.1 (rg_c rfl) (fun c1 => V_bipush dX12_sum_103 rfl (V_iret (ty := .int) dX12_sum_105 rfl rfl (h.2.1 c1))) (fun c1 => V_iload_n dX12_sum_53 rfl (V_bipush dX12_sum_54 rfl (V_iload dX12_sum_56 rfl (V_imul dX12_sum_58 (V_bipush dX12_sum_59 rfl (V_iload dX12_sum_61 rfl (V_imul dX12_sum_63 (V_iload dX12_sum_64 rfl (V_iadd dX12_sum_66 (V_iconst dX12_sum_67 (V_isub dX12_sum_68 (V_callS (k' := 0) (n' := 0) [i_ v2, i_ (10 * v5), i_ (((10 * v5) + v4) - 1)] [] okX12_isIn lm_12_129 lsX12_isIn (Nat.le_of_ble_eq_true rfl) (Nat.le_of_ble_eq_true rfl) (Nat.le_of_ble_eq_true rfl) (cat_of rfl) (Nat.le_of_ble_eq_true rfl) (Nat.zero_le _) (Nat.zero_le _) rfl dX12_sum_69 (sp_X12_isIn  (h.2.2 c1).1 (fun r1 p1 => V_if_eq (tgt := 97) dX12_sum_72 rfl ((h.2.2 c1).2 r1 p1).1 (fun c2 => V_iinc (lv' := [some (r_ a0), none, some (i_ v2), some (i_ v3), some (i_ v4), some (i_ (v5 + 1))]) dX12_sum_97 rfl (Nat.le_of_ble_eq_true rfl) rfl (V_goto (tgt := 47) dX12_sum_100 rfl (V_msk [true, false, true, true, true, true] rfl (((h.2.2 c1).2 r1 p1).2.1 c2)))) (fun c2 => V_aload_n dX12_sum_75 rfl (G_12_0 o_a0.1 o_a0.qR0 lf_12_7 dX12_sum_76 (V_iload_n dX12_sum_79 rfl (V_iconst dX12_sum_80 (V_iadd dX12_sum_81 (V_iload dX12_sum_82 rfl (V_iadd dX12_sum_84 (V_iconst dX12_sum_85 (V_iload_n dX12_sum_86 rfl (V_bipush dX12_sum_87 rfl (V_iload dX12_sum_89 rfl (V_imul dX12_sum_91 (V_isub dX12_sum_92 (V_imul dX12_sum_93 (V_iadd dX12_sum_94 (V_iald (t := 100) o_a0.qK0 (by decide) rfl (((h.2.2 c1).2 r1 p1).2.2 c2).1 (((h.2.2 c1).2 r1 p1).2.2 c2).2.1 (Nat.le_of_ble_eq_true rfl) dX12_sum_95 (V_iret (ty := .int) dX12_sum_96 rfl rfl (((h.2.2 c1).2 r1 p1).2.2 c2).2.2)))))))))))))))))))))))))))))))))
theorem dX12_function_0 : decode cX12_function 0 = .ok (.aload_n 0, 1) := by decide +kernel
theorem dX12_function_1 : decode cX12_function 1 = .ok (.iconst 2, 1) := by decide +kernel
theorem dX12_function_2 : decode cX12_function 2 = .ok (.iload_n 1, 1) := by decide +kernel
theorem dX12_function_3 : decode cX12_function 3 = .ok (.invokevirtual 156, 3) := by decide +kernel
theorem dX12_function_6 : decode cX12_function 6 = .ok (.ifCond .eq 45, 3) := by decide +kernel
theorem dX12_function_9 : decode cX12_function 9 = .ok (.iload_n 3, 1) := by decide +kernel
theorem dX12_function_10 : decode cX12_function 10 = .ok (.iconst 0, 1) := by decide +kernel
theorem dX12_function_11 : decode cX12_function 11 = .ok (.iload_n 2, 1) := by decide +kernel
theorem dX12_function_12 : decode cX12_function 12 = .ok (.ifCond .eq 7, 3) := by decide +kernel
theorem dX12_function_15 : decode cX12_function 15 = .ok (.iconst 2, 1) := by decide +kernel
theorem dX12_function_16 : decode cX12_function 16 = .ok (.goto 4, 3) := by decide +kernel
theorem dX12_function_19 : decode cX12_function 19 = .ok (.iconst 4, 1) := by decide +kernel
theorem dX12_function_20 : decode cX12_function 20 = .ok (.invokestatic 129, 3) := by decide +kernel
theorem dX12_function_23 : decode cX12_function 23 = .ok (.ifCond .eq 28, 3) := by decide +kernel
theorem dX12_function_26 : decode cX12_function 26 = .ok (.aload_n 0, 1) := by decide +kernel
theorem dX12_function_27 : decode cX12_function 27 = .ok (.getfield 7, 3) := by decide +kernel
theorem dX12_function_30 : decode cX12_function 30 = .ok (.iconst 2, 1) := by decide +kernel
theorem dX12_function_31 : decode cX12_function 31 = .ok (.iload_n 1, 1) := by decide +kernel
theorem dX12_function_32 : decode cX12_function 32 = .ok (.invokestatic 176, 3) := by decide +kernel
theorem dX12_function_35 : decode cX12_function 35 = .ok (.iload_n 2, 1) := by decide +kernel
theorem dX12_function_36 : decode cX12_function 36 = .ok (.ifCond .eq 7, 3) := by decide +kernel
theorem dX12_function_39 : decode cX12_function 39 = .ok (.iconst 5, 1) := by decide +kernel
theorem dX12_function_40 : decode cX12_function 40 = .ok (.goto 4, 3) := by decide +kernel
theorem dX12_function_43 : decode cX12_function 43 = .ok (.iconst 0, 1) := by decide +kernel
theorem dX12_function_44 : decode cX12_function 44 = .ok (.iadd, 1) := by decide +kernel
theorem dX12_function_45 : decode cX12_function 45 = .ok (.iload_n 3, 1) := by decide +kernel
theorem dX12_function_46 : decode cX12_function 46 = .ok (.iadd, 1) := by decide +kernel
theorem dX12_function_47 : decode cX12_function 47 = .ok (.iaload, 1) := by decide +kernel
theorem dX12_function_48 : decode cX12_function 48 = .ok (.goto 4, 3) := by decide +kernel
theorem dX12_function_51 : decode cX12_function 51 = .ok (.iconst (-1), 1) := by decide +kernel
theorem dX12_function_52 : decode cX12_function 52 = .ok (.ireturn, 1) := by decide +kernel
set_option maxRecDepth 20000 in
theorem b_X12_function_0 {k n : Nat} {x : Wx} {Z : Zt} {Q : Option Value → Wx → Zt → Prop} {a0 : Nat} {v1 : Int} {v2 : Int} {v3 : Int} (o_a0 : Is12 x a0)
    (h : (0 ≤ (2 : Int) ∧ (2 : Int) < 3) ∧ Rg v1 ∧ Rg (Z (a0 + 1) (2 : Int).toNat - 1) ∧ (∀ (r1 : Int), (((r1 = 1 ∧ 0 ≤ v1 ∧ v1 < Z (a0 + 1) (2 : Int).toNat) ∨ (r1 = 0 ∧ (v1 < 0 ∨ Z (a0 + 1) (2 : Int).toNat ≤ v1)))) → (Rg r1 ∧ (((r1 = 0) → (V mX12_function k n 51 [none, none, none, none] [] x Z Q)) ∧ ((r1 ≠ 0) → (Rg v2 ∧ (((v2 = 0) → (V mX12_function k n 20 [some (r_ a0), some (i_ v1), some (i_ v2), some (i_ v3)] [i_ 4, i_ 0, i_ v3] x Z Q)) ∧ ((v2 ≠ 0) → (V mX12_function k n 20 [some (r_ a0), some (i_ v1), some (i_ v2), some (i_ v3)] [i_ 2, i_ 0, i_ v3] x Z Q))))))))) :
    V mX12_function k n 0 [some (r_ a0), some (i_ v1), some (i_ v2), some (i_ v3)] [] x Z Q :=
  V_aload_n dX12_function_0 rfl (V_iconst dX12_function_1 (V_iload_n dX12_function_2 rfl (V_callV (k' := 0) (n' := 0) (t := 12) (q := (RX12, TX12, 46)) [i_ 2, i_ v1] [] okX12_isOf o_a0.1 rfl rfl lm_12_156 liX12_isOf lqX12_isOf (Nat.le_of_ble_eq_true rfl) (Nat.le_of_ble_eq_true rfl) (Nat.le_of_ble_eq_true rfl) (cat_of rfl) (Nat.le_of_ble_eq_true rfl) (Nat.zero_le _) (Nat.zero_le _) rfl dX12_function_3 (sp_X12_isOf o_a0 h.1 h.2.1 h.2.2.1 (fun r1 p1 => V_if_eq (tgt := 51) dX12_function_6 rfl (h.2.2.2 r1 p1).1 (fun c1 => V_msk [false, false, false, false] rfl ((h.2.2.2 r1 p1).2.1 c1)) (fun c1 => V_iload_n dX12_function_9 rfl (V_iconst dX12_function_10 (V_iload_n dX12_function_11 rfl (V_if_eq (tgt := 19) dX12_function_12 rfl ((h.2.2.2 r1 p1).2.2 c1).1 (fun c2 => V_iconst dX12_function_19 (V_msk [true, true, true, true] rfl (((h.2.2.2 r1 p1).2.2 c1).2.1 c2))) (fun c2 => V_iconst dX12_function_15 (V_goto (tgt := 20) dX12_function_16 rfl (V_msk [true, true, true, true] rfl (((h.2.2.2 r1 p1).2.2 c1).2.2 c2)))))))))))))
set_option maxRecDepth 20000 in
theorem b_X12_function_20 {k n : Nat} {x : Wx} {Z : Zt} {Q : Option Value → Wx → Zt → Prop} {a0 : Nat} {v1 : Int} {v2 : Int} {v3 : Int} {t0 : Int} {t1 : Int} {t2 : Int} (o_a0 : Is12 x a0)
    (h : (Rg t0 ∧ Rg t1 ∧ Rg t2) ∧ (∀ (r1 : Int), (((r1 = 1 ∧ t1 ≤ t0 ∧ t0 ≤ t2) ∨ (r1 = 0 ∧ (t0 < t1 ∨ t2 < t0)))) → (Rg r1 ∧ (((r1 = 0) → (V mX12_function k n 51 [none, none, none, none] [] x Z Q)) ∧ ((r1 ≠ 0) → (Rg (2 : Int) ∧ (Rg v2 ∧ (((v2 = 0) → (V mX12_function k n 44 [none, none, none, some (i_ v3)] [i_ 0, i_ (plcO (2 : Int) v1), r_ (a0 + 1)] x Z Q)) ∧ ((v2 ≠ 0) → (V mX12_function k n 44 [none, none, none, some (i_ v3)] [i_ 5, i_ (plcO (2 : Int) v1), r_ (a0 + 1)] x Z Q)))))))))) :
    V mX12_function k n 20 [some (r_ a0), some (i_ v1), some (i_ v2), some (i_ v3)] [i_ t2, i_ t1, i_ t0] x Z Q :=
  V_callS (k' := 0) (n' := 0) [i_ t0, i_ t1, i_ t2] [] okX12_isIn lm_12_129 lsX12_isIn (Nat.le_of_ble_eq_true rfl) (Nat.le_of_ble_eq_true rfl) (Nat.le_of_ble_eq_true rfl) (cat_of rfl) (Nat.le_of_ble_eq_true rfl) (Nat.zero_le _) (Nat.zero_le _) rfl dX12_function_20 (sp_X12_isIn  h.1 (fun r1 p1 => V_if_eq (tgt := 51) dX12_function_23 rfl (h.2 r1 p1).1 (fun c1 => V_msk [false, false, false, false] rfl ((h.2 r1 p1).2.1 c1)) (fun c1 => V_aload_n dX12_function_26 rfl (G_12_0 o_a0.1 o_a0.qR0 lf_12_7 dX12_function_27 (V_iconst dX12_function_30 (V_iload_n dX12_function_31 rfl (V_callS (k' := 0) (n' := 0) [i_ 2, i_ v1] [r_ (a0 + 1)] okX12_placeOf lm_12_176 lsX12_placeOf (Nat.le_of_ble_eq_true rfl) (Nat.le_of_ble_eq_true rfl) (Nat.le_of_ble_eq_true rfl) (cat_of rfl) (Nat.le_of_ble_eq_true rfl) (Nat.zero_le _) (Nat.zero_le _) rfl dX12_function_32 (sp_X12_placeOf  ((h.2 r1 p1).2.2 c1).1 (V_iload_n dX12_function_35 rfl (V_if_eq (tgt := 43) dX12_function_36 rfl ((h.2 r1 p1).2.2 c1).2.1 (fun c2 => V_iconst dX12_function_43 (V_msk [false, false, false, true] rfl (((h.2 r1 p1).2.2 c1).2.2.1 c2))) (fun c2 => V_iconst dX12_function_39 (V_goto (tgt := 44) dX12_function_40 rfl (V_msk [false, false, false, true] rfl (((h.2 r1 p1).2.2 c1).2.2.2 c2))))))))))))))
set_option maxRecDepth 20000 in
theorem b_X12_function_44 {k n : Nat} {x : Wx} {Z : Zt} {Q : Option Value → Wx → Zt → Prop} {v3 : Int} {b0_ : Nat} {t1 : Int} {t2 : Int} (s_b0 : x.1 b0_ = some (100, 2912))
    (h : 0 ≤ (t1 + t2) + v3 ∧ (t1 + t2) + v3 < 2912 ∧ (Q (some (i_ (Z b0_ ((t1 + t2) + v3).toNat))) x Z)) :
    V mX12_function k n 44 [none, none, none, some (i_ v3)] [i_ t2, i_ t1, r_ b0_] x Z Q :=
  V_iadd dX12_function_44 (V_iload_n dX12_function_45 rfl (V_iadd dX12_function_46 (V_iald (t := 100) s_b0 (by decide) rfl h.1 h.2.1 (Nat.le_of_ble_eq_true rfl) dX12_function_47 (V_goto (tgt := 52) dX12_function_48 rfl (V_iret (ty := .int) dX12_function_52 rfl rfl h.2.2)))))
set_option maxRecDepth 20000 in
theorem b_X12_function_51 {k n : Nat} {x : Wx} {Z : Zt} {Q : Option Value → Wx → Zt → Prop}  
    (h : Q (some (i_ (-1))) x Z) :
    V mX12_function k n 51 [none, none, none, none] [] x Z Q :=
  V_iconst dX12_function_51 (V_iret (ty := .int) dX12_function_52 rfl rfl h)
theorem dX12_count_0 : decode cX12_count 0 = .ok (.iload_n 1, 1) := by decide +kernel
theorem dX12_count_1 : decode cX12_count 1 = .ok (.iconst 0, 1) := by decide +kernel
theorem dX12_count_2 : decode cX12_count 2 = .ok (.iconst 2, 1) := by decide +kernel
theorem dX12_count_3 : decode cX12_count 3 = .ok (.invokestatic 129, 3) := by decide +kernel
theorem dX12_count_6 : decode cX12_count 6 = .ok (.ifCond .eq 12, 3) := by decide +kernel
theorem dX12_count_9 : decode cX12_count 9 = .ok (.aload_n 0, 1) := by decide +kernel
theorem dX12_count_10 : decode cX12_count 10 = .ok (.getfield 7, 3) := by decide +kernel
theorem dX12_count_13 : decode cX12_count 13 = .ok (.iload_n 1, 1) := by decide +kernel
theorem dX12_count_14 : decode cX12_count 14 = .ok (.iaload, 1) := by decide +kernel
theorem dX12_count_15 : decode cX12_count 15 = .ok (.goto 5, 3) := by decide +kernel
theorem dX12_count_18 : decode cX12_count 18 = .ok (.bipush (-2), 2) := by decide +kernel
theorem dX12_count_20 : decode cX12_count 20 = .ok (.ireturn, 1) := by decide +kernel
set_option maxRecDepth 20000 in
theorem b_X12_count_0 {k n : Nat} {x : Wx} {Z : Zt} {Q : Option Value → Wx → Zt → Prop} {a0 : Nat} {v1 : Int} (o_a0 : Is12 x a0)
    (h : (Rg v1 ∧ Rg (0 : Int) ∧ Rg (2 : Int)) ∧ (∀ (r1 : Int), (((r1 = 1 ∧ (0 : Int) ≤ v1 ∧ v1 ≤ (2 : Int)) ∨ (r1 = 0 ∧ (v1 < (0 : Int) ∨ (2 : Int) < v1)))) → (Rg r1 ∧ (((r1 = 0) → (Q (some (i_ (-2))) x Z)) ∧ ((r1 ≠ 0) → (0 ≤ v1 ∧ v1 < 2912 ∧ (Q (some (i_ (Z (a0 + 1) v1.toNat))) x Z))))))) :
    V mX12_count k n 0 [some (r_ a0), some (i_ v1)] [] x Z Q :=
  V_iload_n dX12_count_0 rfl (V_iconst dX12_count_1 (V_iconst dX12_count_2 (V_callS (k' := 0) (n' := 0) [i_ v1, i_ 0, i_ 2] [] okX12_isIn lm_12_129 lsX12_isIn (Nat.le_of_ble_eq_true rfl) (Nat.le_of_ble_eq_true rfl) (Nat.le_of_ble_eq_true rfl) (cat_of rfl) (Nat.le_of_ble_eq_true rfl) (Nat.zero_le _) (Nat.zero_le _) rfl dX12_count_3 (sp_X12_isIn  h.1 (fun r1 p1 => V_if_eq (tgt := 18) dX12_count_6 rfl (h.2 r1 p1).1 (fun c1 => V_bipush dX12_count_18 rfl (V_iret (ty := .int) dX12_count_20 rfl rfl ((h.2 r1 p1).2.1 c1))) (fun c1 => V_aload_n dX12_count_9 rfl (G_12_0 o_a0.1 o_a0.qR0 lf_12_7 dX12_count_10 (V_iload_n dX12_count_13 rfl (V_iald (t := 100) o_a0.qK0 (by decide) rfl ((h.2 r1 p1).2.2 c1).1 ((h.2 r1 p1).2.2 c1).2.1 (Nat.le_of_ble_eq_true rfl) dX12_count_14 (V_goto (tgt := 20) dX12_count_15 rfl (V_iret (ty := .int) dX12_count_20 rfl rfl ((h.2 r1 p1).2.2 c1).2.2)))))))))))
theorem dX12_fault_0 : decode cX12_fault 0 = .ok (.iload_n 1, 1) := by decide +kernel
theorem dX12_fault_1 : decode cX12_fault 1 = .ok (.ifCond .ne 12, 3) := by decide +kernel
theorem dX12_fault_4 : decode cX12_fault 4 = .ok (.aload_n 0, 1) := by decide +kernel
theorem dX12_fault_5 : decode cX12_fault 5 = .ok (.getfield 7, 3) := by decide +kernel
theorem dX12_fault_8 : decode cX12_fault 8 = .ok (.iconst 4, 1) := by decide +kernel
theorem dX12_fault_9 : decode cX12_fault 9 = .ok (.iaload, 1) := by decide +kernel
theorem dX12_fault_10 : decode cX12_fault 10 = .ok (.goto 18, 3) := by decide +kernel
theorem dX12_fault_13 : decode cX12_fault 13 = .ok (.iload_n 1, 1) := by decide +kernel
theorem dX12_fault_14 : decode cX12_fault 14 = .ok (.iconst 1, 1) := by decide +kernel
theorem dX12_fault_15 : decode cX12_fault 15 = .ok (.if_icmp .ne 12, 3) := by decide +kernel
theorem dX12_fault_18 : decode cX12_fault 18 = .ok (.aload_n 0, 1) := by decide +kernel
theorem dX12_fault_19 : decode cX12_fault 19 = .ok (.getfield 7, 3) := by decide +kernel
theorem dX12_fault_22 : decode cX12_fault 22 = .ok (.iconst 5, 1) := by decide +kernel
theorem dX12_fault_23 : decode cX12_fault 23 = .ok (.iaload, 1) := by decide +kernel
theorem dX12_fault_24 : decode cX12_fault 24 = .ok (.goto 4, 3) := by decide +kernel
theorem dX12_fault_27 : decode cX12_fault 27 = .ok (.iconst (-1), 1) := by decide +kernel
theorem dX12_fault_28 : decode cX12_fault 28 = .ok (.ireturn, 1) := by decide +kernel
set_option maxRecDepth 20000 in
theorem b_X12_fault_0 {k n : Nat} {x : Wx} {Z : Zt} {Q : Option Value → Wx → Zt → Prop} {a0 : Nat} {v1 : Int} (o_a0 : Is12 x a0)
    (h : Rg v1 ∧ (((v1 ≠ 0) → (((v1 ≠ 1) → (Q (some (i_ (-1))) x Z)) ∧ ((v1 = 1) → (Q (some (i_ (Z (a0 + 1) 5))) x Z)))) ∧ ((v1 = 0) → (Q (some (i_ (Z (a0 + 1) 4))) x Z)))) :
    V mX12_fault k n 0 [some (r_ a0), some (i_ v1)] [] x Z Q :=
  V_iload_n dX12_fault_0 rfl (V_if_ne (tgt := 13) dX12_fault_1 rfl h.1 (fun c1 => V_iload_n dX12_fault_13 rfl (V_iconst dX12_fault_14 (V_icmp_ne (tgt := 27) dX12_fault_15 rfl h.1 (rg_c rfl) (fun c2 => V_iconst dX12_fault_27 (V_iret (ty := .int) dX12_fault_28 rfl rfl ((h.2.1 c1).1 c2))) (fun c2 => V_aload_n dX12_fault_18 rfl (G_12_0 o_a0.1 o_a0.qR0 lf_12_7 dX12_fault_19 (V_iconst dX12_fault_22 (V_iald (t := 100) o_a0.qK0 (by decide) rfl (by decide) (by decide) (Nat.le_of_ble_eq_true rfl) dX12_fault_23 (V_goto (tgt := 28) dX12_fault_24 rfl (V_iret (ty := .int) dX12_fault_28 rfl rfl ((h.2.1 c1).2 c2)))))))))) (fun c1 => V_aload_n dX12_fault_4 rfl (G_12_0 o_a0.1 o_a0.qR0 lf_12_7 dX12_fault_5 (V_iconst dX12_fault_8 (V_iald (t := 100) o_a0.qK0 (by decide) rfl (by decide) (by decide) (Nat.le_of_ble_eq_true rfl) dX12_fault_9 (V_goto (tgt := 28) dX12_fault_10 rfl (V_iret (ty := .int) dX12_fault_28 rfl rfl (h.2.2 c1))))))))
theorem sp_X12_share {k n : Nat} {x : Wx} {Z : Zt} {Q : Option Value → Wx → Zt → Prop} {b : Nat} {c i : Int} {S : Ab} (hI : MI x Z b S) (hV : AbV S) (hc : Rg c) (hi : Rg i) (h : RAm b x Z Q (aShare S.nw c i)) : V mX12_share k n 0 [some (r_ b), some (i_ c), some (i_ i)] [] x Z Q := by
  unfold aShare at h
  refine b_X12_share_0 hI.1 ⟨_, S.nw, hI.2.1, hV.1, MS.any, hc, fun Z1 P1 r1 h1 => ⟨h1.rg.1, fun c0 => b_X12_share_22 ?_, fun c0 => ?_⟩⟩
  · have g := h1.no c0
    rw [if_neg (fun q => g.1 q.1)] at h; exact h Z1 g.2
  · obtain ⟨g1, g2, g3⟩ := h1.yes hV.1 c0
    have hg := gen_rg (S.nw.F c.toNat)
    have m2 := g2.1.1.2
    refine ⟨⟨hi, by exact ⟨by decide, by decide⟩, by rw [m2]; exact ⟨by omega, by omega⟩⟩, fun r2 h2 => ⟨⟨by omega, by omega⟩, fun d => ⟨hi, fun e => ⟨_, _, g2, by rw [m2] at h2; omega, ?_⟩, fun e => ⟨_, _, g2, Or.inl rfl, ?_⟩⟩, fun d => b_X12_share_22 ?_⟩⟩
    · rw [m2] at h2
      rw [if_pos ⟨g1, by omega, by omega⟩, if_neg (by omega)] at h; exact h Z1 g3
    · rw [m2] at h2
      rw [if_pos ⟨g1, by omega, by omega⟩, if_pos e] at h; exact h Z1 g3
    · rw [m2] at h2
      rw [if_neg (by omega)] at h; exact h Z1 g3
theorem sp_X12_curve {k n : Nat} {x : Wx} {Z : Zt} {Q : Option Value → Wx → Zt → Prop} {b : Nat} {c w : Int} {S : Ab} (hI : MI x Z b S) (hV : AbV S) (hc : Rg c) (hw : Rg w) (h : RAm b x Z Q (aCurve S.nw c w)) : V mX12_curve k n 0 [some (r_ b), some (i_ c), some (i_ w)] [] x Z Q := by
  unfold aCurve at h
  refine b_X12_curve_0 hI.1 ⟨_, S.nw, hI.2.1, hV.1, MS.any, hc, fun Z1 P1 r1 h1 => ⟨h1.rg.1, fun c0 => ?_, fun c0 => ?_⟩⟩
  · obtain ⟨g1, g2, g3⟩ := h1.yes hV.1 c0
    obtain ⟨⟨⟨m1, m2⟩, m3⟩, hCF, P, hM, hP⟩ := id g2
    have hrg : ∀ i : Nat, i < 24 → Rg (P (0 : Int).toNat i) := fun i _ => by
      show Rg (P 0 i); rw [hP]; have := hCF.2.1 i; have := hCF.1.rg; exact ⟨by omega, by omega⟩
    have k1 := pd_ge (S.nw.F c.toNat)
    have k2 := pd_lt (S.nw.F c.toNat)
    have hP' : P (0 : Int).toNat = S.nw.F c.toNat := hP
    rw [if_pos g1] at h
    refine ⟨hw, fun e => ?_, fun e => ⟨P, hM, by decide, hrg, ?_⟩, fun e => ?_, fun e => ?_, fun e => ⟨_, _, hCF.1, m3, ?_⟩, fun e => ⟨_, _, g2, Or.inl rfl, ?_⟩, fun e => ?_, fun e => ⟨P, hM, by decide, hrg, ?_⟩⟩
    · rw [if_pos e] at h; rw [m1]; exact h Z1 g3
    · rw [if_neg (by omega), if_pos e] at h; rw [hP']; exact h Z1 g3
    · rw [if_neg (by omega), if_neg (by omega), if_pos e] at h; rw [m2]; exact h Z1 g3
    · rw [if_neg (by omega), if_neg (by omega), if_neg (by omega), if_pos e] at h; rw [m3.1]; exact h Z1 g3
    · rw [if_neg (by omega), if_neg (by omega), if_neg (by omega), if_neg (by omega), if_pos e] at h; exact h Z1 g3
    · rw [if_neg (by omega), if_neg (by omega), if_neg (by omega), if_neg (by omega), if_neg (by omega), if_pos e] at h; exact h Z1 g3
    · rw [if_neg (by omega), if_neg (by omega), if_neg (by omega), if_neg (by omega), if_neg (by omega), if_neg (by omega), if_pos e] at h; rw [m2]; exact h Z1 g3
    · rw [hP']
      rw [if_neg (by omega), if_neg (by omega), if_neg (by omega), if_neg (by omega), if_neg (by omega), if_neg (by omega), if_neg (by omega)] at h
      refine ⟨⟨hw, ⟨by decide, by decide⟩, ⟨by omega, by omega⟩⟩, fun r2 h2 => ⟨⟨by omega, by omega⟩, fun d => ?_, fun d => ⟨by omega, ?_⟩⟩⟩
      · rw [if_neg (by omega)] at h; exact h Z1 g3
      · rw [if_pos (by omega)] at h
        have e9 := hM.at (u := 0) (i := w - 10) (by decide) (by omega)
        rw [hP'] at e9
        have hpd := (Td.crv hV.1 (q := c.toNat) (by omega)).2.1
        rw [e9, Td.Fat hV.1 (q := c.toNat) (by omega) (by omega), show 2 + (w - 10).toNat = (2 + w - 10).toNat from by omega]; exact h Z1 g3
  · have g := h1.no c0
    rw [if_neg g.1] at h; exact h Z1 g.2
theorem sp_X12_twist {k n : Nat} {x : Wx} {Z : Zt} {Q : Option Value → Wx → Zt → Prop} {b : Nat} {c w : Int} {S : Ab} (hI : MI x Z b S) (hV : AbV S) (hc : Rg c) (hw : Rg w) (h : RAm b x Z Q (aTwist S.nw c w)) : V mX12_twist k n 0 [some (r_ b), some (i_ c), some (i_ w)] [] x Z Q := by
  unfold aTwist at h
  refine b_X12_twist_0 hI.1 ⟨_, S.nw, hI.2.1, hV.1, MS.any, hc, fun Z1 P1 r1 h1 => ⟨h1.rg.1, fun c0 => ?_, fun c0 => ?_⟩⟩
  · obtain ⟨g1, g2, g3⟩ := h1.yes hV.1 c0
    obtain ⟨⟨⟨m1, m2⟩, m3⟩, hCF, P, hM, hP⟩ := id g2
    rw [if_pos g1] at h
    refine ⟨hw, fun e => ⟨fun e1 => ⟨fun e2 => ?_, fun e2 => ⟨_, _, g2, Or.inr rfl, ?_⟩⟩, fun e1 => ?_⟩, fun e => ⟨_, ⟨hCF.1, m1⟩, ?_⟩⟩
    · rw [if_neg e, if_neg e1, if_neg e2] at h; exact h Z1 g3
    · rw [if_neg e, if_neg e1, if_pos e2] at h; exact h Z1 g3
    · rw [if_neg e, if_pos e1] at h; rw [m1, m3.1]; exact h Z1 g3
    · rw [if_pos e] at h; exact h Z1 g3
  · have g := h1.no c0
    rw [if_neg g.1] at h; exact h Z1 g.2
theorem sp_X12_point {k n : Nat} {x : Wx} {Z : Zt} {Q : Option Value → Wx → Zt → Prop} {b : Nat} {c q w : Int} {S : Ab} (hI : MI x Z b S) (hV : AbV S) (hc : Rg c) (hq : Rg q) (hw : Rg w) (h : RAm b x Z Q (aPoint S.nw c q w)) : V mX12_point k n 0 [some (r_ b), some (i_ c), some (i_ q), some (i_ w)] [] x Z Q := by
  unfold aPoint at h
  refine b_X12_point_0 hI.1 ⟨_, S.nw, hI.2.1, hV.1, MS.any, hc, fun Z1 P1 r1 h1 => ⟨h1.rg.1, fun c0 => b_X12_point_16 ?_, fun c0 => ?_⟩⟩
  · have g := h1.no c0
    rw [if_neg (fun q => g.1 q.1)] at h; exact h Z1 g.2
  · obtain ⟨g1, g2, g3⟩ := h1.yes hV.1 c0
    obtain ⟨⟨⟨m1, m2⟩, m3⟩, hCF, P, hM, hP⟩ := id g2
    have hl := pall_len hCF.1 (S.nw.F c.toNat)
    have eL : S.nw.L c.toNat = pall (S.nw.p c.toNat) (S.nw.F c.toNat) := rfl
    rw [eL] at h
    refine ⟨_, m3.1, hl.2, hq, fun r2 h2 => ⟨⟨by omega, by omega⟩, fun d => ?_, fun d => b_X12_point_16 ?_⟩⟩
    · have hq2 : 0 ≤ q ∧ q < (pall (S.nw.p c.toNat) (S.nw.F c.toNat)).length := by omega
      rw [if_pos ⟨g1, hq2⟩] at h
      refine ⟨hw, fun e => ⟨fun e1 => ⟨fun e2 => ?_, fun e2 => ⟨_, _, hCF.1, m3, hq2, ?_⟩⟩, fun e1 => ⟨by omega, by omega, ?_⟩⟩, fun e => ⟨by omega, by omega, ?_⟩⟩
      · rw [if_neg e, if_neg e1, if_neg e2] at h; exact h Z1 g3
      · rw [if_neg e, if_neg e1, if_pos e2] at h
        have h := h Z1 g3
        cases hb : fxd (pall (S.nw.p c.toNat) (S.nw.F c.toNat)) q with
        | true => rw [hb] at h; exact ⟨⟨by decide, by decide⟩, fun c => absurd c (by decide), fun _ => h⟩
        | false => rw [hb] at h; exact ⟨⟨by decide, by decide⟩, fun _ => h, fun c => absurd rfl c⟩
      · rw [if_neg e, if_pos e1] at h; rw [(m3.2 q.toNat (by omega)).2]; exact h Z1 g3
      · rw [if_pos e] at h; rw [(m3.2 q.toNat (by omega)).1]; exact h Z1 g3
    · rw [if_neg (by omega)] at h; exact h Z1 g3
theorem sp_X12_sum {k n : Nat} {x : Wx} {Z : Zt} {Q : Option Value → Wx → Zt → Prop} {b : Nat} {s w : Int} {S : Ab} (hI : MI x Z b S) (hV : AbV S) (hs : Rg s) (hw : Rg w) (h : RAm b x Z Q (aSum S.nw s w)) : V mX12_sum k n 0 [some (r_ b), some (i_ s), some (i_ w), none, none, none] [] x Z Q := by
  unfold aSum at h
  have h := h Z Mq.rf
  obtain ⟨o, hT, _⟩ := hI
  have hct := hV.1.2.2.2.2.2.1
  have e1 : Z (b + 1) (1 : Int).toNat = S.nw.ct 1 := hT.1.2.1
  refine b_X12_sum_0 o ⟨by decide, hs, by rw [e1]; exact ⟨by omega, by omega⟩, fun r1 h1 => ⟨⟨by omega, by omega⟩, fun c0 => ⟨⟨by decide, by decide⟩, ?_⟩, fun c0 => ?_⟩⟩
  · rw [e1] at h1
    have hq : 0 ≤ s ∧ s < S.nw.ct 1 := by omega
    obtain ⟨q, rfl⟩ : ∃ q : Nat, s = (q : Int) := ⟨s.toNat, by omega⟩
    rw [Int.toNat_natCast] at h
    have epl : plcO (1 : Int) (q : Int) = 626 + 26 * (q : Int) := rfl
    obtain ⟨t1, t2, t3⟩ := hT.2.2.2.2.1 q hq.2
    have hR := (hV.1.2.2.2.2.2.2.2.2.1 q hq.2).1
    have hn : 0 ≤ S.nw.rw (2 + q) 0 ∧ S.nw.rw (2 + q) 0 ≤ 8 := hR.1
    have ep : (plcO (1 : Int) (q : Int)).toNat = 626 + 26 * q := by rw [epl]; omega
    refine ⟨by rw [epl]; omega, by rw [epl]; omega, ⟨hw, rg_z, ⟨by decide, by decide⟩⟩, fun r2 h2 => ⟨⟨by omega, by omega⟩, fun d => ?_, fun d => ⟨by rw [epl]; omega, by rw [epl]; omega, ?_⟩⟩⟩
    · rw [ep, t1]
      -- the loop
      have lp : ∀ (m : Nat) (v : Int), 1 ≤ v → v + m = 4 → (∀ u : Int, 1 ≤ u → u < v → ¬ (10 * u ≤ w ∧ w < 10 * u + S.nw.rw (2 + q) 0)) → V mX12_sum k n 47 [some (r_ b), none, some (i_ w), some (i_ (plcO (1 : Int) (q : Int))), some (i_ (S.nw.rw (2 + q) 0)), some (i_ v)] [] x Z Q := by
        intro m
        induction m with
        | zero =>
          intro v h1 h2 hno
          refine b_X12_sum_47 o ⟨⟨by omega, by omega⟩, fun _ => ?_, fun c => by omega⟩
          have a1 := hno 1 (by decide) (by omega)
          have a2 := hno 2 (by decide) (by omega)
          have a3 := hno 3 (by decide) (by omega)
          by_cases hw0 : 0 ≤ w
          · rw [if_pos ⟨hq, hw0⟩, if_neg (by omega), if_neg (fun hh => by omega)] at h; exact h
          · rw [if_neg (fun hh => hw0 hh.2)] at h; exact h
        | succ m ih =>
          intro v h1 h2 hno
          refine b_X12_sum_47 o ⟨⟨by omega, by omega⟩, fun c => by omega, fun _ => ⟨⟨hw, ⟨by omega, by omega⟩, ⟨by omega, by omega⟩⟩, fun r3 h3 => ⟨⟨by omega, by omega⟩, fun c0 => ih (v + 1) (by omega) (by omega) (fun u u1 u2 => ?_), fun c0 => ⟨by rw [epl]; omega, by rw [epl]; omega, ?_⟩⟩⟩⟩
          · by_cases eu : u = v
            · rw [eu]; omega
            · exact hno u u1 (by omega)
          · have hw3 : 10 * v ≤ w ∧ w < 10 * v + S.nw.rw (2 + q) 0 := by omega
            rw [if_pos ⟨hq, by omega⟩, if_neg (by omega), if_pos (by omega)] at h
            have ei : ((plcO (1 : Int) (q : Int) + 1) + v + 3 * (w - 10 * v)).toNat = 628 + 26 * q + (v - 1 + 3 * (w - 10 * v)).toNat := by rw [epl]; omega
            rw [ei, t3 _ (by omega), show 2 + (v - 1 + 3 * (w - 10 * v)).toNat = (2 + 3 * (w % 10) + (w / 10 - 1)).toNat from by omega]
            exact h
      exact lp 3 1 (by decide) (by decide) (fun u u1 u2 => by omega)
    · rw [if_pos ⟨hq, by omega⟩, if_pos (by omega)] at h
      by_cases ew : w = 0
      · rw [ew, show ((plcO (1 : Int) (q : Int)) + 0).toNat = 626 + 26 * q from by rw [epl]; omega, t1]; rw [ew] at h; exact h
      · have ew : w = 1 := by omega
        rw [ew, show ((plcO (1 : Int) (q : Int)) + 1).toNat = 627 + 26 * q from by rw [epl]; omega, t2]; rw [ew] at h; exact h
  · rw [e1] at h1
    rw [if_neg (by omega)] at h; exact h
theorem sp_X12_function {k n : Nat} {x : Wx} {Z : Zt} {Q : Option Value → Wx → Zt → Prop} {b : Nat} {f y w : Int} {S : Ab} (hI : MI x Z b S) (hV : AbV S) (hf : Rg f) (hy : Rg y) (hw : Rg w) (h : RAm b x Z Q (aFunction S.nw f y w)) : V mX12_function k n 0 [some (r_ b), some (i_ f), some (i_ y), some (i_ w)] [] x Z Q := by
  unfold aFunction at h
  have h := h Z Mq.rf
  obtain ⟨o, hT, _⟩ := hI
  have hct := hV.1.2.2.2.2.2.2.1
  have e1 : Z (b + 1) (2 : Int).toNat = S.nw.ct 2 := hT.1.2.2
  refine b_X12_function_0 o ⟨by decide, hf, by rw [e1]; exact ⟨by omega, by omega⟩, fun r1 h1 => ⟨⟨by omega, by omega⟩, fun c0 => b_X12_function_51 ?_, fun c0 => ⟨hy, fun cy => ?_, fun cy => ?_⟩⟩⟩
  · rw [e1] at h1
    rw [if_neg (by omega)] at h; exact h
  · rw [e1] at h1
    obtain ⟨q, rfl⟩ : ∃ q : Nat, f = (q : Int) := ⟨f.toNat, by omega⟩
    have epl : plcO (2 : Int) (q : Int) = 704 + 8 * (q : Int) := rfl
    rw [if_pos cy, if_pos cy, Int.toNat_natCast] at h
    refine b_X12_function_20 o ⟨⟨hw, rg_z, ⟨by decide, by decide⟩⟩, fun r2 h2 => ⟨⟨by omega, by omega⟩, fun d => b_X12_function_51 ?_, fun d => ⟨⟨by decide, by decide⟩, hy, fun _ => b_X12_function_44 o.qK0 ⟨by rw [epl]; omega, by rw [epl]; omega, ?_⟩, fun c => absurd cy c⟩⟩⟩
    · rw [if_neg (by omega)] at h; exact h
    · rw [if_pos (by omega)] at h
      rw [show ((plcO (2 : Int) (q : Int)) + 0 + w).toNat = 704 + 8 * q + w.toNat from by rw [epl]; omega, hT.2.2.2.2.2 q (by omega) w.toNat (by omega)]; exact h
  · rw [e1] at h1
    obtain ⟨q, rfl⟩ : ∃ q : Nat, f = (q : Int) := ⟨f.toNat, by omega⟩
    have epl : plcO (2 : Int) (q : Int) = 704 + 8 * (q : Int) := rfl
    rw [if_neg cy, if_neg cy, Int.toNat_natCast] at h
    refine b_X12_function_20 o ⟨⟨hw, rg_z, ⟨by decide, by decide⟩⟩, fun r2 h2 => ⟨⟨by omega, by omega⟩, fun d => b_X12_function_51 ?_, fun d => ⟨⟨by decide, by decide⟩, hy, fun c => absurd c cy, fun _ => b_X12_function_44 o.qK0 ⟨by rw [epl]; omega, by rw [epl]; omega, ?_⟩⟩⟩⟩
    · rw [if_neg (by omega)] at h; exact h
    · rw [if_pos (by omega)] at h
      rw [show ((plcO (2 : Int) (q : Int)) + 5 + w).toNat = 704 + 8 * q + (5 + w).toNat from by rw [epl]; omega, hT.2.2.2.2.2 q (by omega) (5 + w).toNat (by omega)]; exact h
theorem sp_X12_count {k n : Nat} {x : Wx} {Z : Zt} {Q : Option Value → Wx → Zt → Prop} {b : Nat} {s : Int} {S : Ab} (hI : MI x Z b S) (hs : Rg s) (h : RAm b x Z Q (aCount S.nw s)) : V mX12_count k n 0 [some (r_ b), some (i_ s)] [] x Z Q := by
  unfold aCount at h
  have h := h Z Mq.rf
  obtain ⟨o, hT, _⟩ := hI
  refine b_X12_count_0 o ⟨⟨hs, rg_z, ⟨by decide, by decide⟩⟩, fun r1 h1 => ⟨⟨by omega, by omega⟩, fun c => ?_, fun c => ⟨by omega, by omega, ?_⟩⟩⟩
  · rw [if_neg (by omega)] at h; exact h
  · rw [if_pos (by omega)] at h
    have e : Z (b + 1) s.toNat = S.nw.ct s.toNat := by
      obtain ⟨t0, t1, t2⟩ := hT.1
      by_cases e0 : s = 0
      · rw [e0]; exact t0
      · by_cases e1 : s = 1
        · rw [e1]; exact t1
        · rw [show s = 2 by omega]; exact t2
    rw [e]; exact h
theorem sp_X12_fault {k n : Nat} {x : Wx} {Z : Zt} {Q : Option Value → Wx → Zt → Prop} {b : Nat} {w : Int} {S : Ab} (hI : MI x Z b S) (hw : Rg w) (h : RAm b x Z Q (aFault S.nw w)) : V mX12_fault k n 0 [some (r_ b), some (i_ w)] [] x Z Q := by
  unfold aFault at h
  have h := h Z Mq.rf
  obtain ⟨o, hT, _⟩ := hI
  refine b_X12_fault_0 o ⟨hw, fun c => ⟨fun c1 => ?_, fun c1 => ?_⟩, fun c => ?_⟩
  · rw [if_neg c, if_neg c1] at h; exact h
  · rw [if_neg c, if_pos c1] at h; rw [hT.2.1.2.2]; exact h
  · rw [if_pos c] at h; rw [hT.2.1.2.1]; exact h
