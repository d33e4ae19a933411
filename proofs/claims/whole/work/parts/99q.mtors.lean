/-! ===== the reference: orders of all, torsion ===== -/
theorem dX12_orderOfClass_0 : decode cX12_orderOfClass 0 = .ok (.aload_n 0, 1) := by decide +kernel
theorem dX12_orderOfClass_1 : decode cX12_orderOfClass 1 = .ok (.getfield 405, 3) := by decide +kernel
theorem dX12_orderOfClass_4 : decode cX12_orderOfClass 4 = .ok (.istore_n 2, 1) := by decide +kernel
theorem dX12_orderOfClass_5 : decode cX12_orderOfClass 5 = .ok (.iconst 2, 1) := by decide +kernel
theorem dX12_orderOfClass_6 : decode cX12_orderOfClass 6 = .ok (.istore_n 3, 1) := by decide +kernel
theorem dX12_orderOfClass_7 : decode cX12_orderOfClass 7 = .ok (.iload_n 3, 1) := by decide +kernel
theorem dX12_orderOfClass_8 : decode cX12_orderOfClass 8 = .ok (.iload_n 2, 1) := by decide +kernel
theorem dX12_orderOfClass_9 : decode cX12_orderOfClass 9 = .ok (.if_icmp .gt 77, 3) := by decide +kernel
theorem dX12_orderOfClass_12 : decode cX12_orderOfClass 12 = .ok (.iload_n 2, 1) := by decide +kernel
theorem dX12_orderOfClass_13 : decode cX12_orderOfClass 13 = .ok (.iload_n 3, 1) := by decide +kernel
theorem dX12_orderOfClass_14 : decode cX12_orderOfClass 14 = .ok (.irem, 1) := by decide +kernel
theorem dX12_orderOfClass_15 : decode cX12_orderOfClass 15 = .ok (.ifCond .ne 7, 3) := by decide +kernel
theorem dX12_orderOfClass_18 : decode cX12_orderOfClass 18 = .ok (.iconst 1, 1) := by decide +kernel
theorem dX12_orderOfClass_19 : decode cX12_orderOfClass 19 = .ok (.goto 4, 3) := by decide +kernel
theorem dX12_orderOfClass_22 : decode cX12_orderOfClass 22 = .ok (.iconst 0, 1) := by decide +kernel
theorem dX12_orderOfClass_23 : decode cX12_orderOfClass 23 = .ok (.istore 4, 2) := by decide +kernel
theorem dX12_orderOfClass_25 : decode cX12_orderOfClass 25 = .ok (.iload 4, 2) := by decide +kernel
theorem dX12_orderOfClass_27 : decode cX12_orderOfClass 27 = .ok (.ifCond .eq 53, 3) := by decide +kernel
theorem dX12_orderOfClass_30 : decode cX12_orderOfClass 30 = .ok (.aload_n 0, 1) := by decide +kernel
theorem dX12_orderOfClass_31 : decode cX12_orderOfClass 31 = .ok (.iload_n 1, 1) := by decide +kernel
theorem dX12_orderOfClass_32 : decode cX12_orderOfClass 32 = .ok (.iload_n 2, 1) := by decide +kernel
theorem dX12_orderOfClass_33 : decode cX12_orderOfClass 33 = .ok (.iload_n 3, 1) := by decide +kernel
theorem dX12_orderOfClass_34 : decode cX12_orderOfClass 34 = .ok (.idiv, 1) := by decide +kernel
theorem dX12_orderOfClass_35 : decode cX12_orderOfClass 35 = .ok (.sipush 2910, 3) := by decide +kernel
theorem dX12_orderOfClass_38 : decode cX12_orderOfClass 38 = .ok (.invokevirtual 384, 3) := by decide +kernel
theorem dX12_orderOfClass_41 : decode cX12_orderOfClass 41 = .ok (.aload_n 0, 1) := by decide +kernel
theorem dX12_orderOfClass_42 : decode cX12_orderOfClass 42 = .ok (.sipush 2910, 3) := by decide +kernel
theorem dX12_orderOfClass_45 : decode cX12_orderOfClass 45 = .ok (.invokevirtual 399, 3) := by decide +kernel
theorem dX12_orderOfClass_48 : decode cX12_orderOfClass 48 = .ok (.istore 4, 2) := by decide +kernel
theorem dX12_orderOfClass_50 : decode cX12_orderOfClass 50 = .ok (.iload 4, 2) := by decide +kernel
theorem dX12_orderOfClass_52 : decode cX12_orderOfClass 52 = .ok (.ifCond .eq 7, 3) := by decide +kernel
theorem dX12_orderOfClass_55 : decode cX12_orderOfClass 55 = .ok (.iload_n 2, 1) := by decide +kernel
theorem dX12_orderOfClass_56 : decode cX12_orderOfClass 56 = .ok (.iload_n 3, 1) := by decide +kernel
theorem dX12_orderOfClass_57 : decode cX12_orderOfClass 57 = .ok (.idiv, 1) := by decide +kernel
theorem dX12_orderOfClass_58 : decode cX12_orderOfClass 58 = .ok (.istore_n 2, 1) := by decide +kernel
theorem dX12_orderOfClass_59 : decode cX12_orderOfClass 59 = .ok (.iload 4, 2) := by decide +kernel
theorem dX12_orderOfClass_61 : decode cX12_orderOfClass 61 = .ok (.ifCond .eq 13, 3) := by decide +kernel
theorem dX12_orderOfClass_64 : decode cX12_orderOfClass 64 = .ok (.iload_n 2, 1) := by decide +kernel
theorem dX12_orderOfClass_65 : decode cX12_orderOfClass 65 = .ok (.iload_n 3, 1) := by decide +kernel
theorem dX12_orderOfClass_66 : decode cX12_orderOfClass 66 = .ok (.irem, 1) := by decide +kernel
theorem dX12_orderOfClass_67 : decode cX12_orderOfClass 67 = .ok (.ifCond .ne 7, 3) := by decide +kernel
theorem dX12_orderOfClass_70 : decode cX12_orderOfClass 70 = .ok (.iconst 1, 1) := by decide +kernel
theorem dX12_orderOfClass_71 : decode cX12_orderOfClass 71 = .ok (.goto 4, 3) := by decide +kernel
theorem dX12_orderOfClass_74 : decode cX12_orderOfClass 74 = .ok (.iconst 0, 1) := by decide +kernel
theorem dX12_orderOfClass_75 : decode cX12_orderOfClass 75 = .ok (.istore 4, 2) := by decide +kernel
theorem dX12_orderOfClass_77 : decode cX12_orderOfClass 77 = .ok (.goto (-52), 3) := by decide +kernel
theorem dX12_orderOfClass_80 : decode cX12_orderOfClass 80 = .ok (.iinc 3 1, 3) := by decide +kernel
theorem dX12_orderOfClass_83 : decode cX12_orderOfClass 83 = .ok (.goto (-76), 3) := by decide +kernel
theorem dX12_orderOfClass_86 : decode cX12_orderOfClass 86 = .ok (.iload_n 2, 1) := by decide +kernel
theorem dX12_orderOfClass_87 : decode cX12_orderOfClass 87 = .ok (.ireturn, 1) := by decide +kernel
set_option maxRecDepth 20000 in
theorem b_X12_orderOfClass_0 {k n : Nat} {x : Wx} {Z : Zt} {Q : Option Value → Wx → Zt → Prop} {a0 : Nat} {v1 : Int} (o_a0 : Is12 x a0)
    (h : V mX12_orderOfClass k n 7 [some (r_ a0), some (i_ v1), some (i_ (Z a0 36)), some (i_ 2), none] [] x Z Q) :
    V mX12_orderOfClass k n 0 [some (r_ a0), some (i_ v1), none, none, none] [] x Z Q :=
  V_aload_n dX12_orderOfClass_0 rfl (G_12_36 o_a0.1 lf_12_405 dX12_orderOfClass_1 (V_istore_n (lv' := [some (r_ a0), some (i_ v1), some (i_ (Z a0 36)), none, none]) dX12_orderOfClass_4 (Nat.le_of_ble_eq_true rfl) rfl (V_iconst dX12_orderOfClass_5 (V_istore_n (lv' := [some (r_ a0), some (i_ v1), some (i_ (Z a0 36)), some (i_ 2), none]) dX12_orderOfClass_6 (Nat.le_of_ble_eq_true rfl) rfl (V_msk [true, true, true, true, false] rfl h)))))
set_option maxRecDepth 20000 in
theorem b_X12_orderOfClass_7 {k n : Nat} {x : Wx} {Z : Zt} {Q : Option Value → Wx → Zt → Prop} {a0 : Nat} {v1 : Int} {v2 : Int} {v3 : Int} 
    (h : Rg v3 ∧ Rg v2 ∧ (((v2 < v3) → (Q (some (i_ v2)) x Z)) ∧ ((v3 ≤ v2) → (0 < v3 ∧ (Rg (Int.tmod v2 v3) ∧ (((Int.tmod v2 v3 ≠ 0) → (V mX12_orderOfClass k n 23 [some (r_ a0), some (i_ v1), some (i_ v2), some (i_ v3), none] [i_ 0] x Z Q)) ∧ ((Int.tmod v2 v3 = 0) → (V mX12_orderOfClass k n 23 [some (r_ a0), some (i_ v1), some (i_ v2), some (i_ v3), none] [i_ 1] x Z Q)))))))) :
    V mX12_orderOfClass k n 7 [some (r_ a0), some (i_ v1), some (i_ v2), some (i_ v3), none] [] x Z Q :=
  V_iload_n dX12_orderOfClass_7 rfl (V_iload_n dX12_orderOfClass_8 rfl (V_icmp_gt (tgt := 86) dX12_orderOfClass_9 rfl h.1 h.2.1 (fun c1 => V_iload_n dX12_orderOfClass_86 rfl (V_iret (ty := .int) dX12_orderOfClass_87 rfl rfl (h.2.2.1 c1))) (fun c1 => V_iload_n dX12_orderOfClass_12 rfl (V_iload_n dX12_orderOfClass_13 rfl (V_irem dX12_orderOfClass_14 h.2.1 h.1 (h.2.2.2 c1).1 (V_if_ne (tgt := 22) dX12_orderOfClass_15 rfl (h.2.2.2 c1).2.1 (fun c2 => V_iconst dX12_orderOfClass_22 (V_msk [true, true, true, true, false] rfl ((h.2.2.2 c1).2.2.1 c2))) (fun c2 => V_iconst dX12_orderOfClass_18 (V_goto (tgt := 23) dX12_orderOfClass_19 rfl (V_msk [true, true, true, true, false] rfl ((h.2.2.2 c1).2.2.2 c2))))))))))
set_option maxRecDepth 20000 in
theorem b_X12_orderOfClass_23 {k n : Nat} {x : Wx} {Z : Zt} {Q : Option Value → Wx → Zt → Prop} {a0 : Nat} {v1 : Int} {v2 : Int} {v3 : Int} {t0 : Int} 
    (h : V mX12_orderOfClass k n 25 [some (r_ a0), some (i_ v1), some (i_ v2), some (i_ v3), some (i_ t0)] [] x Z Q) :
    V mX12_orderOfClass k n 23 [some (r_ a0), some (i_ v1), some (i_ v2), some (i_ v3), none] [i_ t0] x Z Q :=
  V_istore (lv' := [some (r_ a0), some (i_ v1), some (i_ v2), some (i_ v3), some (i_ t0)]) dX12_orderOfClass_23 (Nat.le_of_ble_eq_true rfl) rfl (V_msk [true, true, true, true, true] rfl h)
set_option maxRecDepth 20000 in
theorem b_X12_orderOfClass_25 {k n : Nat} {x : Wx} {Z : Zt} {Q : Option Value → Wx → Zt → Prop} {a0 : Nat} {v1 : Int} {v2 : Int} {v3 : Int} {v4 : Int} (o_a0 : Is12 x a0)
    (h : Rg v4 ∧ (((v4 = 0) → (V mX12_orderOfClass k n 7 [some (r_ a0), some (i_ v1), some (i_ v2), some (i_ (v3 + 1)), none] [] x Z Q)) ∧ ((v4 ≠ 0) → (Rg v2 ∧ Rg v3 ∧ 0 < v3 ∧ (∃ g1 : Int, (∃ g2 : Nat → Int, (∃ g3 : UV, (MF Z a0 g1 g2 ∧ RP g1 (gen g2) g3 ∧ KC Z a0 v1.toNat g3 ∧ ((0 ≤ v1 ∧ (v1 + 5 ≤ 2915 ∨ 2925 ≤ v1) ∧ v1 ≤ 2995) ∧ (0 ≤ (2910 : Int) ∧ ((2910 : Int) + 5 ≤ 2915 ∨ 2925 ≤ (2910 : Int)) ∧ (2910 : Int) ≤ 2995)) ∧ (-2000 ≤ (Int.tdiv v2 v3) ∧ (Int.tdiv v2 v3) ≤ 2000) ∧ (∀ (Z'1 : Zt), (KC Z'1 a0 (2910 : Int).toNat (tmT g1 g2 g3 (Int.tdiv v2 v3)) ∧ MF Z'1 a0 g1 g2 ∧ CG a0 (TmP (2910 : Int).toNat) Z Z'1) → (∃ g4 : UV, ((0 ≤ (2910 : Int) ∧ (2910 : Int) ≤ 2995) ∧ KC Z'1 a0 (2910 : Int).toNat g4 ∧ (Rg (if pd g4.1 = 0 then (1 : Int) else 0) ∧ ((((if pd g4.1 = 0 then (1 : Int) else 0) = 0) → (V mX12_orderOfClass k n 59 [some (r_ a0), some (i_ v1), some (i_ v2), some (i_ v3), some (i_ (if pd g4.1 = 0 then (1 : Int) else 0))] [] x Z'1 Q)) ∧ (((if pd g4.1 = 0 then (1 : Int) else 0) ≠ 0) → (V mX12_orderOfClass k n 59 [some (r_ a0), some (i_ v1), some (i_ (Int.tdiv v2 v3)), some (i_ v3), some (i_ (if pd g4.1 = 0 then (1 : Int) else 0))] [] x Z'1 Q))))))))))))))) :
    V mX12_orderOfClass k n 25 [some (r_ a0), some (i_ v1), some (i_ v2), some (i_ v3), some (i_ v4)] [] x Z Q :=
  V_iload dX12_orderOfClass_25 rfl (V_if_eq (tgt := 80) dX12_orderOfClass_27 rfl h.1 (fun c1 => V_iinc (lv' := [some (r_ a0), some (i_ v1), some (i_ v2), some (i_ (v3 + 1)), some (i_ v4)]) dX12_orderOfClass_80 rfl (Nat.le_of_ble_eq_true rfl) rfl (V_goto (tgt := 7) dX12_orderOfClass_83 rfl (V_msk [true, true, true, true, false] rfl (h.2.1 c1)))) (fun c1 => V_aload_n dX12_orderOfClass_30 rfl (V_iload_n dX12_orderOfClass_31 rfl (V_iload_n dX12_orderOfClass_32 rfl (V_iload_n dX12_orderOfClass_33 rfl (V_idiv dX12_orderOfClass_34 (h.2.2 c1).1 (h.2.2 c1).2.1 (h.2.2 c1).2.2.1 (V_sipush dX12_orderOfClass_35 rfl (Exists.elim (h.2.2 c1).2.2.2 (fun g1 w1 => Exists.elim w1 (fun g2 w2 => Exists.elim w2 (fun g3 w3 => V_callV (k' := 0) (n' := 0) (t := 12) (q := (RX12, TX12, 46)) [i_ v1, i_ (Int.tdiv v2 v3), i_ 2910] [] okX12_timesOf o_a0.1 rfl rfl lm_12_384 liX12_timesOf lqX12_timesOf (Nat.le_of_ble_eq_true rfl) (Nat.le_of_ble_eq_true rfl) (Nat.le_of_ble_eq_true rfl) (cat_of rfl) (Nat.le_of_ble_eq_true rfl) (Nat.zero_le _) (Nat.zero_le _) rfl dX12_orderOfClass_38 (sp_X12_timesOf o_a0 w3.1 w3.2.1 w3.2.2.1 w3.2.2.2.1 w3.2.2.2.2.1 (fun Z'1 p1 => V_aload_n dX12_orderOfClass_41 rfl (V_sipush dX12_orderOfClass_42 rfl (Exists.elim (w3.2.2.2.2.2 Z'1 p1) (fun g4 w4 => V_callV (k' := 0) (n' := 0) (t := 12) (q := (RX12, TX12, 46)) [i_ 2910] [] okX12_isNone o_a0.1 rfl rfl lm_12_399 liX12_isNone lqX12_isNone (Nat.le_of_ble_eq_true rfl) (Nat.le_of_ble_eq_true rfl) (Nat.le_of_ble_eq_true rfl) (cat_of rfl) (Nat.le_of_ble_eq_true rfl) (Nat.zero_le _) (Nat.zero_le _) rfl dX12_orderOfClass_45 (sp_X12_isNone o_a0 w4.1 w4.2.1 (V_istore (lv' := [some (r_ a0), some (i_ v1), some (i_ v2), some (i_ v3), some (i_ (if pd g4.1 = 0 then (1 : Int) else 0))]) dX12_orderOfClass_48 (Nat.le_of_ble_eq_true rfl) rfl (V_iload dX12_orderOfClass_50 rfl (V_if_eq (tgt := 59) dX12_orderOfClass_52 rfl w4.2.2.1 (fun c2 => V_msk [true, true, true, true, true] rfl (w4.2.2.2.1 c2)) (fun c2 => V_iload_n dX12_orderOfClass_55 rfl (V_iload_n dX12_orderOfClass_56 rfl (V_idiv dX12_orderOfClass_57 (h.2.2 c1).1 (h.2.2 c1).2.1 (h.2.2 c1).2.2.1 (V_istore_n (lv' := [some (r_ a0), some (i_ v1), some (i_ (Int.tdiv v2 v3)), some (i_ v3), some (i_ (if pd g4.1 = 0 then (1 : Int) else 0))]) dX12_orderOfClass_58 (Nat.le_of_ble_eq_true rfl) rfl (V_msk [true, true, true, true, true] rfl (w4.2.2.2.2 c2))))))))))))))))))))))))))
set_option maxRecDepth 20000 in
theorem b_X12_orderOfClass_59 {k n : Nat} {x : Wx} {Z : Zt} {Q : Option Value → Wx → Zt → Prop} {a0 : Nat} {v1 : Int} {v2 : Int} {v3 : Int} {v4 : Int} 
    (h : Rg v4 ∧ (((v4 = 0) → (V mX12_orderOfClass k n 74 [some (r_ a0), some (i_ v1), some (i_ v2), some (i_ v3), none] [] x Z Q)) ∧ ((v4 ≠ 0) → (Rg v2 ∧ Rg v3 ∧ 0 < v3 ∧ (Rg (Int.tmod v2 v3) ∧ (((Int.tmod v2 v3 ≠ 0) → (V mX12_orderOfClass k n 74 [some (r_ a0), some (i_ v1), some (i_ v2), some (i_ v3), none] [] x Z Q)) ∧ ((Int.tmod v2 v3 = 0) → (V mX12_orderOfClass k n 75 [some (r_ a0), some (i_ v1), some (i_ v2), some (i_ v3), none] [i_ 1] x Z Q)))))))) :
    V mX12_orderOfClass k n 59 [some (r_ a0), some (i_ v1), some (i_ v2), some (i_ v3), some (i_ v4)] [] x Z Q :=
  V_iload dX12_orderOfClass_59 rfl (V_if_eq (tgt := 74) dX12_orderOfClass_61 rfl h.1 (fun c1 => V_msk [true, true, true, true, false] rfl (h.2.1 c1)) (fun c1 => V_iload_n dX12_orderOfClass_64 rfl (V_iload_n dX12_orderOfClass_65 rfl (V_irem dX12_orderOfClass_66 (h.2.2 c1).1 (h.2.2 c1).2.1 (h.2.2 c1).2.2.1 (V_if_ne (tgt := 74) dX12_orderOfClass_67 rfl (h.2.2 c1).2.2.2.1 (fun c2 => V_msk [true, true, true, true, false] rfl ((h.2.2 c1).2.2.2.2.1 c2)) (fun c2 => V_iconst dX12_orderOfClass_70 (V_goto (tgt := 75) dX12_orderOfClass_71 rfl (V_msk [true, true, true, true, false] rfl ((h.2.2 c1).2.2.2.2.2 c2)))))))))
set_option maxRecDepth 20000 in
theorem b_X12_orderOfClass_74 {k n : Nat} {x : Wx} {Z : Zt} {Q : Option Value → Wx → Zt → Prop} {a0 : Nat} {v1 : Int} {v2 : Int} {v3 : Int} 
    (h : V mX12_orderOfClass k n 75 [some (r_ a0), some (i_ v1), some (i_ v2), some (i_ v3), none] [i_ 0] x Z Q) :
    V mX12_orderOfClass k n 74 [some (r_ a0), some (i_ v1), some (i_ v2), some (i_ v3), none] [] x Z Q :=
  V_iconst dX12_orderOfClass_74 (V_msk [true, true, true, true, false] rfl h)
set_option maxRecDepth 20000 in
theorem b_X12_orderOfClass_75 {k n : Nat} {x : Wx} {Z : Zt} {Q : Option Value → Wx → Zt → Prop} {a0 : Nat} {v1 : Int} {v2 : Int} {v3 : Int} {t0 : Int} 
    (h : V mX12_orderOfClass k n 25 [some (r_ a0), some (i_ v1), some (i_ v2), some (i_ v3), some (i_ t0)] [] x Z Q) :
    V mX12_orderOfClass k n 75 [some (r_ a0), some (i_ v1), some (i_ v2), some (i_ v3), none] [i_ t0] x Z Q :=
  V_istore (lv' := [some (r_ a0), some (i_ v1), some (i_ v2), some (i_ v3), some (i_ t0)]) dX12_orderOfClass_75 (Nat.le_of_ble_eq_true rfl) rfl (V_goto (tgt := 25) dX12_orderOfClass_77 rfl (V_msk [true, true, true, true, true] rfl h))
/-- n without the factors q that are not needed -/
def oqL (p : Int) (F : Nat → Int) (A : UV) (q : Int) : Nat → Int → Int
  | 0, n => n
  | m + 1, n => if n % q = 0 then (if pd (tmT p F A (n / q)).1 = 0 then oqL p F A q m (n / q) else n) else n
def oqA (p : Int) (F : Nat → Int) (A : UV) : Nat → Int → Int → Int
  | 0, _, n => n
  | m + 1, q, n => if q ≤ n then oqA p F A m (q + 1) (oqL p F A q 12 n) else n
theorem oqL_rg {p : Int} {F : Nat → Int} {A : UV} {q : Int} (hq : 2 ≤ q) : ∀ (m : Nat) (n : Int), 1 ≤ n → 1 ≤ oqL p F A q m n ∧ oqL p F A q m n ≤ n
  | 0, n, h => ⟨h, Int.le_refl _⟩
  | m + 1, n, h => by
    unfold oqL
    by_cases c : n % q = 0
    · rw [if_pos c]
      by_cases c2 : pd (tmT p F A (n / q)).1 = 0
      · rw [if_pos c2]
        have e := Int.mul_ediv_add_emod n q
        have h0 : 0 ≤ n / q := Int.ediv_nonneg (by omega) (by omega)
        have h1 : 1 ≤ n / q := by
          by_cases e0 : n / q = 0
          · rw [e0, Int.mul_zero] at e; omega
          · omega
        have h2 : n / q ≤ n := Int.ediv_le_self q (by omega)
        have := oqL_rg (p := p) (F := F) (A := A) hq m (n / q) h1
        omega
      · rw [if_neg c2]; omega
    · rw [if_neg c]; omega
theorem sp_X12_orderOfClass {k n : Nat} {x : Wx} {Z : Zt} {Q : Option Value → Wx → Zt → Prop} {b : Nat} {c : Int} (o : Is12 x b) {p : Int} {F : Nat → Int} {A : UV} (hF : MF Z b p F) (hA : RP p (gen F) A) (hK : KC Z b c.toNat A) (hc : 0 ≤ c ∧ c ≤ 2895) (hN : 1 ≤ Z b 36 ∧ Z b 36 ≤ 579) (h : ∀ Z' : Zt, (MF Z' b p F ∧ CG b (TmP 2910) Z Z') → Q (some (i_ (oqA p F A 600 2 (Z b 36)))) x Z') : V mX12_orderOfClass k n 0 [some (r_ b), some (i_ c), none, none, none] [] x Z Q := by
  obtain ⟨c', rfl⟩ : ∃ c' : Nat, c = (c' : Int) := ⟨c.toNat, by omega⟩
  rw [Int.toNat_natCast] at hK
  generalize hR : oqA p F A 600 2 (Z b 36) = R at h
  have hC := hF.2.1
  have t10 : (2910 : Int).toNat = 2910 := rfl
  let I : Zt → Prop := fun Z1 => MF Z1 b p F ∧ KC Z1 b c' A ∧ CG b (TmP 2910) Z Z1
  -- the inner loop
  have lq : ∀ (q : Int) (nf : Int), 2 ≤ q → q ≤ 1000 → (∀ Z2 : Zt, I Z2 → V mX12_orderOfClass k n 7 [some (r_ b), some (i_ (c' : Int)), some (i_ nf), some (i_ (q + 1)), none] [] x Z2 Q) → ∀ (m : Nat) (v : Int) (Z1 : Zt), 1 ≤ v → v ≤ 579 → v < 2 ^ m → I Z1 → oqL p F A q m v = nf → V mX12_orderOfClass k n 25 [some (r_ b), some (i_ (c' : Int)), some (i_ v), some (i_ q), some (i_ (if v % q = 0 then 1 else 0))] [] x Z1 Q := by
    intro q nf hq hq2 nx m
    have stop : ∀ (v : Int) (Z1 : Zt), v = nf → I Z1 → V mX12_orderOfClass k n 25 [some (r_ b), some (i_ (c' : Int)), some (i_ v), some (i_ q), some (i_ 0)] [] x Z1 Q := fun v Z1 e hI => b_X12_orderOfClass_25 o ⟨⟨by decide, by decide⟩, fun _ => by rw [e]; exact nx Z1 hI, fun cc => absurd rfl cc⟩
    induction m with
    | zero => intro v Z1 h1 h2 h3 hI he; have h3 : v < 1 := h3; omega
    | succ m ih =>
      intro v Z1 h1 h2 h3 hI he
      unfold oqL at he
      by_cases c1 : v % q = 0
      · rw [if_pos c1] at he ⊢
        have h4 : (2 : Int) ^ (m + 1) = 2 ^ m * 2 := Int.pow_succ 2 m
        rw [h4] at h3
        have td : Int.tdiv v q = v / q := Int.tdiv_eq_ediv_of_nonneg (by omega)
        have e := Int.mul_ediv_add_emod v q
        have h0 : 0 ≤ v / q := Int.ediv_nonneg (by omega) (by omega)
        have h5 : 1 ≤ v / q := by
          by_cases e0 : v / q = 0
          · rw [e0, Int.mul_zero] at e; omega
          · omega
        have h6 : v / q ≤ v := Int.ediv_le_self q (by omega)
        have h7 : v / q * 2 ≤ v := by
          have : v / q * 2 ≤ v / q * q := Int.mul_le_mul_of_nonneg_left hq h0
          rw [Int.mul_comm] at e
          omega
        obtain ⟨f1, k1, g1⟩ := id hI
        refine b_X12_orderOfClass_25 o ⟨⟨by decide, by decide⟩, fun cc => by omega, fun _ => ⟨⟨by omega, by omega⟩, ⟨by omega, by omega⟩, by omega, ?_⟩⟩
        rw [td]
        refine ⟨p, F, A, f1, hA, by rw [Int.toNat_natCast]; exact k1, ⟨by omega, by decide⟩, ⟨by omega, by omega⟩, fun Z2 hz2 => ⟨_, by decide, hz2.1, ?_⟩⟩
        have I2 : I Z2 := ⟨hz2.2.1, k1.cg hz2.2.2 (fun i hi => ⟨by omega, by rw [t10]; omega⟩), g1.tr hz2.2.2⟩
        by_cases c2 : pd (tmT p F A (v / q)).1 = 0
        · rw [if_pos c2] at he ⊢
          refine ⟨⟨by decide, by decide⟩, fun cc => by omega, fun _ => ?_⟩
          have tm : Int.tmod (v / q) q = v / q % q := Int.tmod_eq_emod_of_nonneg h0
          have r9 := emr (v / q) (show 0 < q by omega)
          refine b_X12_orderOfClass_59 ⟨⟨by decide, by decide⟩, fun cc => by omega, fun _ => ⟨⟨by omega, by omega⟩, ⟨by omega, by omega⟩, by omega, ?_⟩⟩
          rw [tm]
          have nx2 := ih (v / q) Z2 h5 (by omega) (by omega) I2 he
          refine ⟨⟨by omega, by omega⟩, fun c3 => ?_, fun c3 => ?_⟩
          · rw [if_neg c3] at nx2
            exact b_X12_orderOfClass_74 (b_X12_orderOfClass_75 nx2)
          · rw [if_pos c3] at nx2
            exact b_X12_orderOfClass_75 nx2
        · rw [if_neg c2] at he ⊢
          exact ⟨⟨by decide, by decide⟩, fun _ => b_X12_orderOfClass_59 ⟨⟨by decide, by decide⟩, fun _ => b_X12_orderOfClass_74 (b_X12_orderOfClass_75 (stop v Z2 he I2)), fun cc => absurd rfl cc⟩, fun cc => absurd rfl cc⟩
      · rw [if_neg c1] at he ⊢
        exact stop v Z1 he hI
  -- the outer loop
  have lp : ∀ (m : Nat) (q v : Int) (Z1 : Zt), 2 ≤ q → q + m = 602 → 1 ≤ v → v ≤ 579 → I Z1 → oqA p F A m q v = R → V mX12_orderOfClass k n 7 [some (r_ b), some (i_ (c' : Int)), some (i_ v), some (i_ q), none] [] x Z1 Q := by
    intro m
    induction m with
    | zero =>
      intro q v Z1 h1 h2 h3 h4 hI he
      have he : v = R := he
      rw [← he] at h
      exact b_X12_orderOfClass_7 ⟨⟨by omega, by omega⟩, ⟨by omega, by omega⟩, fun _ => h Z1 ⟨hI.1, hI.2.2⟩, fun cc => by omega⟩
    | succ m ih =>
      intro q v Z1 h1 h2 h3 h4 hI he
      unfold oqA at he
      by_cases c1 : q ≤ v
      · rw [if_pos c1] at he
        have tm : Int.tmod v q = v % q := Int.tmod_eq_emod_of_nonneg (by omega)
        have r9 := emr v (show 0 < q by omega)
        have hr := oqL_rg (p := p) (F := F) (A := A) h1 12 v h3
        have nx := lq q (oqL p F A q 12 v) h1 (by omega) (fun Z2 I2 => ih (q + 1) _ Z2 (by omega) (by omega) hr.1 (by omega) I2 he) 12 v Z1 h3 h4 (by omega) hI rfl
        refine b_X12_orderOfClass_7 ⟨⟨by omega, by omega⟩, ⟨by omega, by omega⟩, fun cc => by omega, fun _ => ⟨by omega, ?_⟩⟩
        rw [tm]
        refine ⟨⟨by omega, by omega⟩, fun c3 => ?_, fun c3 => ?_⟩
        · rw [if_neg c3] at nx
          exact b_X12_orderOfClass_23 nx
        · rw [if_pos c3] at nx
          exact b_X12_orderOfClass_23 nx
      · rw [if_neg c1] at he
        rw [← he] at h
        exact b_X12_orderOfClass_7 ⟨⟨by omega, by omega⟩, ⟨by omega, by omega⟩, fun _ => h Z1 ⟨hI.1, hI.2.2⟩, fun cc => by omega⟩
  exact b_X12_orderOfClass_0 o (lp 600 2 (Z b 36) Z (by decide) (by decide) hN.1 hN.2 ⟨hF, hK, CG.rf⟩ hR)
