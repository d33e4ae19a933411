/-! ===== the reader: the three sorts of lines, and the whole reading ===== -/
theorem KW.keepS {x : Wx} {Z : Zt} {a : Nat} {q : Rq} (ks : KS x) (o : Is8 x a) (h : KW x Z) : KW x (setS Z a q) := by
  have h0 : ∀ i : Nat, ∀ m : Nat, x.1 (x.2.2.2 i) = some (200, m) → x.2.2.2 i ≠ a ∧ x.2.2.2 i ≠ a + 1 := fun i m hm => ⟨fun e => (by rw [e, o.1] at hm; cases hm), fun e => (by rw [e, o.2.2] at hm; cases hm)⟩
  unfold KW
  rw [setS_ne Z q (h0 0 _ ks.1), setS_ne Z q (h0 1 _ ks.2.1), setS_ne Z q (h0 2 _ ks.2.2)]
  exact h
theorem KU.keepS {x : Wx} {Z : Zt} {a : Nat} {q : Rq} (kt : KT x) (o : Is8 x a) (h : KU x Z) : KU x (setS Z a q) := fun j hj i hi => by
  have hm := kt j hj
  rw [setS_ne Z q ⟨fun e => (by rw [e, o.1] at hm; cases hm), fun e => (by rw [e, o.2.2] at hm; cases hm)⟩]
  exact h j hj i hi
def clX (s : Nat → Int) (q : Rq) : Rq := if isW s q.1 10 = true then (prmF s (nxF s q.1), upf q.2 0 (numV s (nxF s q.1))) else if isW s q.1 11 = true then cnS s (nxF s q.1, q.2) else (stopF q.1, q.2)
def clS (s : Nat → Int) (q : Rq) : Rq := (clsF s (clX s q).1, (clX s q).2)
def eN (q : Rq) : Nat → Int := if q.2 0 < 8 then q.1 else noteF 3 q.1
def enF1 (s : Nat → Int) (q : Rq) : Nat → Int := nxF s (eN q)
def enF2 (s : Nat → Int) (q : Rq) : Nat → Int := numF s 12 (enF1 s q)
def enF3 (s : Nat → Int) (q : Rq) : Nat → Int := numF s 12 (enF2 s q)
def enS (s : Nat → Int) (q : Rq) : Rq := (sgnF s 5 (enF3 s q), if q.2 0 < 8 then upf (upf (upf (upf q.2 (2 + 3 * (q.2 0).toNat) (numV s (enF1 s q))) (3 + 3 * (q.2 0).toNat) (numV s (enF2 s q))) (4 + 3 * (q.2 0).toNat) (sgnV s (enF3 s q))) 0 (q.2 0 + 1) else q.2)
def smX (s : Nat → Int) (q : Rq) : Rq := if isW s q.1 12 = true then (sgnF s 9 (nxF s q.1), upf q.2 1 (sgnV s (nxF s q.1))) else if isW s q.1 13 = true then enS s q else (stopF q.1, q.2)
def smS (s : Nat → Int) (q : Rq) : Rq := (clsF s (smX s q).1, (smX s q).2)
def fnY (s : Nat → Int) (q : Rq) (m : Int) (b : Nat) : Rq := (clsF s (numF s 12 (numF s m (nxF s q.1))), if numV s (nxF s q.1) ≤ m then upf q.2 (b + (numV s (nxF s q.1)).toNat) (numV s (numF s m (nxF s q.1))) else q.2)
def fnS (s : Nat → Int) (q : Rq) : Rq := if isW s q.1 14 = true then fnY s q 2 5 else if isW s q.1 15 = true then fnY s q 4 0 else (stopF q.1, q.2)
theorem RInv.cnq {s : Nat → Int} {q : Rq} (h : RInv s q.1) : RInv s (cnS s q).1 := by
  unfold cnS
  split
  · exact RInv.cn 2 4 (RInv.cn 4 0 h)
  · exact RInv.cn 4 0 h
theorem dX8_curveLine_0 : decode cX8_curveLine 0 = .ok (.aload_n 0, 1) := by decide +kernel
theorem dX8_curveLine_1 : decode cX8_curveLine 1 = .ok (.ldc 63, 2) := by decide +kernel
theorem dX8_curveLine_3 : decode cX8_curveLine 3 = .ok (.invokevirtual 65, 3) := by decide +kernel
theorem dX8_curveLine_6 : decode cX8_curveLine 6 = .ok (.ifCond .eq 20, 3) := by decide +kernel
theorem dX8_curveLine_9 : decode cX8_curveLine 9 = .ok (.aload_n 0, 1) := by decide +kernel
theorem dX8_curveLine_10 : decode cX8_curveLine 10 = .ok (.invokevirtual 42, 3) := by decide +kernel
theorem dX8_curveLine_13 : decode cX8_curveLine 13 = .ok (.aload_n 0, 1) := by decide +kernel
theorem dX8_curveLine_14 : decode cX8_curveLine 14 = .ok (.getfield 9, 3) := by decide +kernel
theorem dX8_curveLine_17 : decode cX8_curveLine 17 = .ok (.iconst 0, 1) := by decide +kernel
theorem dX8_curveLine_18 : decode cX8_curveLine 18 = .ok (.aload_n 0, 1) := by decide +kernel
theorem dX8_curveLine_19 : decode cX8_curveLine 19 = .ok (.invokevirtual 69, 3) := by decide +kernel
theorem dX8_curveLine_22 : decode cX8_curveLine 22 = .ok (.iastore, 1) := by decide +kernel
theorem dX8_curveLine_23 : decode cX8_curveLine 23 = .ok (.goto 27, 3) := by decide +kernel
theorem dX8_curveLine_26 : decode cX8_curveLine 26 = .ok (.aload_n 0, 1) := by decide +kernel
theorem dX8_curveLine_27 : decode cX8_curveLine 27 = .ok (.ldc 73, 2) := by decide +kernel
theorem dX8_curveLine_29 : decode cX8_curveLine 29 = .ok (.invokevirtual 65, 3) := by decide +kernel
theorem dX8_curveLine_32 : decode cX8_curveLine 32 = .ok (.ifCond .eq 14, 3) := by decide +kernel
theorem dX8_curveLine_35 : decode cX8_curveLine 35 = .ok (.aload_n 0, 1) := by decide +kernel
theorem dX8_curveLine_36 : decode cX8_curveLine 36 = .ok (.invokevirtual 42, 3) := by decide +kernel
theorem dX8_curveLine_39 : decode cX8_curveLine 39 = .ok (.aload_n 0, 1) := by decide +kernel
theorem dX8_curveLine_40 : decode cX8_curveLine 40 = .ok (.invokevirtual 75, 3) := by decide +kernel
theorem dX8_curveLine_43 : decode cX8_curveLine 43 = .ok (.goto 7, 3) := by decide +kernel
theorem dX8_curveLine_46 : decode cX8_curveLine 46 = .ok (.aload_n 0, 1) := by decide +kernel
theorem dX8_curveLine_47 : decode cX8_curveLine 47 = .ok (.invokevirtual 78, 3) := by decide +kernel
theorem dX8_curveLine_50 : decode cX8_curveLine 50 = .ok (.aload_n 0, 1) := by decide +kernel
theorem dX8_curveLine_51 : decode cX8_curveLine 51 = .ok (.invokevirtual 81, 3) := by decide +kernel
theorem dX8_curveLine_54 : decode cX8_curveLine 54 = .ok (.return_, 1) := by decide +kernel
set_option maxRecDepth 20000 in
theorem b_X8_curveLine_0 {k n : Nat} {x : Wx} {Z : Zt} {Q : Option Value → Wx → Zt → Prop} {a0 : Nat} {a0_tape : Nat} (r_a0_tape : x.2.1 a0 3 = some a0_tape) (o_a0 : Is8 x a0) (s_a0_tape : x.1 a0_tape = some (101, 600))
    (h : KT x ∧ KU x Z ∧ RInv (Z a0_tape) (Z a0) ∧ BR (Z a0_tape) ∧ (Rg (bI (isW (Z a0_tape) (Z a0) 10)) ∧ (((bI (isW (Z a0_tape) (Z a0) 10) = 0) → (Rg (bI (isW (Z a0_tape) (Z a0) 11)) ∧ (((bI (isW (Z a0_tape) (Z a0) 11) = 0) → (Rg (Z a0 1) ∧ (∀ Z1 : Zt, Z1 = setR Z a0 (stopF (Z a0)) → (V mX8_curveLine k n 50 [some (r_ a0)] [] x Z1 Q)))) ∧ ((bI (isW (Z a0_tape) (Z a0) 11) ≠ 0) → (NInv (Z a0) ∧ (∀ Z2 : Zt, Z2 = setR Z a0 (nxF (Z a0_tape) (Z a0)) → (RInv (Z2 a0_tape) (Z2 a0) ∧ BR (Z2 a0_tape) ∧ (∀ Z3 : Zt, Z3 = setS Z2 a0 (cnS (Z2 a0_tape) (Z2 a0, Z2 (a0 + 1))) → (V mX8_curveLine k n 50 [some (r_ a0)] [] x Z3 Q))))))))) ∧ ((bI (isW (Z a0_tape) (Z a0) 10) ≠ 0) → (NInv (Z a0) ∧ (∀ Z4 : Zt, Z4 = setR Z a0 (nxF (Z a0_tape) (Z a0)) → (KS x ∧ KW x Z4 ∧ RInv (Z4 a0_tape) (Z4 a0) ∧ BR (Z4 a0_tape) ∧ (∀ Z5 : Zt, Z5 = setR Z4 a0 (prmF (Z4 a0_tape) (Z4 a0)) → (∀ Z6 : Zt, Z6 = up Z5 (a0 + 1) 0 (numV (Z4 a0_tape) (Z4 a0)) → (V mX8_curveLine k n 50 [some (r_ a0)] [] x Z6 Q)))))))))) :
    V mX8_curveLine k n 0 [some (r_ a0)] [] x Z Q :=
  V_aload_n dX8_curveLine_0 rfl (V_ldcS (j := (10, 63, "prime")) (by decide) rfl dX8_curveLine_1 (V_callV (k' := 0) (n' := 0) (t := 8) (q := (RX8, TX8, 8)) [r_ (x.2.2.2 10)] [] okX8_isWord o_a0.1 rfl rfl lm_8_65 liX8_isWord lqX8_isWord (Nat.le_of_ble_eq_true rfl) (Nat.le_of_ble_eq_true rfl) (Nat.le_of_ble_eq_true rfl) (cat_of rfl) (Nat.le_of_ble_eq_true rfl) (Nat.zero_le _) (Nat.zero_le _) rfl dX8_curveLine_3 (sp_X8_isWord o_a0 r_a0_tape s_a0_tape (j := (10, 63, "prime")) (by decide) h.1 h.2.1 h.2.2.1 h.2.2.2.1 (V_if_eq (tgt := 26) dX8_curveLine_6 rfl h.2.2.2.2.1 (fun c1 => V_aload_n dX8_curveLine_26 rfl (V_ldcS (j := (11, 73, "curve")) (by decide) rfl dX8_curveLine_27 (V_callV (k' := 0) (n' := 0) (t := 8) (q := (RX8, TX8, 8)) [r_ (x.2.2.2 11)] [] okX8_isWord o_a0.1 rfl rfl lm_8_65 liX8_isWord lqX8_isWord (Nat.le_of_ble_eq_true rfl) (Nat.le_of_ble_eq_true rfl) (Nat.le_of_ble_eq_true rfl) (cat_of rfl) (Nat.le_of_ble_eq_true rfl) (Nat.zero_le _) (Nat.zero_le _) rfl dX8_curveLine_29 (sp_X8_isWord o_a0 r_a0_tape s_a0_tape (j := (11, 73, "curve")) (by decide) h.1 h.2.1 h.2.2.1 h.2.2.2.1 (V_if_eq (tgt := 46) dX8_curveLine_32 rfl (h.2.2.2.2.2.1 c1).1 (fun c2 => V_aload_n dX8_curveLine_46 rfl (V_callV (k' := 0) (n' := 0) (t := 8) (q := (RX8, TX8, 8)) [] [] okX8_stop o_a0.1 rfl rfl lm_8_78 liX8_stop lqX8_stop (Nat.le_of_ble_eq_true rfl) (Nat.le_of_ble_eq_true rfl) (Nat.le_of_ble_eq_true rfl) (cat_of rfl) (Nat.le_of_ble_eq_true rfl) (Nat.zero_le _) (Nat.zero_le _) rfl dX8_curveLine_47 (sp_X8_stop o_a0 ((h.2.2.2.2.2.1 c1).2.1 c2).1 (V_nmZ (fun Z1 eZ1 => V_msk [true] rfl (((h.2.2.2.2.2.1 c1).2.1 c2).2 Z1 eZ1)))))) (fun c2 => V_aload_n dX8_curveLine_35 rfl (V_callV (k' := 0) (n' := 0) (t := 8) (q := (RX8, TX8, 8)) [] [] okX8_next o_a0.1 rfl rfl lm_8_42 liX8_next lqX8_next (Nat.le_of_ble_eq_true rfl) (Nat.le_of_ble_eq_true rfl) (Nat.le_of_ble_eq_true rfl) (cat_of rfl) (Nat.le_of_ble_eq_true rfl) (Nat.zero_le _) (Nat.zero_le _) rfl dX8_curveLine_36 (sp_X8_next o_a0 r_a0_tape s_a0_tape ((h.2.2.2.2.2.1 c1).2.2 c2).1 h.2.2.2.1 (V_nmZ (fun Z2 eZ2 => V_aload_n dX8_curveLine_39 rfl (V_callV (k' := 0) (n' := 0) (t := 8) (q := (RX8, TX8, 8)) [] [] okX8_curveNumbers o_a0.1 rfl rfl lm_8_75 liX8_curveNumbers lqX8_curveNumbers (Nat.le_of_ble_eq_true rfl) (Nat.le_of_ble_eq_true rfl) (Nat.le_of_ble_eq_true rfl) (cat_of rfl) (Nat.le_of_ble_eq_true rfl) (Nat.zero_le _) (Nat.zero_le _) rfl dX8_curveLine_40 (sp_X8_curveNumbers o_a0 r_a0_tape s_a0_tape (((h.2.2.2.2.2.1 c1).2.2 c2).2 Z2 eZ2).1 (((h.2.2.2.2.2.1 c1).2.2 c2).2 Z2 eZ2).2.1 (V_nmZ (fun Z3 eZ3 => V_goto (tgt := 50) dX8_curveLine_43 rfl (V_msk [true] rfl ((((h.2.2.2.2.2.1 c1).2.2 c2).2 Z2 eZ2).2.2 Z3 eZ3)))))))))))))))) (fun c1 => V_aload_n dX8_curveLine_9 rfl (V_callV (k' := 0) (n' := 0) (t := 8) (q := (RX8, TX8, 8)) [] [] okX8_next o_a0.1 rfl rfl lm_8_42 liX8_next lqX8_next (Nat.le_of_ble_eq_true rfl) (Nat.le_of_ble_eq_true rfl) (Nat.le_of_ble_eq_true rfl) (cat_of rfl) (Nat.le_of_ble_eq_true rfl) (Nat.zero_le _) (Nat.zero_le _) rfl dX8_curveLine_10 (sp_X8_next o_a0 r_a0_tape s_a0_tape (h.2.2.2.2.2.2 c1).1 h.2.2.2.1 (V_nmZ (fun Z4 eZ4 => V_aload_n dX8_curveLine_13 rfl (G_8_0 o_a0.1 o_a0.2.1 lf_8_9 dX8_curveLine_14 (V_iconst dX8_curveLine_17 (V_aload_n dX8_curveLine_18 rfl (V_callV (k' := 0) (n' := 0) (t := 8) (q := (RX8, TX8, 8)) [] [i_ 0, r_ (a0 + 1)] okX8_primeNumber o_a0.1 rfl rfl lm_8_69 liX8_primeNumber lqX8_primeNumber (Nat.le_of_ble_eq_true rfl) (Nat.le_of_ble_eq_true rfl) (Nat.le_of_ble_eq_true rfl) (cat_of rfl) (Nat.le_of_ble_eq_true rfl) (Nat.zero_le _) (Nat.zero_le _) rfl dX8_curveLine_19 (sp_X8_primeNumber o_a0 r_a0_tape s_a0_tape ((h.2.2.2.2.2.2 c1).2 Z4 eZ4).1 ((h.2.2.2.2.2.2 c1).2 Z4 eZ4).2.1 ((h.2.2.2.2.2.2 c1).2 Z4 eZ4).2.2.1 ((h.2.2.2.2.2.2 c1).2 Z4 eZ4).2.2.2.1 (V_nmZ (fun Z5 eZ5 => V_iast (t := 100) o_a0.2.2 (by decide) (by decide) rfl (by decide) (by decide) (Nat.le_of_ble_eq_true rfl) dX8_curveLine_22 (V_nmZ (fun Z6 eZ6 => V_goto (tgt := 50) dX8_curveLine_23 rfl (V_msk [true] rfl ((((h.2.2.2.2.2.2 c1).2 Z4 eZ4).2.2.2.2 Z5 eZ5) Z6 eZ6))))))))))))))))))))
set_option maxRecDepth 20000 in
theorem b_X8_curveLine_50 {k n : Nat} {x : Wx} {Z : Zt} {Q : Option Value → Wx → Zt → Prop} {a0 : Nat} {a0_tape : Nat} (r_a0_tape : x.2.1 a0 3 = some a0_tape) (o_a0 : Is8 x a0) (s_a0_tape : x.1 a0_tape = some (101, 600))
    (h : RInv (Z a0_tape) (Z a0) ∧ BR (Z a0_tape) ∧ (∀ Z1 : Zt, Z1 = setR Z a0 (clsF (Z a0_tape) (Z a0)) → (Q none x Z1))) :
    V mX8_curveLine k n 50 [some (r_ a0)] [] x Z Q :=
  V_aload_n dX8_curveLine_50 rfl (V_callV (k' := 0) (n' := 0) (t := 8) (q := (RX8, TX8, 8)) [] [] okX8_closeLine o_a0.1 rfl rfl lm_8_81 liX8_closeLine lqX8_closeLine (Nat.le_of_ble_eq_true rfl) (Nat.le_of_ble_eq_true rfl) (Nat.le_of_ble_eq_true rfl) (cat_of rfl) (Nat.le_of_ble_eq_true rfl) (Nat.zero_le _) (Nat.zero_le _) rfl dX8_curveLine_51 (sp_X8_closeLine o_a0 r_a0_tape s_a0_tape h.1 h.2.1 (V_nmZ (fun Z1 eZ1 => V_ret dX8_curveLine_54 rfl (h.2.2 Z1 eZ1)))))
theorem dX8_entryLine_0 : decode cX8_entryLine 0 = .ok (.aload_n 0, 1) := by decide +kernel
theorem dX8_entryLine_1 : decode cX8_entryLine 1 = .ok (.getfield 9, 3) := by decide +kernel
theorem dX8_entryLine_4 : decode cX8_entryLine 4 = .ok (.iconst 0, 1) := by decide +kernel
theorem dX8_entryLine_5 : decode cX8_entryLine 5 = .ok (.iaload, 1) := by decide +kernel
theorem dX8_entryLine_6 : decode cX8_entryLine 6 = .ok (.istore_n 1, 1) := by decide +kernel
theorem dX8_entryLine_7 : decode cX8_entryLine 7 = .ok (.iload_n 1, 1) := by decide +kernel
theorem dX8_entryLine_8 : decode cX8_entryLine 8 = .ok (.bipush 8, 2) := by decide +kernel
theorem dX8_entryLine_10 : decode cX8_entryLine 10 = .ok (.if_icmp .ge 7, 3) := by decide +kernel
theorem dX8_entryLine_13 : decode cX8_entryLine 13 = .ok (.iconst 1, 1) := by decide +kernel
theorem dX8_entryLine_14 : decode cX8_entryLine 14 = .ok (.goto 4, 3) := by decide +kernel
theorem dX8_entryLine_17 : decode cX8_entryLine 17 = .ok (.iconst 0, 1) := by decide +kernel
theorem dX8_entryLine_18 : decode cX8_entryLine 18 = .ok (.istore_n 2, 1) := by decide +kernel
theorem dX8_entryLine_19 : decode cX8_entryLine 19 = .ok (.iload_n 2, 1) := by decide +kernel
theorem dX8_entryLine_20 : decode cX8_entryLine 20 = .ok (.ifCond .ne 8, 3) := by decide +kernel
theorem dX8_entryLine_23 : decode cX8_entryLine 23 = .ok (.aload_n 0, 1) := by decide +kernel
theorem dX8_entryLine_24 : decode cX8_entryLine 24 = .ok (.iconst 3, 1) := by decide +kernel
theorem dX8_entryLine_25 : decode cX8_entryLine 25 = .ok (.invokevirtual 98, 3) := by decide +kernel
theorem dX8_entryLine_28 : decode cX8_entryLine 28 = .ok (.aload_n 0, 1) := by decide +kernel
theorem dX8_entryLine_29 : decode cX8_entryLine 29 = .ok (.invokevirtual 42, 3) := by decide +kernel
theorem dX8_entryLine_32 : decode cX8_entryLine 32 = .ok (.aload_n 0, 1) := by decide +kernel
theorem dX8_entryLine_33 : decode cX8_entryLine 33 = .ok (.bipush 12, 2) := by decide +kernel
theorem dX8_entryLine_35 : decode cX8_entryLine 35 = .ok (.invokevirtual 84, 3) := by decide +kernel
theorem dX8_entryLine_38 : decode cX8_entryLine 38 = .ok (.istore_n 3, 1) := by decide +kernel
theorem dX8_entryLine_39 : decode cX8_entryLine 39 = .ok (.aload_n 0, 1) := by decide +kernel
theorem dX8_entryLine_40 : decode cX8_entryLine 40 = .ok (.bipush 12, 2) := by decide +kernel
theorem dX8_entryLine_42 : decode cX8_entryLine 42 = .ok (.invokevirtual 84, 3) := by decide +kernel
theorem dX8_entryLine_45 : decode cX8_entryLine 45 = .ok (.istore 4, 2) := by decide +kernel
theorem dX8_entryLine_47 : decode cX8_entryLine 47 = .ok (.aload_n 0, 1) := by decide +kernel
theorem dX8_entryLine_48 : decode cX8_entryLine 48 = .ok (.iconst 5, 1) := by decide +kernel
theorem dX8_entryLine_49 : decode cX8_entryLine 49 = .ok (.invokevirtual 90, 3) := by decide +kernel
theorem dX8_entryLine_52 : decode cX8_entryLine 52 = .ok (.istore 5, 2) := by decide +kernel
theorem dX8_entryLine_54 : decode cX8_entryLine 54 = .ok (.iload_n 2, 1) := by decide +kernel
theorem dX8_entryLine_55 : decode cX8_entryLine 55 = .ok (.ifCond .eq 49, 3) := by decide +kernel
theorem dX8_entryLine_58 : decode cX8_entryLine 58 = .ok (.iconst 2, 1) := by decide +kernel
theorem dX8_entryLine_59 : decode cX8_entryLine 59 = .ok (.iconst 3, 1) := by decide +kernel
theorem dX8_entryLine_60 : decode cX8_entryLine 60 = .ok (.iload_n 1, 1) := by decide +kernel
theorem dX8_entryLine_61 : decode cX8_entryLine 61 = .ok (.imul, 1) := by decide +kernel
theorem dX8_entryLine_62 : decode cX8_entryLine 62 = .ok (.iadd, 1) := by decide +kernel
theorem dX8_entryLine_63 : decode cX8_entryLine 63 = .ok (.istore 6, 2) := by decide +kernel
theorem dX8_entryLine_65 : decode cX8_entryLine 65 = .ok (.aload_n 0, 1) := by decide +kernel
theorem dX8_entryLine_66 : decode cX8_entryLine 66 = .ok (.getfield 9, 3) := by decide +kernel
theorem dX8_entryLine_69 : decode cX8_entryLine 69 = .ok (.iload 6, 2) := by decide +kernel
theorem dX8_entryLine_71 : decode cX8_entryLine 71 = .ok (.iload_n 3, 1) := by decide +kernel
theorem dX8_entryLine_72 : decode cX8_entryLine 72 = .ok (.iastore, 1) := by decide +kernel
theorem dX8_entryLine_73 : decode cX8_entryLine 73 = .ok (.aload_n 0, 1) := by decide +kernel
theorem dX8_entryLine_74 : decode cX8_entryLine 74 = .ok (.getfield 9, 3) := by decide +kernel
theorem dX8_entryLine_77 : decode cX8_entryLine 77 = .ok (.iload 6, 2) := by decide +kernel
theorem dX8_entryLine_79 : decode cX8_entryLine 79 = .ok (.iconst 1, 1) := by decide +kernel
theorem dX8_entryLine_80 : decode cX8_entryLine 80 = .ok (.iadd, 1) := by decide +kernel
theorem dX8_entryLine_81 : decode cX8_entryLine 81 = .ok (.iload 4, 2) := by decide +kernel
theorem dX8_entryLine_83 : decode cX8_entryLine 83 = .ok (.iastore, 1) := by decide +kernel
theorem dX8_entryLine_84 : decode cX8_entryLine 84 = .ok (.aload_n 0, 1) := by decide +kernel
theorem dX8_entryLine_85 : decode cX8_entryLine 85 = .ok (.getfield 9, 3) := by decide +kernel
theorem dX8_entryLine_88 : decode cX8_entryLine 88 = .ok (.iload 6, 2) := by decide +kernel
theorem dX8_entryLine_90 : decode cX8_entryLine 90 = .ok (.iconst 2, 1) := by decide +kernel
theorem dX8_entryLine_91 : decode cX8_entryLine 91 = .ok (.iadd, 1) := by decide +kernel
theorem dX8_entryLine_92 : decode cX8_entryLine 92 = .ok (.iload 5, 2) := by decide +kernel
theorem dX8_entryLine_94 : decode cX8_entryLine 94 = .ok (.iastore, 1) := by decide +kernel
theorem dX8_entryLine_95 : decode cX8_entryLine 95 = .ok (.aload_n 0, 1) := by decide +kernel
theorem dX8_entryLine_96 : decode cX8_entryLine 96 = .ok (.getfield 9, 3) := by decide +kernel
theorem dX8_entryLine_99 : decode cX8_entryLine 99 = .ok (.iconst 0, 1) := by decide +kernel
theorem dX8_entryLine_100 : decode cX8_entryLine 100 = .ok (.iload_n 1, 1) := by decide +kernel
theorem dX8_entryLine_101 : decode cX8_entryLine 101 = .ok (.iconst 1, 1) := by decide +kernel
theorem dX8_entryLine_102 : decode cX8_entryLine 102 = .ok (.iadd, 1) := by decide +kernel
theorem dX8_entryLine_103 : decode cX8_entryLine 103 = .ok (.iastore, 1) := by decide +kernel
theorem dX8_entryLine_104 : decode cX8_entryLine 104 = .ok (.return_, 1) := by decide +kernel
set_option maxRecDepth 20000 in
theorem b_X8_entryLine_0 {k n : Nat} {x : Wx} {Z : Zt} {Q : Option Value → Wx → Zt → Prop} {a0 : Nat} (o_a0 : Is8 x a0)
    (h : Rg (Z (a0 + 1) 0) ∧ (((8 ≤ Z (a0 + 1) 0) → (V mX8_entryLine k n 18 [some (r_ a0), some (i_ (Z (a0 + 1) 0)), none, none, none, none, none] [i_ 0] x Z Q)) ∧ ((Z (a0 + 1) 0 < 8) → (V mX8_entryLine k n 18 [some (r_ a0), some (i_ (Z (a0 + 1) 0)), none, none, none, none, none] [i_ 1] x Z Q)))) :
    V mX8_entryLine k n 0 [some (r_ a0), none, none, none, none, none, none] [] x Z Q :=
  V_aload_n dX8_entryLine_0 rfl (G_8_0 o_a0.1 o_a0.2.1 lf_8_9 dX8_entryLine_1 (V_iconst dX8_entryLine_4 (V_iald (t := 100) o_a0.2.2 (by decide) rfl (by decide) (by decide) (Nat.le_of_ble_eq_true rfl) dX8_entryLine_5 (V_istore_n (lv' := [some (r_ a0), some (i_ (Z (a0 + 1) 0)), none, none, none, none, none]) dX8_entryLine_6 (Nat.le_of_ble_eq_true rfl) rfl (V_iload_n dX8_entryLine_7 rfl (V_bipush dX8_entryLine_8 rfl (V_icmp_ge (tgt := 17) dX8_entryLine_10 rfl h.1 (rg_c rfl) (fun c1 => V_iconst dX8_entryLine_17 (V_msk [true, true, false, false, false, false, false] rfl (h.2.1 c1))) (fun c1 => V_iconst dX8_entryLine_13 (V_goto (tgt := 18) dX8_entryLine_14 rfl (V_msk [true, true, false, false, false, false, false] rfl (h.2.2 c1)))))))))))
set_option maxRecDepth 20000 in
theorem b_X8_entryLine_18 {k n : Nat} {x : Wx} {Z : Zt} {Q : Option Value → Wx → Zt → Prop} {a0 : Nat} {v1 : Int} {t0 : Int} (o_a0 : Is8 x a0)
    (h : Rg t0 ∧ (((t0 ≠ 0) → (V mX8_entryLine k n 28 [some (r_ a0), some (i_ v1), some (i_ t0), none, none, none, none] [] x Z Q)) ∧ ((t0 = 0) → (Rg (Z a0 1) ∧ (∀ Z1 : Zt, Z1 = setR Z a0 (noteF (3 : Int) (Z a0)) → (V mX8_entryLine k n 28 [some (r_ a0), some (i_ v1), some (i_ t0), none, none, none, none] [] x Z1 Q)))))) :
    V mX8_entryLine k n 18 [some (r_ a0), some (i_ v1), none, none, none, none, none] [i_ t0] x Z Q :=
  V_istore_n (lv' := [some (r_ a0), some (i_ v1), some (i_ t0), none, none, none, none]) dX8_entryLine_18 (Nat.le_of_ble_eq_true rfl) rfl (V_iload_n dX8_entryLine_19 rfl (V_if_ne (tgt := 28) dX8_entryLine_20 rfl h.1 (fun c1 => V_msk [true, true, true, false, false, false, false] rfl (h.2.1 c1)) (fun c1 => V_aload_n dX8_entryLine_23 rfl (V_iconst dX8_entryLine_24 (V_callV (k' := 0) (n' := 0) (t := 8) (q := (RX8, TX8, 8)) [i_ 3] [] okX8_note o_a0.1 rfl rfl lm_8_98 liX8_note lqX8_note (Nat.le_of_ble_eq_true rfl) (Nat.le_of_ble_eq_true rfl) (Nat.le_of_ble_eq_true rfl) (cat_of rfl) (Nat.le_of_ble_eq_true rfl) (Nat.zero_le _) (Nat.zero_le _) rfl dX8_entryLine_25 (sp_X8_note o_a0 (h.2.2 c1).1 (V_nmZ (fun Z1 eZ1 => V_msk [true, true, true, false, false, false, false] rfl ((h.2.2 c1).2 Z1 eZ1)))))))))
set_option maxRecDepth 20000 in
theorem b_X8_entryLine_28 {k n : Nat} {x : Wx} {Z : Zt} {Q : Option Value → Wx → Zt → Prop} {a0 : Nat} {v1 : Int} {v2 : Int} {a0_tape : Nat} (r_a0_tape : x.2.1 a0 3 = some a0_tape) (o_a0 : Is8 x a0) (s_a0_tape : x.1 a0_tape = some (101, 600))
    (h : NInv (Z a0) ∧ BR (Z a0_tape) ∧ (∀ Z1 : Zt, Z1 = setR Z a0 (nxF (Z a0_tape) (Z a0)) → (Rg (12 : Int) ∧ RInv (Z1 a0_tape) (Z1 a0) ∧ BR (Z1 a0_tape) ∧ (∀ Z2 : Zt, Z2 = setR Z1 a0 (numF (Z1 a0_tape) (12 : Int) (Z1 a0)) → (RInv (Z2 a0_tape) (Z2 a0) ∧ BR (Z2 a0_tape) ∧ (∀ Z3 : Zt, Z3 = setR Z2 a0 (numF (Z2 a0_tape) (12 : Int) (Z2 a0)) → (Rg (5 : Int) ∧ RInv (Z3 a0_tape) (Z3 a0) ∧ BR (Z3 a0_tape) ∧ (∀ Z4 : Zt, Z4 = setR Z3 a0 (sgnF (Z3 a0_tape) (5 : Int) (Z3 a0)) → (Rg v2 ∧ (((v2 = 0) → (Q none x Z4)) ∧ ((v2 ≠ 0) → (0 ≤ 2 + (3 * v1) ∧ 2 + (3 * v1) < 26 ∧ (∀ Z5 : Zt, Z5 = up Z4 (a0 + 1) (2 + (3 * v1)).toNat (numV (Z1 a0_tape) (Z1 a0)) → (0 ≤ (2 + (3 * v1)) + 1 ∧ (2 + (3 * v1)) + 1 < 26 ∧ (∀ Z6 : Zt, Z6 = up Z5 (a0 + 1) ((2 + (3 * v1)) + 1).toNat (numV (Z2 a0_tape) (Z2 a0)) → (0 ≤ (2 + (3 * v1)) + 2 ∧ (2 + (3 * v1)) + 2 < 26 ∧ (∀ Z7 : Zt, Z7 = up Z6 (a0 + 1) ((2 + (3 * v1)) + 2).toNat (sgnV (Z3 a0_tape) (Z3 a0)) → (∀ Z8 : Zt, Z8 = up Z7 (a0 + 1) 0 (v1 + 1) → (Q none x Z8))))))))))))))))))) :
    V mX8_entryLine k n 28 [some (r_ a0), some (i_ v1), some (i_ v2), none, none, none, none] [] x Z Q :=
  V_aload_n dX8_entryLine_28 rfl (V_callV (k' := 0) (n' := 0) (t := 8) (q := (RX8, TX8, 8)) [] [] okX8_next o_a0.1 rfl rfl lm_8_42 liX8_next lqX8_next (Nat.le_of_ble_eq_true rfl) (Nat.le_of_ble_eq_true rfl) (Nat.le_of_ble_eq_true rfl) (cat_of rfl) (Nat.le_of_ble_eq_true rfl) (Nat.zero_le _) (Nat.zero_le _) rfl dX8_entryLine_29 (sp_X8_next o_a0 r_a0_tape s_a0_tape h.1 h.2.1 (V_nmZ (fun Z1 eZ1 => V_aload_n dX8_entryLine_32 rfl (V_bipush dX8_entryLine_33 rfl (V_callV (k' := 0) (n' := 0) (t := 8) (q := (RX8, TX8, 8)) [i_ 12] [] okX8_numberTo o_a0.1 rfl rfl lm_8_84 liX8_numberTo lqX8_numberTo (Nat.le_of_ble_eq_true rfl) (Nat.le_of_ble_eq_true rfl) (Nat.le_of_ble_eq_true rfl) (cat_of rfl) (Nat.le_of_ble_eq_true rfl) (Nat.zero_le _) (Nat.zero_le _) rfl dX8_entryLine_35 (sp_X8_numberTo o_a0 r_a0_tape s_a0_tape (h.2.2 Z1 eZ1).1 (h.2.2 Z1 eZ1).2.1 (h.2.2 Z1 eZ1).2.2.1 (V_nmZ (fun Z2 eZ2 => V_istore_n (lv' := [some (r_ a0), some (i_ v1), some (i_ v2), some (i_ (numV (Z1 a0_tape) (Z1 a0))), none, none, none]) dX8_entryLine_38 (Nat.le_of_ble_eq_true rfl) rfl (V_aload_n dX8_entryLine_39 rfl (V_bipush dX8_entryLine_40 rfl (V_callV (k' := 0) (n' := 0) (t := 8) (q := (RX8, TX8, 8)) [i_ 12] [] okX8_numberTo o_a0.1 rfl rfl lm_8_84 liX8_numberTo lqX8_numberTo (Nat.le_of_ble_eq_true rfl) (Nat.le_of_ble_eq_true rfl) (Nat.le_of_ble_eq_true rfl) (cat_of rfl) (Nat.le_of_ble_eq_true rfl) (Nat.zero_le _) (Nat.zero_le _) rfl dX8_entryLine_42 (sp_X8_numberTo o_a0 r_a0_tape s_a0_tape (h.2.2 Z1 eZ1).1 ((h.2.2 Z1 eZ1).2.2.2 Z2 eZ2).1 ((h.2.2 Z1 eZ1).2.2.2 Z2 eZ2).2.1 (V_nmZ (fun Z3 eZ3 => V_istore (lv' := [some (r_ a0), some (i_ v1), some (i_ v2), some (i_ (numV (Z1 a0_tape) (Z1 a0))), some (i_ (numV (Z2 a0_tape) (Z2 a0))), none, none]) dX8_entryLine_45 (Nat.le_of_ble_eq_true rfl) rfl (V_aload_n dX8_entryLine_47 rfl (V_iconst dX8_entryLine_48 (V_callV (k' := 0) (n' := 0) (t := 8) (q := (RX8, TX8, 8)) [i_ 5] [] okX8_signedTo o_a0.1 rfl rfl lm_8_90 liX8_signedTo lqX8_signedTo (Nat.le_of_ble_eq_true rfl) (Nat.le_of_ble_eq_true rfl) (Nat.le_of_ble_eq_true rfl) (cat_of rfl) (Nat.le_of_ble_eq_true rfl) (Nat.zero_le _) (Nat.zero_le _) rfl dX8_entryLine_49 (sp_X8_signedTo o_a0 r_a0_tape s_a0_tape (((h.2.2 Z1 eZ1).2.2.2 Z2 eZ2).2.2 Z3 eZ3).1 (((h.2.2 Z1 eZ1).2.2.2 Z2 eZ2).2.2 Z3 eZ3).2.1 (((h.2.2 Z1 eZ1).2.2.2 Z2 eZ2).2.2 Z3 eZ3).2.2.1 (V_nmZ (fun Z4 eZ4 => V_istore (lv' := [some (r_ a0), some (i_ v1), some (i_ v2), some (i_ (numV (Z1 a0_tape) (Z1 a0))), some (i_ (numV (Z2 a0_tape) (Z2 a0))), some (i_ (sgnV (Z3 a0_tape) (Z3 a0))), none]) dX8_entryLine_52 (Nat.le_of_ble_eq_true rfl) rfl (V_iload_n dX8_entryLine_54 rfl (V_if_eq (tgt := 104) dX8_entryLine_55 rfl ((((h.2.2 Z1 eZ1).2.2.2 Z2 eZ2).2.2 Z3 eZ3).2.2.2 Z4 eZ4).1 (fun c1 => V_ret dX8_entryLine_104 rfl (((((h.2.2 Z1 eZ1).2.2.2 Z2 eZ2).2.2 Z3 eZ3).2.2.2 Z4 eZ4).2.1 c1)) (fun c1 => V_iconst dX8_entryLine_58 (V_iconst dX8_entryLine_59 (V_iload_n dX8_entryLine_60 rfl (V_imul dX8_entryLine_61 (V_iadd dX8_entryLine_62 (V_istore (lv' := [some (r_ a0), some (i_ v1), some (i_ v2), some (i_ (numV (Z1 a0_tape) (Z1 a0))), some (i_ (numV (Z2 a0_tape) (Z2 a0))), some (i_ (sgnV (Z3 a0_tape) (Z3 a0))), some (i_ (2 + (3 * v1)))]) dX8_entryLine_63 (Nat.le_of_ble_eq_true rfl) rfl (V_aload_n dX8_entryLine_65 rfl (G_8_0 o_a0.1 o_a0.2.1 lf_8_9 dX8_entryLine_66 (V_iload dX8_entryLine_69 rfl (V_iload_n dX8_entryLine_71 rfl (V_iast (t := 100) o_a0.2.2 (by decide) (by decide) rfl (((((h.2.2 Z1 eZ1).2.2.2 Z2 eZ2).2.2 Z3 eZ3).2.2.2 Z4 eZ4).2.2 c1).1 (((((h.2.2 Z1 eZ1).2.2.2 Z2 eZ2).2.2 Z3 eZ3).2.2.2 Z4 eZ4).2.2 c1).2.1 (Nat.le_of_ble_eq_true rfl) dX8_entryLine_72 (V_nmZ (fun Z5 eZ5 => V_aload_n dX8_entryLine_73 rfl (G_8_0 o_a0.1 o_a0.2.1 lf_8_9 dX8_entryLine_74 (V_iload dX8_entryLine_77 rfl (V_iconst dX8_entryLine_79 (V_iadd dX8_entryLine_80 (V_iload dX8_entryLine_81 rfl (V_iast (t := 100) o_a0.2.2 (by decide) (by decide) rfl ((((((h.2.2 Z1 eZ1).2.2.2 Z2 eZ2).2.2 Z3 eZ3).2.2.2 Z4 eZ4).2.2 c1).2.2 Z5 eZ5).1 ((((((h.2.2 Z1 eZ1).2.2.2 Z2 eZ2).2.2 Z3 eZ3).2.2.2 Z4 eZ4).2.2 c1).2.2 Z5 eZ5).2.1 (Nat.le_of_ble_eq_true rfl) dX8_entryLine_83 (V_nmZ (fun Z6 eZ6 => V_aload_n dX8_entryLine_84 rfl (G_8_0 o_a0.1 o_a0.2.1 lf_8_9 dX8_entryLine_85 (V_iload dX8_entryLine_88 rfl (V_iconst dX8_entryLine_90 (V_iadd dX8_entryLine_91 (V_iload dX8_entryLine_92 rfl (V_iast (t := 100) o_a0.2.2 (by decide) (by decide) rfl (((((((h.2.2 Z1 eZ1).2.2.2 Z2 eZ2).2.2 Z3 eZ3).2.2.2 Z4 eZ4).2.2 c1).2.2 Z5 eZ5).2.2 Z6 eZ6).1 (((((((h.2.2 Z1 eZ1).2.2.2 Z2 eZ2).2.2 Z3 eZ3).2.2.2 Z4 eZ4).2.2 c1).2.2 Z5 eZ5).2.2 Z6 eZ6).2.1 (Nat.le_of_ble_eq_true rfl) dX8_entryLine_94 (V_nmZ (fun Z7 eZ7 => V_aload_n dX8_entryLine_95 rfl (G_8_0 o_a0.1 o_a0.2.1 lf_8_9 dX8_entryLine_96 (V_iconst dX8_entryLine_99 (V_iload_n dX8_entryLine_100 rfl (V_iconst dX8_entryLine_101 (V_iadd dX8_entryLine_102 (V_iast (t := 100) o_a0.2.2 (by decide) (by decide) rfl (by decide) (by decide) (Nat.le_of_ble_eq_true rfl) dX8_entryLine_103 (V_nmZ (fun Z8 eZ8 => V_ret dX8_entryLine_104 rfl (((((((((h.2.2 Z1 eZ1).2.2.2 Z2 eZ2).2.2 Z3 eZ3).2.2.2 Z4 eZ4).2.2 c1).2.2 Z5 eZ5).2.2 Z6 eZ6).2.2 Z7 eZ7) Z8 eZ8)))))))))))))))))))))))))))))))))))))))))))))))))))))))))))))
theorem sp_X8_curveLine {k n : Nat} {x : Wx} {Z : Zt} {Q : Option Value → Wx → Zt → Prop} {a tp : Nat} (o : Is8 x a) (hr : x.2.1 a 3 = some tp) (hs : x.1 tp = some (101, 600)) (ks : KS x) (kw : KW x Z) (kt : KT x) (ku : KU x Z) (hi : RInv (Z tp) (Z a)) (hb : BR (Z tp)) (h : Q none x (setS Z a (clS (Z tp) (Z a, Z (a + 1))))) : V mX8_curveLine k n 0 [some (r_ a)] [] x Z Q := by
  have at_tp : ∀ q : Rq, setS Z a q tp = Z tp := fun q => setS_ne Z q (rd_ne o hs)
  have tail : ∀ q : Rq, RInv (Z tp) q.1 → Q none x (setS Z a (clsF (Z tp) q.1, q.2)) → V mX8_curveLine k n 50 [some (r_ a)] [] x (setS Z a q) Q := fun q hq hQ => b_X8_curveLine_50 hr o hs (by rw [setS_a, at_tp]; exact ⟨hq, hb, fun Z1 e1 => by rw [e1, setR_setS]; exact hQ⟩)
  unfold clS clX at h
  refine b_X8_curveLine_0 hr o hs ⟨kt, ku, hi, hb, bI_rg _, fun c => ⟨bI_rg _, fun c2 => ⟨hi.f1, fun Z1 e1 => ?_⟩, fun c2 => ⟨hi.n, fun Z2 e2 => ?_⟩⟩, fun c => ⟨hi.n, fun Z4 e4 => ?_⟩⟩
  · rw [if_neg (by rw [bI_0 c]; decide), if_neg (by rw [bI_0 c2]; decide)] at h
    rw [e1, setR_asS]
    exact tail _ hi.stop h
  · rw [if_neg (by rw [bI_0 c]; decide), if_pos (bI_1 c2)] at h
    rw [setR_asS] at e2
    rw [e2, setS_a, setS_r, at_tp]
    refine ⟨hi.nx, hb, fun Z3 e3 => ?_⟩
    rw [e3, setS_two]
    exact tail _ (RInv.cnq (q := (_, _)) hi.nx) h
  · rw [if_pos (bI_1 c)] at h
    rw [setR_asS] at e4
    rw [e4, setS_a, at_tp]
    refine ⟨ks, kw.keepS ks o, hi.nx, hb, fun Z5 e5 Z6 e6 => ?_⟩
    rw [setR_setS] at e5
    rw [e6, e5, up_setS]
    exact tail _ hi.nx.prm h
theorem RInv.en0 {s : Nat → Int} {q : Rq} (h : RInv s q.1) : RInv s (eN q) := by
  unfold eN
  split
  · exact h
  · exact h.note (by decide)
theorem sp_X8_entryLine {k n : Nat} {x : Wx} {Z : Zt} {Q : Option Value → Wx → Zt → Prop} {a tp : Nat} (o : Is8 x a) (hr : x.2.1 a 3 = some tp) (hs : x.1 tp = some (101, 600)) (hi : RInv (Z tp) (Z a)) (hb : BR (Z tp)) (h0 : 0 ≤ Z (a + 1) 0 ∧ Z (a + 1) 0 ≤ 8) (h : Q none x (setS Z a (enS (Z tp) (Z a, Z (a + 1))))) : V mX8_entryLine k n 0 [some (r_ a), none, none, none, none, none, none] [] x Z Q := by
  have at_tp : ∀ q : Rq, setS Z a q tp = Z tp := fun q => setS_ne Z q (rd_ne o hs)
  have ie : RInv (Z tp) (eN (Z a, Z (a + 1))) := RInv.en0 (q := (Z a, Z (a + 1))) hi
  have body : ∀ (v2 : Int), (v2 = if Z (a + 1) 0 < 8 then 1 else 0) → V mX8_entryLine k n 28 [some (r_ a), some (i_ (Z (a + 1) 0)), some (i_ v2), none, none, none, none] [] x (setS Z a (eN (Z a, Z (a + 1)), Z (a + 1))) Q := by
    intro v2 hv
    refine b_X8_entryLine_28 hr o hs ?_
    rw [setS_a, at_tp]
    refine ⟨ie.n, hb, fun Z1 e1 => ?_⟩
    rw [setR_setS] at e1
    rw [e1, setS_a, at_tp]
    refine ⟨⟨by decide, by decide⟩, ie.nx, hb, fun Z2 e2 => ?_⟩
    rw [setR_setS] at e2
    rw [e2, setS_a, at_tp]
    refine ⟨ie.nx.num, hb, fun Z3 e3 => ?_⟩
    rw [setR_setS] at e3
    rw [e3, setS_a, at_tp]
    refine ⟨⟨by decide, by decide⟩, ie.nx.num.num, hb, fun Z4 e4 => ?_⟩
    rw [setR_setS] at e4
    unfold enS at h
    refine ⟨?_, fun c => ?_, fun c => ?_⟩
    · rw [hv]; split <;> exact ⟨by decide, by decide⟩
    · by_cases c8 : Z (a + 1) 0 < 8
      · rw [if_pos c8] at hv; omega
      · rw [if_neg c8] at h
        rw [e4]; exact h
    · by_cases c8 : Z (a + 1) 0 < 8
      · rw [if_pos c8] at h
        refine ⟨by omega, by omega, fun Z5 e5 => ⟨by omega, by omega, fun Z6 e6 => ⟨by omega, by omega, fun Z7 e7 Z8 e8 => ?_⟩⟩⟩
        rw [e4, up_setS, show (2 + 3 * Z (a + 1) 0).toNat = 2 + 3 * (Z (a + 1) 0).toNat by omega] at e5
        rw [e5, up_setS, show (2 + 3 * Z (a + 1) 0 + 1).toNat = 3 + 3 * (Z (a + 1) 0).toNat by omega] at e6
        rw [e6, up_setS, show (2 + 3 * Z (a + 1) 0 + 2).toNat = 4 + 3 * (Z (a + 1) 0).toNat by omega] at e7
        rw [e8, e7, up_setS]
        exact h
      · rw [if_neg c8] at hv; omega
  refine b_X8_entryLine_0 o ⟨⟨by omega, by omega⟩, fun c => b_X8_entryLine_18 o ⟨⟨by decide, by decide⟩, fun c2 => absurd rfl c2, fun _ => ⟨hi.f1, fun Z1 e1 => ?_⟩⟩, fun c => b_X8_entryLine_18 o ⟨⟨by decide, by decide⟩, fun _ => ?_, fun c2 => absurd c2 (by decide)⟩⟩
  · have := body 0 (by rw [if_neg (by omega)])
    unfold eN at this
    rw [if_neg (by show ¬ (Z (a + 1) 0 < 8); omega)] at this
    rw [e1, setR_asS]
    exact this
  · have := body 1 (by rw [if_pos c])
    unfold eN at this
    rw [if_pos (by show Z (a + 1) 0 < 8; exact c), setS_self] at this
    exact this
theorem dX8_sumLine_0 : decode cX8_sumLine 0 = .ok (.aload_n 0, 1) := by decide +kernel
theorem dX8_sumLine_1 : decode cX8_sumLine 1 = .ok (.ldc 88, 2) := by decide +kernel
theorem dX8_sumLine_3 : decode cX8_sumLine 3 = .ok (.invokevirtual 65, 3) := by decide +kernel
theorem dX8_sumLine_6 : decode cX8_sumLine 6 = .ok (.ifCond .eq 22, 3) := by decide +kernel
theorem dX8_sumLine_9 : decode cX8_sumLine 9 = .ok (.aload_n 0, 1) := by decide +kernel
theorem dX8_sumLine_10 : decode cX8_sumLine 10 = .ok (.invokevirtual 42, 3) := by decide +kernel
theorem dX8_sumLine_13 : decode cX8_sumLine 13 = .ok (.aload_n 0, 1) := by decide +kernel
theorem dX8_sumLine_14 : decode cX8_sumLine 14 = .ok (.getfield 9, 3) := by decide +kernel
theorem dX8_sumLine_17 : decode cX8_sumLine 17 = .ok (.iconst 1, 1) := by decide +kernel
theorem dX8_sumLine_18 : decode cX8_sumLine 18 = .ok (.aload_n 0, 1) := by decide +kernel
theorem dX8_sumLine_19 : decode cX8_sumLine 19 = .ok (.bipush 9, 2) := by decide +kernel
theorem dX8_sumLine_21 : decode cX8_sumLine 21 = .ok (.invokevirtual 90, 3) := by decide +kernel
theorem dX8_sumLine_24 : decode cX8_sumLine 24 = .ok (.iastore, 1) := by decide +kernel
theorem dX8_sumLine_25 : decode cX8_sumLine 25 = .ok (.goto 23, 3) := by decide +kernel
theorem dX8_sumLine_28 : decode cX8_sumLine 28 = .ok (.aload_n 0, 1) := by decide +kernel
theorem dX8_sumLine_29 : decode cX8_sumLine 29 = .ok (.ldc 93, 2) := by decide +kernel
theorem dX8_sumLine_31 : decode cX8_sumLine 31 = .ok (.invokevirtual 65, 3) := by decide +kernel
theorem dX8_sumLine_34 : decode cX8_sumLine 34 = .ok (.ifCond .eq 10, 3) := by decide +kernel
theorem dX8_sumLine_37 : decode cX8_sumLine 37 = .ok (.aload_n 0, 1) := by decide +kernel
theorem dX8_sumLine_38 : decode cX8_sumLine 38 = .ok (.invokevirtual 95, 3) := by decide +kernel
theorem dX8_sumLine_41 : decode cX8_sumLine 41 = .ok (.goto 7, 3) := by decide +kernel
theorem dX8_sumLine_44 : decode cX8_sumLine 44 = .ok (.aload_n 0, 1) := by decide +kernel
theorem dX8_sumLine_45 : decode cX8_sumLine 45 = .ok (.invokevirtual 78, 3) := by decide +kernel
theorem dX8_sumLine_48 : decode cX8_sumLine 48 = .ok (.aload_n 0, 1) := by decide +kernel
theorem dX8_sumLine_49 : decode cX8_sumLine 49 = .ok (.invokevirtual 81, 3) := by decide +kernel
theorem dX8_sumLine_52 : decode cX8_sumLine 52 = .ok (.return_, 1) := by decide +kernel
set_option maxRecDepth 20000 in
theorem b_X8_sumLine_0 {k n : Nat} {x : Wx} {Z : Zt} {Q : Option Value → Wx → Zt → Prop} {a0 : Nat} {a0_tape : Nat} (r_a0_tape : x.2.1 a0 3 = some a0_tape) (o_a0 : Is8 x a0) (s_a0_tape : x.1 a0_tape = some (101, 600))
    (h : KT x ∧ KU x Z ∧ RInv (Z a0_tape) (Z a0) ∧ BR (Z a0_tape) ∧ (Rg (bI (isW (Z a0_tape) (Z a0) 12)) ∧ (((bI (isW (Z a0_tape) (Z a0) 12) = 0) → (Rg (bI (isW (Z a0_tape) (Z a0) 13)) ∧ (((bI (isW (Z a0_tape) (Z a0) 13) = 0) → (Rg (Z a0 1) ∧ (∀ Z1 : Zt, Z1 = setR Z a0 (stopF (Z a0)) → (V mX8_sumLine k n 48 [some (r_ a0)] [] x Z1 Q)))) ∧ ((bI (isW (Z a0_tape) (Z a0) 13) ≠ 0) → ((0 ≤ Z (a0 + 1) 0 ∧ Z (a0 + 1) 0 ≤ 8) ∧ (∀ Z2 : Zt, Z2 = setS Z a0 (enS (Z a0_tape) (Z a0, Z (a0 + 1))) → (V mX8_sumLine k n 48 [some (r_ a0)] [] x Z2 Q))))))) ∧ ((bI (isW (Z a0_tape) (Z a0) 12) ≠ 0) → (NInv (Z a0) ∧ (∀ Z3 : Zt, Z3 = setR Z a0 (nxF (Z a0_tape) (Z a0)) → (Rg (9 : Int) ∧ RInv (Z3 a0_tape) (Z3 a0) ∧ BR (Z3 a0_tape) ∧ (∀ Z4 : Zt, Z4 = setR Z3 a0 (sgnF (Z3 a0_tape) (9 : Int) (Z3 a0)) → (∀ Z5 : Zt, Z5 = up Z4 (a0 + 1) 1 (sgnV (Z3 a0_tape) (Z3 a0)) → (V mX8_sumLine k n 48 [some (r_ a0)] [] x Z5 Q)))))))))) :
    V mX8_sumLine k n 0 [some (r_ a0)] [] x Z Q :=
  V_aload_n dX8_sumLine_0 rfl (V_ldcS (j := (12, 88, "far")) (by decide) rfl dX8_sumLine_1 (V_callV (k' := 0) (n' := 0) (t := 8) (q := (RX8, TX8, 8)) [r_ (x.2.2.2 12)] [] okX8_isWord o_a0.1 rfl rfl lm_8_65 liX8_isWord lqX8_isWord (Nat.le_of_ble_eq_true rfl) (Nat.le_of_ble_eq_true rfl) (Nat.le_of_ble_eq_true rfl) (cat_of rfl) (Nat.le_of_ble_eq_true rfl) (Nat.zero_le _) (Nat.zero_le _) rfl dX8_sumLine_3 (sp_X8_isWord o_a0 r_a0_tape s_a0_tape (j := (12, 88, "far")) (by decide) h.1 h.2.1 h.2.2.1 h.2.2.2.1 (V_if_eq (tgt := 28) dX8_sumLine_6 rfl h.2.2.2.2.1 (fun c1 => V_aload_n dX8_sumLine_28 rfl (V_ldcS (j := (13, 93, "at")) (by decide) rfl dX8_sumLine_29 (V_callV (k' := 0) (n' := 0) (t := 8) (q := (RX8, TX8, 8)) [r_ (x.2.2.2 13)] [] okX8_isWord o_a0.1 rfl rfl lm_8_65 liX8_isWord lqX8_isWord (Nat.le_of_ble_eq_true rfl) (Nat.le_of_ble_eq_true rfl) (Nat.le_of_ble_eq_true rfl) (cat_of rfl) (Nat.le_of_ble_eq_true rfl) (Nat.zero_le _) (Nat.zero_le _) rfl dX8_sumLine_31 (sp_X8_isWord o_a0 r_a0_tape s_a0_tape (j := (13, 93, "at")) (by decide) h.1 h.2.1 h.2.2.1 h.2.2.2.1 (V_if_eq (tgt := 44) dX8_sumLine_34 rfl (h.2.2.2.2.2.1 c1).1 (fun c2 => V_aload_n dX8_sumLine_44 rfl (V_callV (k' := 0) (n' := 0) (t := 8) (q := (RX8, TX8, 8)) [] [] okX8_stop o_a0.1 rfl rfl lm_8_78 liX8_stop lqX8_stop (Nat.le_of_ble_eq_true rfl) (Nat.le_of_ble_eq_true rfl) (Nat.le_of_ble_eq_true rfl) (cat_of rfl) (Nat.le_of_ble_eq_true rfl) (Nat.zero_le _) (Nat.zero_le _) rfl dX8_sumLine_45 (sp_X8_stop o_a0 ((h.2.2.2.2.2.1 c1).2.1 c2).1 (V_nmZ (fun Z1 eZ1 => V_msk [true] rfl (((h.2.2.2.2.2.1 c1).2.1 c2).2 Z1 eZ1)))))) (fun c2 => V_aload_n dX8_sumLine_37 rfl (V_callV (k' := 0) (n' := 0) (t := 8) (q := (RX8, TX8, 8)) [] [] okX8_entryLine o_a0.1 rfl rfl lm_8_95 liX8_entryLine lqX8_entryLine (Nat.le_of_ble_eq_true rfl) (Nat.le_of_ble_eq_true rfl) (Nat.le_of_ble_eq_true rfl) (cat_of rfl) (Nat.le_of_ble_eq_true rfl) (Nat.zero_le _) (Nat.zero_le _) rfl dX8_sumLine_38 (sp_X8_entryLine o_a0 r_a0_tape s_a0_tape h.2.2.1 h.2.2.2.1 ((h.2.2.2.2.2.1 c1).2.2 c2).1 (V_nmZ (fun Z2 eZ2 => V_goto (tgt := 48) dX8_sumLine_41 rfl (V_msk [true] rfl (((h.2.2.2.2.2.1 c1).2.2 c2).2 Z2 eZ2)))))))))))) (fun c1 => V_aload_n dX8_sumLine_9 rfl (V_callV (k' := 0) (n' := 0) (t := 8) (q := (RX8, TX8, 8)) [] [] okX8_next o_a0.1 rfl rfl lm_8_42 liX8_next lqX8_next (Nat.le_of_ble_eq_true rfl) (Nat.le_of_ble_eq_true rfl) (Nat.le_of_ble_eq_true rfl) (cat_of rfl) (Nat.le_of_ble_eq_true rfl) (Nat.zero_le _) (Nat.zero_le _) rfl dX8_sumLine_10 (sp_X8_next o_a0 r_a0_tape s_a0_tape (h.2.2.2.2.2.2 c1).1 h.2.2.2.1 (V_nmZ (fun Z3 eZ3 => V_aload_n dX8_sumLine_13 rfl (G_8_0 o_a0.1 o_a0.2.1 lf_8_9 dX8_sumLine_14 (V_iconst dX8_sumLine_17 (V_aload_n dX8_sumLine_18 rfl (V_bipush dX8_sumLine_19 rfl (V_callV (k' := 0) (n' := 0) (t := 8) (q := (RX8, TX8, 8)) [i_ 9] [i_ 1, r_ (a0 + 1)] okX8_signedTo o_a0.1 rfl rfl lm_8_90 liX8_signedTo lqX8_signedTo (Nat.le_of_ble_eq_true rfl) (Nat.le_of_ble_eq_true rfl) (Nat.le_of_ble_eq_true rfl) (cat_of rfl) (Nat.le_of_ble_eq_true rfl) (Nat.zero_le _) (Nat.zero_le _) rfl dX8_sumLine_21 (sp_X8_signedTo o_a0 r_a0_tape s_a0_tape ((h.2.2.2.2.2.2 c1).2 Z3 eZ3).1 ((h.2.2.2.2.2.2 c1).2 Z3 eZ3).2.1 ((h.2.2.2.2.2.2 c1).2 Z3 eZ3).2.2.1 (V_nmZ (fun Z4 eZ4 => V_iast (t := 100) o_a0.2.2 (by decide) (by decide) rfl (by decide) (by decide) (Nat.le_of_ble_eq_true rfl) dX8_sumLine_24 (V_nmZ (fun Z5 eZ5 => V_goto (tgt := 48) dX8_sumLine_25 rfl (V_msk [true] rfl ((((h.2.2.2.2.2.2 c1).2 Z3 eZ3).2.2.2 Z4 eZ4) Z5 eZ5)))))))))))))))))))))
set_option maxRecDepth 20000 in
theorem b_X8_sumLine_48 {k n : Nat} {x : Wx} {Z : Zt} {Q : Option Value → Wx → Zt → Prop} {a0 : Nat} {a0_tape : Nat} (r_a0_tape : x.2.1 a0 3 = some a0_tape) (o_a0 : Is8 x a0) (s_a0_tape : x.1 a0_tape = some (101, 600))
    (h : RInv (Z a0_tape) (Z a0) ∧ BR (Z a0_tape) ∧ (∀ Z1 : Zt, Z1 = setR Z a0 (clsF (Z a0_tape) (Z a0)) → (Q none x Z1))) :
    V mX8_sumLine k n 48 [some (r_ a0)] [] x Z Q :=
  V_aload_n dX8_sumLine_48 rfl (V_callV (k' := 0) (n' := 0) (t := 8) (q := (RX8, TX8, 8)) [] [] okX8_closeLine o_a0.1 rfl rfl lm_8_81 liX8_closeLine lqX8_closeLine (Nat.le_of_ble_eq_true rfl) (Nat.le_of_ble_eq_true rfl) (Nat.le_of_ble_eq_true rfl) (cat_of rfl) (Nat.le_of_ble_eq_true rfl) (Nat.zero_le _) (Nat.zero_le _) rfl dX8_sumLine_49 (sp_X8_closeLine o_a0 r_a0_tape s_a0_tape h.1 h.2.1 (V_nmZ (fun Z1 eZ1 => V_ret dX8_sumLine_52 rfl (h.2.2 Z1 eZ1)))))
theorem dX8_functionLine_0 : decode cX8_functionLine 0 = .ok (.aload_n 0, 1) := by decide +kernel
theorem dX8_functionLine_1 : decode cX8_functionLine 1 = .ok (.ldc 101, 2) := by decide +kernel
theorem dX8_functionLine_3 : decode cX8_functionLine 3 = .ok (.invokevirtual 65, 3) := by decide +kernel
theorem dX8_functionLine_6 : decode cX8_functionLine 6 = .ok (.istore_n 1, 1) := by decide +kernel
theorem dX8_functionLine_7 : decode cX8_functionLine 7 = .ok (.iload_n 1, 1) := by decide +kernel
theorem dX8_functionLine_8 : decode cX8_functionLine 8 = .ok (.ifCond .ne 17, 3) := by decide +kernel
theorem dX8_functionLine_11 : decode cX8_functionLine 11 = .ok (.aload_n 0, 1) := by decide +kernel
theorem dX8_functionLine_12 : decode cX8_functionLine 12 = .ok (.ldc 103, 2) := by decide +kernel
theorem dX8_functionLine_14 : decode cX8_functionLine 14 = .ok (.invokevirtual 65, 3) := by decide +kernel
theorem dX8_functionLine_17 : decode cX8_functionLine 17 = .ok (.ifCond .ne 8, 3) := by decide +kernel
theorem dX8_functionLine_20 : decode cX8_functionLine 20 = .ok (.aload_n 0, 1) := by decide +kernel
theorem dX8_functionLine_21 : decode cX8_functionLine 21 = .ok (.invokevirtual 78, 3) := by decide +kernel
theorem dX8_functionLine_24 : decode cX8_functionLine 24 = .ok (.return_, 1) := by decide +kernel
theorem dX8_functionLine_25 : decode cX8_functionLine 25 = .ok (.aload_n 0, 1) := by decide +kernel
theorem dX8_functionLine_26 : decode cX8_functionLine 26 = .ok (.invokevirtual 42, 3) := by decide +kernel
theorem dX8_functionLine_29 : decode cX8_functionLine 29 = .ok (.iload_n 1, 1) := by decide +kernel
theorem dX8_functionLine_30 : decode cX8_functionLine 30 = .ok (.ifCond .eq 7, 3) := by decide +kernel
theorem dX8_functionLine_33 : decode cX8_functionLine 33 = .ok (.iconst 2, 1) := by decide +kernel
theorem dX8_functionLine_34 : decode cX8_functionLine 34 = .ok (.goto 4, 3) := by decide +kernel
theorem dX8_functionLine_37 : decode cX8_functionLine 37 = .ok (.iconst 4, 1) := by decide +kernel
theorem dX8_functionLine_38 : decode cX8_functionLine 38 = .ok (.istore_n 2, 1) := by decide +kernel
theorem dX8_functionLine_39 : decode cX8_functionLine 39 = .ok (.aload_n 0, 1) := by decide +kernel
theorem dX8_functionLine_40 : decode cX8_functionLine 40 = .ok (.iload_n 2, 1) := by decide +kernel
theorem dX8_functionLine_41 : decode cX8_functionLine 41 = .ok (.invokevirtual 84, 3) := by decide +kernel
theorem dX8_functionLine_44 : decode cX8_functionLine 44 = .ok (.istore_n 3, 1) := by decide +kernel
theorem dX8_functionLine_45 : decode cX8_functionLine 45 = .ok (.aload_n 0, 1) := by decide +kernel
theorem dX8_functionLine_46 : decode cX8_functionLine 46 = .ok (.bipush 12, 2) := by decide +kernel
theorem dX8_functionLine_48 : decode cX8_functionLine 48 = .ok (.invokevirtual 84, 3) := by decide +kernel
theorem dX8_functionLine_51 : decode cX8_functionLine 51 = .ok (.istore 4, 2) := by decide +kernel
theorem dX8_functionLine_53 : decode cX8_functionLine 53 = .ok (.aload_n 0, 1) := by decide +kernel
theorem dX8_functionLine_54 : decode cX8_functionLine 54 = .ok (.invokevirtual 81, 3) := by decide +kernel
theorem dX8_functionLine_57 : decode cX8_functionLine 57 = .ok (.iload_n 3, 1) := by decide +kernel
theorem dX8_functionLine_58 : decode cX8_functionLine 58 = .ok (.iload_n 2, 1) := by decide +kernel
theorem dX8_functionLine_59 : decode cX8_functionLine 59 = .ok (.if_icmp .gt 21, 3) := by decide +kernel
theorem dX8_functionLine_62 : decode cX8_functionLine 62 = .ok (.aload_n 0, 1) := by decide +kernel
theorem dX8_functionLine_63 : decode cX8_functionLine 63 = .ok (.getfield 9, 3) := by decide +kernel
theorem dX8_functionLine_66 : decode cX8_functionLine 66 = .ok (.iload_n 1, 1) := by decide +kernel
theorem dX8_functionLine_67 : decode cX8_functionLine 67 = .ok (.ifCond .eq 9, 3) := by decide +kernel
theorem dX8_functionLine_70 : decode cX8_functionLine 70 = .ok (.iconst 5, 1) := by decide +kernel
theorem dX8_functionLine_71 : decode cX8_functionLine 71 = .ok (.iload_n 3, 1) := by decide +kernel
theorem dX8_functionLine_72 : decode cX8_functionLine 72 = .ok (.iadd, 1) := by decide +kernel
theorem dX8_functionLine_73 : decode cX8_functionLine 73 = .ok (.goto 4, 3) := by decide +kernel
theorem dX8_functionLine_76 : decode cX8_functionLine 76 = .ok (.iload_n 3, 1) := by decide +kernel
theorem dX8_functionLine_77 : decode cX8_functionLine 77 = .ok (.iload 4, 2) := by decide +kernel
theorem dX8_functionLine_79 : decode cX8_functionLine 79 = .ok (.iastore, 1) := by decide +kernel
theorem dX8_functionLine_80 : decode cX8_functionLine 80 = .ok (.return_, 1) := by decide +kernel
set_option maxRecDepth 20000 in
theorem b_X8_functionLine_0 {k n : Nat} {x : Wx} {Z : Zt} {Q : Option Value → Wx → Zt → Prop} {a0 : Nat} {a0_tape : Nat} (r_a0_tape : x.2.1 a0 3 = some a0_tape) (o_a0 : Is8 x a0) (s_a0_tape : x.1 a0_tape = some (101, 600))
    (h : KT x ∧ KU x Z ∧ RInv (Z a0_tape) (Z a0) ∧ BR (Z a0_tape) ∧ (Rg (bI (isW (Z a0_tape) (Z a0) 14)) ∧ (((bI (isW (Z a0_tape) (Z a0) 14) ≠ 0) → (V mX8_functionLine k n 25 [some (r_ a0), some (i_ (bI (isW (Z a0_tape) (Z a0) 14))), none, none, none] [] x Z Q)) ∧ ((bI (isW (Z a0_tape) (Z a0) 14) = 0) → (Rg (bI (isW (Z a0_tape) (Z a0) 15)) ∧ (((bI (isW (Z a0_tape) (Z a0) 15) ≠ 0) → (V mX8_functionLine k n 25 [some (r_ a0), some (i_ (bI (isW (Z a0_tape) (Z a0) 14))), none, none, none] [] x Z Q)) ∧ ((bI (isW (Z a0_tape) (Z a0) 15) = 0) → (Rg (Z a0 1) ∧ (∀ Z1 : Zt, Z1 = setR Z a0 (stopF (Z a0)) → (Q none x Z1)))))))))) :
    V mX8_functionLine k n 0 [some (r_ a0), none, none, none, none] [] x Z Q :=
  V_aload_n dX8_functionLine_0 rfl (V_ldcS (j := (14, 101, "y")) (by decide) rfl dX8_functionLine_1 (V_callV (k' := 0) (n' := 0) (t := 8) (q := (RX8, TX8, 8)) [r_ (x.2.2.2 14)] [] okX8_isWord o_a0.1 rfl rfl lm_8_65 liX8_isWord lqX8_isWord (Nat.le_of_ble_eq_true rfl) (Nat.le_of_ble_eq_true rfl) (Nat.le_of_ble_eq_true rfl) (cat_of rfl) (Nat.le_of_ble_eq_true rfl) (Nat.zero_le _) (Nat.zero_le _) rfl dX8_functionLine_3 (sp_X8_isWord o_a0 r_a0_tape s_a0_tape (j := (14, 101, "y")) (by decide) h.1 h.2.1 h.2.2.1 h.2.2.2.1 (V_istore_n (lv' := [some (r_ a0), some (i_ (bI (isW (Z a0_tape) (Z a0) 14))), none, none, none]) dX8_functionLine_6 (Nat.le_of_ble_eq_true rfl) rfl (V_iload_n dX8_functionLine_7 rfl (V_if_ne (tgt := 25) dX8_functionLine_8 rfl h.2.2.2.2.1 (fun c1 => V_msk [true, true, false, false, false] rfl (h.2.2.2.2.2.1 c1)) (fun c1 => V_aload_n dX8_functionLine_11 rfl (V_ldcS (j := (15, 103, "x")) (by decide) rfl dX8_functionLine_12 (V_callV (k' := 0) (n' := 0) (t := 8) (q := (RX8, TX8, 8)) [r_ (x.2.2.2 15)] [] okX8_isWord o_a0.1 rfl rfl lm_8_65 liX8_isWord lqX8_isWord (Nat.le_of_ble_eq_true rfl) (Nat.le_of_ble_eq_true rfl) (Nat.le_of_ble_eq_true rfl) (cat_of rfl) (Nat.le_of_ble_eq_true rfl) (Nat.zero_le _) (Nat.zero_le _) rfl dX8_functionLine_14 (sp_X8_isWord o_a0 r_a0_tape s_a0_tape (j := (15, 103, "x")) (by decide) h.1 h.2.1 h.2.2.1 h.2.2.2.1 (V_if_ne (tgt := 25) dX8_functionLine_17 rfl (h.2.2.2.2.2.2 c1).1 (fun c2 => V_msk [true, true, false, false, false] rfl ((h.2.2.2.2.2.2 c1).2.1 c2)) (fun c2 => V_aload_n dX8_functionLine_20 rfl (V_callV (k' := 0) (n' := 0) (t := 8) (q := (RX8, TX8, 8)) [] [] okX8_stop o_a0.1 rfl rfl lm_8_78 liX8_stop lqX8_stop (Nat.le_of_ble_eq_true rfl) (Nat.le_of_ble_eq_true rfl) (Nat.le_of_ble_eq_true rfl) (cat_of rfl) (Nat.le_of_ble_eq_true rfl) (Nat.zero_le _) (Nat.zero_le _) rfl dX8_functionLine_21 (sp_X8_stop o_a0 ((h.2.2.2.2.2.2 c1).2.2 c2).1 (V_nmZ (fun Z1 eZ1 => V_ret dX8_functionLine_24 rfl (((h.2.2.2.2.2.2 c1).2.2 c2).2 Z1 eZ1)))))))))))))))))
set_option maxRecDepth 20000 in
theorem b_X8_functionLine_25 {k n : Nat} {x : Wx} {Z : Zt} {Q : Option Value → Wx → Zt → Prop} {a0 : Nat} {v1 : Int} {a0_tape : Nat} (r_a0_tape : x.2.1 a0 3 = some a0_tape) (o_a0 : Is8 x a0) (s_a0_tape : x.1 a0_tape = some (101, 600))
    (h : NInv (Z a0) ∧ BR (Z a0_tape) ∧ (∀ Z1 : Zt, Z1 = setR Z a0 (nxF (Z a0_tape) (Z a0)) → (Rg v1 ∧ (((v1 = 0) → (V mX8_functionLine k n 38 [some (r_ a0), some (i_ v1), none, none, none] [i_ 4] x Z1 Q)) ∧ ((v1 ≠ 0) → (V mX8_functionLine k n 38 [some (r_ a0), some (i_ v1), none, none, none] [i_ 2] x Z1 Q)))))) :
    V mX8_functionLine k n 25 [some (r_ a0), some (i_ v1), none, none, none] [] x Z Q :=
  V_aload_n dX8_functionLine_25 rfl (V_callV (k' := 0) (n' := 0) (t := 8) (q := (RX8, TX8, 8)) [] [] okX8_next o_a0.1 rfl rfl lm_8_42 liX8_next lqX8_next (Nat.le_of_ble_eq_true rfl) (Nat.le_of_ble_eq_true rfl) (Nat.le_of_ble_eq_true rfl) (cat_of rfl) (Nat.le_of_ble_eq_true rfl) (Nat.zero_le _) (Nat.zero_le _) rfl dX8_functionLine_26 (sp_X8_next o_a0 r_a0_tape s_a0_tape h.1 h.2.1 (V_nmZ (fun Z1 eZ1 => V_iload_n dX8_functionLine_29 rfl (V_if_eq (tgt := 37) dX8_functionLine_30 rfl (h.2.2 Z1 eZ1).1 (fun c1 => V_iconst dX8_functionLine_37 (V_msk [true, true, false, false, false] rfl ((h.2.2 Z1 eZ1).2.1 c1))) (fun c1 => V_iconst dX8_functionLine_33 (V_goto (tgt := 38) dX8_functionLine_34 rfl (V_msk [true, true, false, false, false] rfl ((h.2.2 Z1 eZ1).2.2 c1)))))))))
set_option maxRecDepth 20000 in
theorem b_X8_functionLine_38 {k n : Nat} {x : Wx} {Z : Zt} {Q : Option Value → Wx → Zt → Prop} {a0 : Nat} {v1 : Int} {t0 : Int} {a0_tape : Nat} (r_a0_tape : x.2.1 a0 3 = some a0_tape) (o_a0 : Is8 x a0) (s_a0_tape : x.1 a0_tape = some (101, 600))
    (h : Rg t0 ∧ RInv (Z a0_tape) (Z a0) ∧ BR (Z a0_tape) ∧ (∀ Z1 : Zt, Z1 = setR Z a0 (numF (Z a0_tape) t0 (Z a0)) → (Rg (12 : Int) ∧ RInv (Z1 a0_tape) (Z1 a0) ∧ BR (Z1 a0_tape) ∧ (∀ Z2 : Zt, Z2 = setR Z1 a0 (numF (Z1 a0_tape) (12 : Int) (Z1 a0)) → (RInv (Z2 a0_tape) (Z2 a0) ∧ BR (Z2 a0_tape) ∧ (∀ Z3 : Zt, Z3 = setR Z2 a0 (clsF (Z2 a0_tape) (Z2 a0)) → (Rg (numV (Z a0_tape) (Z a0)) ∧ (((t0 < numV (Z a0_tape) (Z a0)) → (Q none x Z3)) ∧ ((numV (Z a0_tape) (Z a0) ≤ t0) → (Rg v1 ∧ (((v1 = 0) → (V mX8_functionLine k n 77 [none, none, none, none, some (i_ (numV (Z1 a0_tape) (Z1 a0)))] [i_ (numV (Z a0_tape) (Z a0)), r_ (a0 + 1)] x Z3 Q)) ∧ ((v1 ≠ 0) → (V mX8_functionLine k n 77 [none, none, none, none, some (i_ (numV (Z1 a0_tape) (Z1 a0)))] [i_ (5 + (numV (Z a0_tape) (Z a0))), r_ (a0 + 1)] x Z3 Q))))))))))))) :
    V mX8_functionLine k n 38 [some (r_ a0), some (i_ v1), none, none, none] [i_ t0] x Z Q :=
  V_istore_n (lv' := [some (r_ a0), some (i_ v1), some (i_ t0), none, none]) dX8_functionLine_38 (Nat.le_of_ble_eq_true rfl) rfl (V_aload_n dX8_functionLine_39 rfl (V_iload_n dX8_functionLine_40 rfl (V_callV (k' := 0) (n' := 0) (t := 8) (q := (RX8, TX8, 8)) [i_ t0] [] okX8_numberTo o_a0.1 rfl rfl lm_8_84 liX8_numberTo lqX8_numberTo (Nat.le_of_ble_eq_true rfl) (Nat.le_of_ble_eq_true rfl) (Nat.le_of_ble_eq_true rfl) (cat_of rfl) (Nat.le_of_ble_eq_true rfl) (Nat.zero_le _) (Nat.zero_le _) rfl dX8_functionLine_41 (sp_X8_numberTo o_a0 r_a0_tape s_a0_tape h.1 h.2.1 h.2.2.1 (V_nmZ (fun Z1 eZ1 => V_istore_n (lv' := [some (r_ a0), some (i_ v1), some (i_ t0), some (i_ (numV (Z a0_tape) (Z a0))), none]) dX8_functionLine_44 (Nat.le_of_ble_eq_true rfl) rfl (V_aload_n dX8_functionLine_45 rfl (V_bipush dX8_functionLine_46 rfl (V_callV (k' := 0) (n' := 0) (t := 8) (q := (RX8, TX8, 8)) [i_ 12] [] okX8_numberTo o_a0.1 rfl rfl lm_8_84 liX8_numberTo lqX8_numberTo (Nat.le_of_ble_eq_true rfl) (Nat.le_of_ble_eq_true rfl) (Nat.le_of_ble_eq_true rfl) (cat_of rfl) (Nat.le_of_ble_eq_true rfl) (Nat.zero_le _) (Nat.zero_le _) rfl dX8_functionLine_48 (sp_X8_numberTo o_a0 r_a0_tape s_a0_tape (h.2.2.2 Z1 eZ1).1 (h.2.2.2 Z1 eZ1).2.1 (h.2.2.2 Z1 eZ1).2.2.1 (V_nmZ (fun Z2 eZ2 => V_istore (lv' := [some (r_ a0), some (i_ v1), some (i_ t0), some (i_ (numV (Z a0_tape) (Z a0))), some (i_ (numV (Z1 a0_tape) (Z1 a0)))]) dX8_functionLine_51 (Nat.le_of_ble_eq_true rfl) rfl (V_aload_n dX8_functionLine_53 rfl (V_callV (k' := 0) (n' := 0) (t := 8) (q := (RX8, TX8, 8)) [] [] okX8_closeLine o_a0.1 rfl rfl lm_8_81 liX8_closeLine lqX8_closeLine (Nat.le_of_ble_eq_true rfl) (Nat.le_of_ble_eq_true rfl) (Nat.le_of_ble_eq_true rfl) (cat_of rfl) (Nat.le_of_ble_eq_true rfl) (Nat.zero_le _) (Nat.zero_le _) rfl dX8_functionLine_54 (sp_X8_closeLine o_a0 r_a0_tape s_a0_tape ((h.2.2.2 Z1 eZ1).2.2.2 Z2 eZ2).1 ((h.2.2.2 Z1 eZ1).2.2.2 Z2 eZ2).2.1 (V_nmZ (fun Z3 eZ3 => V_iload_n dX8_functionLine_57 rfl (V_iload_n dX8_functionLine_58 rfl (V_icmp_gt (tgt := 80) dX8_functionLine_59 rfl (((h.2.2.2 Z1 eZ1).2.2.2 Z2 eZ2).2.2 Z3 eZ3).1 h.1 (fun c1 => V_ret dX8_functionLine_80 rfl ((((h.2.2.2 Z1 eZ1).2.2.2 Z2 eZ2).2.2 Z3 eZ3).2.1 c1)) (fun c1 => V_aload_n dX8_functionLine_62 rfl (G_8_0 o_a0.1 o_a0.2.1 lf_8_9 dX8_functionLine_63 (V_iload_n dX8_functionLine_66 rfl (V_if_eq (tgt := 76) dX8_functionLine_67 rfl ((((h.2.2.2 Z1 eZ1).2.2.2 Z2 eZ2).2.2 Z3 eZ3).2.2 c1).1 (fun c2 => V_iload_n dX8_functionLine_76 rfl (V_msk [false, false, false, false, true] rfl (((((h.2.2.2 Z1 eZ1).2.2.2 Z2 eZ2).2.2 Z3 eZ3).2.2 c1).2.1 c2))) (fun c2 => V_iconst dX8_functionLine_70 (V_iload_n dX8_functionLine_71 rfl (V_iadd dX8_functionLine_72 (V_goto (tgt := 77) dX8_functionLine_73 rfl (V_msk [false, false, false, false, true] rfl (((((h.2.2.2 Z1 eZ1).2.2.2 Z2 eZ2).2.2 Z3 eZ3).2.2 c1).2.2 c2)))))))))))))))))))))))))))))
set_option maxRecDepth 20000 in
theorem b_X8_functionLine_77 {k n : Nat} {x : Wx} {Z : Zt} {Q : Option Value → Wx → Zt → Prop} {v4 : Int} {b0_ : Nat} {t1 : Int} (s_b0 : x.1 b0_ = some (100, 26))
    (h : 0 ≤ t1 ∧ t1 < 26 ∧ (∀ Z1 : Zt, Z1 = up Z b0_ t1.toNat v4 → (Q none x Z1))) :
    V mX8_functionLine k n 77 [none, none, none, none, some (i_ v4)] [i_ t1, r_ b0_] x Z Q :=
  V_iload dX8_functionLine_77 rfl (V_iast (t := 100) s_b0 (by decide) (by decide) rfl h.1 h.2.1 (Nat.le_of_ble_eq_true rfl) dX8_functionLine_79 (V_nmZ (fun Z1 eZ1 => V_ret dX8_functionLine_80 rfl (h.2.2 Z1 eZ1))))
theorem RInv.enq {s : Nat → Int} {q : Rq} (h : RInv s q.1) : RInv s (enS s q).1 := (RInv.en0 h).nx.num.num.sgn
theorem sp_X8_sumLine {k n : Nat} {x : Wx} {Z : Zt} {Q : Option Value → Wx → Zt → Prop} {a tp : Nat} (o : Is8 x a) (hr : x.2.1 a 3 = some tp) (hs : x.1 tp = some (101, 600)) (kt : KT x) (ku : KU x Z) (hi : RInv (Z tp) (Z a)) (hb : BR (Z tp)) (h0 : 0 ≤ Z (a + 1) 0 ∧ Z (a + 1) 0 ≤ 8) (h : Q none x (setS Z a (smS (Z tp) (Z a, Z (a + 1))))) : V mX8_sumLine k n 0 [some (r_ a)] [] x Z Q := by
  have at_tp : ∀ q : Rq, setS Z a q tp = Z tp := fun q => setS_ne Z q (rd_ne o hs)
  have tail : ∀ q : Rq, RInv (Z tp) q.1 → Q none x (setS Z a (clsF (Z tp) q.1, q.2)) → V mX8_sumLine k n 48 [some (r_ a)] [] x (setS Z a q) Q := fun q hq hQ => b_X8_sumLine_48 hr o hs (by rw [setS_a, at_tp]; exact ⟨hq, hb, fun Z1 e1 => by rw [e1, setR_setS]; exact hQ⟩)
  unfold smS smX at h
  refine b_X8_sumLine_0 hr o hs ⟨kt, ku, hi, hb, bI_rg _, fun c => ⟨bI_rg _, fun c2 => ⟨hi.f1, fun Z1 e1 => ?_⟩, fun c2 => ⟨h0, fun Z2 e2 => ?_⟩⟩, fun c => ⟨hi.n, fun Z4 e4 => ?_⟩⟩
  · rw [if_neg (by rw [bI_0 c]; decide), if_neg (by rw [bI_0 c2]; decide)] at h
    rw [e1, setR_asS]
    exact tail _ hi.stop h
  · rw [if_neg (by rw [bI_0 c]; decide), if_pos (bI_1 c2)] at h
    rw [e2]
    exact tail _ (RInv.enq (q := (Z a, Z (a + 1))) hi) h
  · rw [if_pos (bI_1 c)] at h
    rw [setR_asS] at e4
    rw [e4, setS_a, at_tp]
    refine ⟨⟨by decide, by decide⟩, hi.nx, hb, fun Z5 e5 Z6 e6 => ?_⟩
    rw [setR_setS] at e5
    rw [e6, e5, up_setS]
    exact tail _ hi.nx.sgn h
theorem sp_X8_functionLine {k n : Nat} {x : Wx} {Z : Zt} {Q : Option Value → Wx → Zt → Prop} {a tp : Nat} (o : Is8 x a) (hr : x.2.1 a 3 = some tp) (hs : x.1 tp = some (101, 600)) (kt : KT x) (ku : KU x Z) (hi : RInv (Z tp) (Z a)) (hb : BR (Z tp)) (h : Q none x (setS Z a (fnS (Z tp) (Z a, Z (a + 1))))) : V mX8_functionLine k n 0 [some (r_ a), none, none, none, none] [] x Z Q := by
  have at_tp : ∀ q : Rq, setS Z a q tp = Z tp := fun q => setS_ne Z q (rd_ne o hs)
  have body : ∀ (v1 t0 : Int) (b : Nat), (v1 = 0 ∧ t0 = 4 ∧ b = 0 ∨ v1 = 1 ∧ t0 = 2 ∧ b = 5) → Q none x (setS Z a (fnY (Z tp) (Z a, Z (a + 1)) t0 b)) → V mX8_functionLine k n 25 [some (r_ a), some (i_ v1), none, none, none] [] x Z Q := by
    intro v1 t0 b hv hQ
    have hN := numV_rg (s := Z tp) hi.nx
    have go : V mX8_functionLine k n 38 [some (r_ a), some (i_ v1), none, none, none] [i_ t0] x (setR Z a (nxF (Z tp) (Z a))) Q := by
      refine b_X8_functionLine_38 hr o hs ?_
      rw [setR_asS, setS_a, at_tp]
      refine ⟨⟨by omega, by omega⟩, hi.nx, hb, fun Z1 e1 => ?_⟩
      rw [setR_setS] at e1
      rw [e1, setS_a, at_tp]
      refine ⟨⟨by decide, by decide⟩, hi.nx.num, hb, fun Z2 e2 => ?_⟩
      rw [setR_setS] at e2
      rw [e2, setS_a, at_tp]
      refine ⟨hi.nx.num.num, hb, fun Z3 e3 => ?_⟩
      rw [setR_setS] at e3
      unfold fnY at hQ
      rw [e3]
      dsimp only
      refine ⟨⟨by omega, by omega⟩, fun c => ?_, fun c => ⟨⟨by omega, by omega⟩, fun c2 => b_X8_functionLine_77 o.2.2 ⟨by omega, by omega, fun Z4 e4 => ?_⟩, fun c2 => b_X8_functionLine_77 o.2.2 ⟨by omega, by omega, fun Z4 e4 => ?_⟩⟩⟩
      · rw [if_neg (by show ¬ (numV (Z tp) (nxF (Z tp) (Z a)) ≤ t0); omega)] at hQ
        exact hQ
      · rw [if_pos (by show numV (Z tp) (nxF (Z tp) (Z a)) ≤ t0; exact c)] at hQ
        rw [e4, up_setS]
        rw [show b = 0 by omega, Nat.zero_add] at hQ
        exact hQ
      · rw [if_pos (by show numV (Z tp) (nxF (Z tp) (Z a)) ≤ t0; exact c)] at hQ
        rw [e4, up_setS, show (5 + numV (Z tp) (nxF (Z tp) (Z a))).toNat = 5 + (numV (Z tp) (nxF (Z tp) (Z a))).toNat by omega]
        rw [show b = 5 by omega] at hQ
        exact hQ
    refine b_X8_functionLine_25 hr o hs ⟨hi.n, hb, fun Z1 e1 => ⟨⟨by omega, by omega⟩, fun c => ?_, fun c => ?_⟩⟩
    · rw [show t0 = 4 by omega] at go
      rw [e1]; exact go
    · rw [show t0 = 2 by omega] at go
      rw [e1]; exact go
  unfold fnS at h
  refine b_X8_functionLine_0 hr o hs ⟨kt, ku, hi, hb, bI_rg _, fun c => ?_, fun c => ⟨bI_rg _, fun c2 => ?_, fun c2 => ⟨hi.f1, fun Z1 e1 => ?_⟩⟩⟩
  · rw [if_pos (bI_1 c)] at h
    refine body _ 2 5 (Or.inr ⟨?_, rfl, rfl⟩) h
    rw [bI_1 c]; rfl
  · rw [if_neg (by rw [bI_0 c]; decide), if_pos (bI_1 c2)] at h
    exact body _ 4 0 (Or.inl ⟨c, rfl, rfl⟩) h
  · rw [if_neg (by rw [bI_0 c]; decide), if_neg (by rw [bI_0 c2]; decide)] at h
    rw [e1, setR_asS]; exact h
theorem dX8_beginRow_0 : decode cX8_beginRow 0 = .ok (.aload_n 0, 1) := by decide +kernel
theorem dX8_beginRow_1 : decode cX8_beginRow 1 = .ok (.getfield 9, 3) := by decide +kernel
theorem dX8_beginRow_4 : decode cX8_beginRow 4 = .ok (.iconst 0, 1) := by decide +kernel
theorem dX8_beginRow_5 : decode cX8_beginRow 5 = .ok (.invokestatic 57, 3) := by decide +kernel
theorem dX8_beginRow_8 : decode cX8_beginRow 8 = .ok (.iload_n 1, 1) := by decide +kernel
theorem dX8_beginRow_9 : decode cX8_beginRow 9 = .ok (.ifCond .ne 32, 3) := by decide +kernel
theorem dX8_beginRow_12 : decode cX8_beginRow 12 = .ok (.aload_n 0, 1) := by decide +kernel
theorem dX8_beginRow_13 : decode cX8_beginRow 13 = .ok (.getfield 9, 3) := by decide +kernel
theorem dX8_beginRow_16 : decode cX8_beginRow 16 = .ok (.iconst 0, 1) := by decide +kernel
theorem dX8_beginRow_17 : decode cX8_beginRow 17 = .ok (.bipush 7, 2) := by decide +kernel
theorem dX8_beginRow_19 : decode cX8_beginRow 19 = .ok (.iastore, 1) := by decide +kernel
theorem dX8_beginRow_20 : decode cX8_beginRow 20 = .ok (.aload_n 0, 1) := by decide +kernel
theorem dX8_beginRow_21 : decode cX8_beginRow 21 = .ok (.getfield 9, 3) := by decide +kernel
theorem dX8_beginRow_24 : decode cX8_beginRow 24 = .ok (.iconst 1, 1) := by decide +kernel
theorem dX8_beginRow_25 : decode cX8_beginRow 25 = .ok (.iconst 3, 1) := by decide +kernel
theorem dX8_beginRow_26 : decode cX8_beginRow 26 = .ok (.iastore, 1) := by decide +kernel
theorem dX8_beginRow_27 : decode cX8_beginRow 27 = .ok (.aload_n 0, 1) := by decide +kernel
theorem dX8_beginRow_28 : decode cX8_beginRow 28 = .ok (.getfield 9, 3) := by decide +kernel
theorem dX8_beginRow_31 : decode cX8_beginRow 31 = .ok (.iconst 2, 1) := by decide +kernel
theorem dX8_beginRow_32 : decode cX8_beginRow 32 = .ok (.iconst 1, 1) := by decide +kernel
theorem dX8_beginRow_33 : decode cX8_beginRow 33 = .ok (.iastore, 1) := by decide +kernel
theorem dX8_beginRow_34 : decode cX8_beginRow 34 = .ok (.aload_n 0, 1) := by decide +kernel
theorem dX8_beginRow_35 : decode cX8_beginRow 35 = .ok (.getfield 9, 3) := by decide +kernel
theorem dX8_beginRow_38 : decode cX8_beginRow 38 = .ok (.iconst 5, 1) := by decide +kernel
theorem dX8_beginRow_39 : decode cX8_beginRow 39 = .ok (.iconst 1, 1) := by decide +kernel
theorem dX8_beginRow_40 : decode cX8_beginRow 40 = .ok (.iastore, 1) := by decide +kernel
theorem dX8_beginRow_41 : decode cX8_beginRow 41 = .ok (.return_, 1) := by decide +kernel
set_option maxRecDepth 20000 in
theorem b_X8_beginRow_0 {k n : Nat} {x : Wx} {Z : Zt} {Q : Option Value → Wx → Zt → Prop} {a0 : Nat} {v1 : Int} (o_a0 : Is8 x a0)
    (h : ∀ Z1 : Zt, Z1 = fillZ Z (a0 + 1) 26 (0 : Int) → (Rg v1 ∧ (((v1 ≠ 0) → (Q none x Z1)) ∧ ((v1 = 0) → (∀ Z2 : Zt, Z2 = up Z1 (a0 + 1) 0 7 → (∀ Z3 : Zt, Z3 = up Z2 (a0 + 1) 1 3 → (∀ Z4 : Zt, Z4 = up Z3 (a0 + 1) 2 1 → (∀ Z5 : Zt, Z5 = up Z4 (a0 + 1) 5 1 → (Q none x Z5))))))))) :
    V mX8_beginRow k n 0 [some (r_ a0), some (i_ v1)] [] x Z Q :=
  V_aload_n dX8_beginRow_0 rfl (G_8_0 o_a0.1 o_a0.2.1 lf_8_9 dX8_beginRow_1 (V_iconst dX8_beginRow_4 (V_callS (k' := 0) (n' := 0) [r_ (a0 + 1), i_ 0] [] okJ7_fill_53178 lm_8_57 lsJ7_fill_53178 (Nat.le_of_ble_eq_true rfl) (Nat.le_of_ble_eq_true rfl) (Nat.le_of_ble_eq_true rfl) (cat_of rfl) (Nat.le_of_ble_eq_true rfl) (Nat.zero_le _) (Nat.zero_le _) rfl dX8_beginRow_5 (sp_J7_fill_53178 o_a0.2.2 (Nat.le_of_ble_eq_true rfl)  (V_nmZ (fun Z1 eZ1 => V_iload_n dX8_beginRow_8 rfl (V_if_ne (tgt := 41) dX8_beginRow_9 rfl (h Z1 eZ1).1 (fun c1 => V_ret dX8_beginRow_41 rfl ((h Z1 eZ1).2.1 c1)) (fun c1 => V_aload_n dX8_beginRow_12 rfl (G_8_0 o_a0.1 o_a0.2.1 lf_8_9 dX8_beginRow_13 (V_iconst dX8_beginRow_16 (V_bipush dX8_beginRow_17 rfl (V_iast (t := 100) o_a0.2.2 (by decide) (by decide) rfl (by decide) (by decide) (Nat.le_of_ble_eq_true rfl) dX8_beginRow_19 (V_nmZ (fun Z2 eZ2 => V_aload_n dX8_beginRow_20 rfl (G_8_0 o_a0.1 o_a0.2.1 lf_8_9 dX8_beginRow_21 (V_iconst dX8_beginRow_24 (V_iconst dX8_beginRow_25 (V_iast (t := 100) o_a0.2.2 (by decide) (by decide) rfl (by decide) (by decide) (Nat.le_of_ble_eq_true rfl) dX8_beginRow_26 (V_nmZ (fun Z3 eZ3 => V_aload_n dX8_beginRow_27 rfl (G_8_0 o_a0.1 o_a0.2.1 lf_8_9 dX8_beginRow_28 (V_iconst dX8_beginRow_31 (V_iconst dX8_beginRow_32 (V_iast (t := 100) o_a0.2.2 (by decide) (by decide) rfl (by decide) (by decide) (Nat.le_of_ble_eq_true rfl) dX8_beginRow_33 (V_nmZ (fun Z4 eZ4 => V_aload_n dX8_beginRow_34 rfl (G_8_0 o_a0.1 o_a0.2.1 lf_8_9 dX8_beginRow_35 (V_iconst dX8_beginRow_38 (V_iconst dX8_beginRow_39 (V_iast (t := 100) o_a0.2.2 (by decide) (by decide) rfl (by decide) (by decide) (Nat.le_of_ble_eq_true rfl) dX8_beginRow_40 (V_nmZ (fun Z5 eZ5 => V_ret dX8_beginRow_41 rfl ((((((h Z1 eZ1).2.2 c1) Z2 eZ2) Z3 eZ3) Z4 eZ4) Z5 eZ5)))))))))))))))))))))))))))))))))
def begR (t : Int) (r : Nat → Int) : Nat → Int := fun i => if i < 26 then (if t = 0 then (if i = 0 then 7 else if i = 1 then 3 else if i = 2 then 1 else if i = 5 then 1 else 0) else 0) else r i
theorem sp_X8_beginRow {k n : Nat} {x : Wx} {Z : Zt} {Q : Option Value → Wx → Zt → Prop} {a : Nat} {t : Int} (o : Is8 x a) (ht : Rg t) (h : Q none x (setR Z (a + 1) (begR t (Z (a + 1))))) : V mX8_beginRow k n 0 [some (r_ a), some (i_ t)] [] x Z Q := by
  refine b_X8_beginRow_0 o fun Z1 e1 => ⟨ht, fun c => ?_, fun c Z2 e2 Z3 e3 Z4 e4 Z5 e5 => ?_⟩
  · have : Z1 = setR Z (a + 1) (begR t (Z (a + 1))) := by
      rw [e1]
      funext b i
      unfold fillZ setR begR
      by_cases hb : b = a + 1
      · rw [if_pos hb, hb]
        by_cases hi : i < 26
        · rw [if_pos ⟨rfl, hi⟩, if_pos hi, if_neg c]
        · rw [if_neg (fun e => hi e.2), if_neg hi]
      · rw [if_neg (fun e => hb e.1), if_neg hb]
    rw [this]; exact h
  · have : Z5 = setR Z (a + 1) (begR t (Z (a + 1))) := by
      rw [e5, e4, e3, e2, e1]
      funext b i
      unfold up fillZ setR begR
      by_cases hb : b = a + 1
      · rw [if_pos hb, if_pos c]
        by_cases h5 : i = 5
        · rw [if_pos ⟨hb, h5⟩, h5]; rfl
        · rw [if_neg (fun e => h5 e.2)]
          by_cases h2 : i = 2
          · rw [if_pos ⟨hb, h2⟩, h2]; rfl
          · rw [if_neg (fun e => h2 e.2)]
            by_cases h1 : i = 1
            · rw [if_pos ⟨hb, h1⟩, h1]; rfl
            · rw [if_neg (fun e => h1 e.2)]
              by_cases h0 : i = 0
              · rw [if_pos ⟨hb, h0⟩, h0]; rfl
              · rw [if_neg (fun e => h0 e.2)]
                by_cases hi : i < 26
                · rw [if_pos ⟨hb, hi⟩, if_pos hi, if_neg h0, if_neg h1, if_neg h2, if_neg h5]
                · rw [if_neg (fun e => hi e.2), if_neg hi, hb]
      · rw [if_neg (fun e => hb e.1), if_neg (fun e => hb e.1), if_neg (fun e => hb e.1), if_neg (fun e => hb e.1), if_neg (fun e => hb e.1), if_neg hb]
    rw [this]; exact h
theorem nx_4 (s f : Nat → Int) : nxF s f 4 = f 4 := by unfold nxF; split <;> rfl
theorem stop_4 (f : Nat → Int) : stopF f 4 = f 4 := by unfold stopF; split <;> rfl
theorem note_4 (w : Int) (f : Nat → Int) : noteF w f 4 = f 4 := by unfold noteF; split <;> rfl
theorem num_4 (s : Nat → Int) (m : Int) (f : Nat → Int) : numF s m f 4 = f 4 := by
  unfold numF
  split
  · rw [nx_4]
    split
    · rfl
    · exact note_4 2 f
  · exact stop_4 f
theorem prm_4 (s f : Nat → Int) : prmF s f 4 = f 4 := by
  unfold prmF
  split
  · rw [nx_4]
    split
    · rfl
    · exact note_4 2 f
  · exact stop_4 f
theorem cls_4 (s f : Nat → Int) : clsF s f 4 = f 4 := by
  unfold clsF
  split
  · exact nx_4 s f
  · exact stop_4 f
theorem sgn_4 (s : Nat → Int) (m : Int) (f : Nat → Int) : sgnF s m f 4 = f 4 := by
  unfold sgnF
  rw [num_4]
  split
  · exact nx_4 s f
  · rfl
theorem cn_4 (s : Nat → Int) : ∀ (m i : Nat) (q : Rq), (cnN s m i q).1 4 = q.1 4
  | 0, _, _ => rfl
  | m + 1, i, q => by
    unfold cnN
    rw [cn_4 s m (i + 1) (cnI s i q)]
    exact num_4 s 12 q.1
def lnS (s : Nat → Int) (t : Int) (q : Rq) : Rq := if t = 0 then clS s q else if t = 1 then smS s q else fnS s q
theorem lnS_4 (s : Nat → Int) (t : Int) (q : Rq) : (lnS s t q).1 4 = q.1 4 := by
  unfold lnS
  split
  · unfold clS clX
    dsimp only
    rw [cls_4]
    split
    · exact (prm_4 _ _).trans (nx_4 _ _)
    · split
      · unfold cnS
        split
        · dsimp only
          rw [cn_4, cn_4]
          exact nx_4 _ _
        · dsimp only
          rw [cn_4]
          exact nx_4 _ _
      · exact stop_4 _
  · split
    · unfold smS smX
      dsimp only
      rw [cls_4]
      split
      · exact (sgn_4 _ _ _).trans (nx_4 _ _)
      · split
        · unfold enS enF3 enF2 enF1 eN
          dsimp only
          rw [sgn_4, num_4, num_4, nx_4]
          split
          · rfl
          · exact note_4 _ _
        · exact stop_4 _
    · unfold fnS
      split
      · unfold fnY
        dsimp only
        rw [cls_4, num_4, num_4, nx_4]
      · split
        · unfold fnY
          dsimp only
          rw [cls_4, num_4, num_4, nx_4]
        · exact stop_4 _
def LInv (s : Nat → Int) (t : Int) (q : Rq) : Prop := RInv s q.1 ∧ (t = 1 → 0 ≤ q.2 0 ∧ q.2 0 ≤ 8)
theorem LInv.ln {s : Nat → Int} {t : Int} {q : Rq} (h : LInv s t q) : LInv s t (lnS s t q) := by
  have hi := h.1
  unfold lnS
  split
  · rename_i c
    refine ⟨?_, fun e => by omega⟩
    unfold clS clX
    refine RInv.cls ?_
    split
    · exact hi.nx.prm
    · split
      · exact RInv.cnq (q := (_, _)) hi.nx
      · exact hi.stop
  · split
    · rename_i c
      have h0 := h.2 c
      unfold smS smX
      refine ⟨RInv.cls ?_, fun _ => ?_⟩
      · split
        · exact hi.nx.sgn
        · split
          · exact RInv.enq hi
          · exact hi.stop
      · split
        · exact h0
        · split
          · unfold enS
            dsimp only
            split
            · show 0 ≤ q.2 0 + 1 ∧ q.2 0 + 1 ≤ 8
              omega
            · exact h0
          · exact h0
    · rename_i c
      refine ⟨?_, fun e => absurd e c⟩
      unfold fnS
      split
      · exact hi.nx.num.num.cls
      · split
        · exact hi.nx.num.num.cls
        · exact hi.stop
def rdq (s : Nat → Int) (t : Int) : Nat → Rq → Rq
  | 0, q => q
  | m + 1, q => if q.1 6 = 0 ∨ q.1 1 = 1 then q else rdq s t m (lnS s t q)
theorem LInv.rd {s : Nat → Int} {t : Int} : ∀ (m : Nat) {q : Rq}, LInv s t q → LInv s t (rdq s t m q)
  | 0, _, h => h
  | m + 1, q, h => by
    unfold rdq
    split
    · exact h
    · exact LInv.rd m h.ln
def f0 (f : Nat → Int) (n : Int) : Nat → Int := upf (upf (upf (upf f 4 n) 5 0) 1 0) 2 (-1)
/-- what the reader has read: sort t, n signs -/
def rdS (s : Nat → Int) (t n : Int) (q : Rq) : Rq := rdq s t (n.toNat + 1) (nxF s (f0 q.1 n), begR t q.2)
theorem dX8_read_0 : decode cX8_read 0 = .ok (.aload_n 0, 1) := by decide +kernel
theorem dX8_read_1 : decode cX8_read 1 = .ok (.iload_n 2, 1) := by decide +kernel
theorem dX8_read_2 : decode cX8_read 2 = .ok (.aload_n 0, 1) := by decide +kernel
theorem dX8_read_3 : decode cX8_read 3 = .ok (.getfield 15, 3) := by decide +kernel
theorem dX8_read_6 : decode cX8_read 6 = .ok (.arraylength, 1) := by decide +kernel
theorem dX8_read_7 : decode cX8_read 7 = .ok (.invokestatic 19, 3) := by decide +kernel
theorem dX8_read_10 : decode cX8_read 10 = .ok (.putfield 25, 3) := by decide +kernel
theorem dX8_read_13 : decode cX8_read 13 = .ok (.aload_n 0, 1) := by decide +kernel
theorem dX8_read_14 : decode cX8_read 14 = .ok (.iconst 0, 1) := by decide +kernel
theorem dX8_read_15 : decode cX8_read 15 = .ok (.putfield 29, 3) := by decide +kernel
theorem dX8_read_18 : decode cX8_read 18 = .ok (.aload_n 0, 1) := by decide +kernel
theorem dX8_read_19 : decode cX8_read 19 = .ok (.iconst 0, 1) := by decide +kernel
theorem dX8_read_20 : decode cX8_read 20 = .ok (.putfield 32, 3) := by decide +kernel
theorem dX8_read_23 : decode cX8_read 23 = .ok (.aload_n 0, 1) := by decide +kernel
theorem dX8_read_24 : decode cX8_read 24 = .ok (.iconst (-1), 1) := by decide +kernel
theorem dX8_read_25 : decode cX8_read 25 = .ok (.putfield 35, 3) := by decide +kernel
theorem dX8_read_28 : decode cX8_read 28 = .ok (.aload_n 0, 1) := by decide +kernel
theorem dX8_read_29 : decode cX8_read 29 = .ok (.iload_n 1, 1) := by decide +kernel
theorem dX8_read_30 : decode cX8_read 30 = .ok (.invokevirtual 38, 3) := by decide +kernel
theorem dX8_read_33 : decode cX8_read 33 = .ok (.aload_n 0, 1) := by decide +kernel
theorem dX8_read_34 : decode cX8_read 34 = .ok (.invokevirtual 42, 3) := by decide +kernel
theorem dX8_read_37 : decode cX8_read 37 = .ok (.iconst 0, 1) := by decide +kernel
theorem dX8_read_38 : decode cX8_read 38 = .ok (.istore_n 3, 1) := by decide +kernel
theorem dX8_read_39 : decode cX8_read 39 = .ok (.iload_n 3, 1) := by decide +kernel
theorem dX8_read_40 : decode cX8_read 40 = .ok (.aload_n 0, 1) := by decide +kernel
theorem dX8_read_41 : decode cX8_read 41 = .ok (.getfield 25, 3) := by decide +kernel
theorem dX8_read_44 : decode cX8_read 44 = .ok (.if_icmp .gt 51, 3) := by decide +kernel
theorem dX8_read_47 : decode cX8_read 47 = .ok (.aload_n 0, 1) := by decide +kernel
theorem dX8_read_48 : decode cX8_read 48 = .ok (.getfield 45, 3) := by decide +kernel
theorem dX8_read_51 : decode cX8_read 51 = .ok (.ifCond .eq 44, 3) := by decide +kernel
theorem dX8_read_54 : decode cX8_read 54 = .ok (.aload_n 0, 1) := by decide +kernel
theorem dX8_read_55 : decode cX8_read 55 = .ok (.getfield 32, 3) := by decide +kernel
theorem dX8_read_58 : decode cX8_read 58 = .ok (.iconst 1, 1) := by decide +kernel
theorem dX8_read_59 : decode cX8_read 59 = .ok (.if_icmp .eq 36, 3) := by decide +kernel
theorem dX8_read_62 : decode cX8_read 62 = .ok (.iload_n 1, 1) := by decide +kernel
theorem dX8_read_63 : decode cX8_read 63 = .ok (.ifCond .ne 10, 3) := by decide +kernel
theorem dX8_read_66 : decode cX8_read 66 = .ok (.aload_n 0, 1) := by decide +kernel
theorem dX8_read_67 : decode cX8_read 67 = .ok (.invokevirtual 48, 3) := by decide +kernel
theorem dX8_read_70 : decode cX8_read 70 = .ok (.goto 19, 3) := by decide +kernel
theorem dX8_read_73 : decode cX8_read 73 = .ok (.iload_n 1, 1) := by decide +kernel
theorem dX8_read_74 : decode cX8_read 74 = .ok (.iconst 1, 1) := by decide +kernel
theorem dX8_read_75 : decode cX8_read 75 = .ok (.if_icmp .ne 10, 3) := by decide +kernel
theorem dX8_read_78 : decode cX8_read 78 = .ok (.aload_n 0, 1) := by decide +kernel
theorem dX8_read_79 : decode cX8_read 79 = .ok (.invokevirtual 51, 3) := by decide +kernel
theorem dX8_read_82 : decode cX8_read 82 = .ok (.goto 7, 3) := by decide +kernel
theorem dX8_read_85 : decode cX8_read 85 = .ok (.aload_n 0, 1) := by decide +kernel
theorem dX8_read_86 : decode cX8_read 86 = .ok (.invokevirtual 54, 3) := by decide +kernel
theorem dX8_read_89 : decode cX8_read 89 = .ok (.iinc 3 1, 3) := by decide +kernel
theorem dX8_read_92 : decode cX8_read 92 = .ok (.goto (-53), 3) := by decide +kernel
theorem dX8_read_95 : decode cX8_read 95 = .ok (.return_, 1) := by decide +kernel
set_option maxRecDepth 20000 in
theorem b_X8_read_0 {k n : Nat} {x : Wx} {Z : Zt} {Q : Option Value → Wx → Zt → Prop} {a0 : Nat} {v1 : Int} {v2 : Int} {a0_tape : Nat} (r_a0_tape : x.2.1 a0 3 = some a0_tape) (o_a0 : Is8 x a0) (s_a0_tape : x.1 a0_tape = some (101, 600))
    (h : Rg v2 ∧ (∀ Z1 : Zt, Z1 = up Z a0 4 (min v2 600) → (∀ Z2 : Zt, Z2 = up Z1 a0 5 0 → (∀ Z3 : Zt, Z3 = up Z2 a0 1 0 → (∀ Z4 : Zt, Z4 = up Z3 a0 2 (-1) → (Rg v1 ∧ (∀ Z5 : Zt, Z5 = setR Z4 (a0 + 1) (begR v1 (Z4 (a0 + 1))) → (NInv (Z5 a0) ∧ BR (Z5 a0_tape) ∧ (∀ Z6 : Zt, Z6 = setR Z5 a0 (nxF (Z5 a0_tape) (Z5 a0)) → (V mX8_read k n 39 [some (r_ a0), some (i_ v1), none, some (i_ 0)] [] x Z6 Q)))))))))) :
    V mX8_read k n 0 [some (r_ a0), some (i_ v1), some (i_ v2), none] [] x Z Q :=
  V_aload_n dX8_read_0 rfl (V_iload_n dX8_read_1 rfl (V_aload_n dX8_read_2 rfl (G_8_3 o_a0.1 r_a0_tape lf_8_15 dX8_read_3 (V_alen (t := 101) s_a0_tape (by decide) (Nat.le_of_ble_eq_true rfl) dX8_read_6 (V_mmin lm_8_19 (Nat.le_of_ble_eq_true rfl) (Nat.le_of_ble_eq_true rfl) h.1 (rg_c rfl) dX8_read_7 (P_8_4 o_a0.1 lf_8_25 dX8_read_10 (V_nmZ (fun Z1 eZ1 => V_aload_n dX8_read_13 rfl (V_iconst dX8_read_14 (P_8_5 o_a0.1 lf_8_29 dX8_read_15 (V_nmZ (fun Z2 eZ2 => V_aload_n dX8_read_18 rfl (V_iconst dX8_read_19 (P_8_1 o_a0.1 lf_8_32 dX8_read_20 (V_nmZ (fun Z3 eZ3 => V_aload_n dX8_read_23 rfl (V_iconst dX8_read_24 (P_8_2 o_a0.1 lf_8_35 dX8_read_25 (V_nmZ (fun Z4 eZ4 => V_aload_n dX8_read_28 rfl (V_iload_n dX8_read_29 rfl (V_callV (k' := 0) (n' := 0) (t := 8) (q := (RX8, TX8, 8)) [i_ v1] [] okX8_beginRow o_a0.1 rfl rfl lm_8_38 liX8_beginRow lqX8_beginRow (Nat.le_of_ble_eq_true rfl) (Nat.le_of_ble_eq_true rfl) (Nat.le_of_ble_eq_true rfl) (cat_of rfl) (Nat.le_of_ble_eq_true rfl) (Nat.zero_le _) (Nat.zero_le _) rfl dX8_read_30 (sp_X8_beginRow o_a0 ((((h.2 Z1 eZ1) Z2 eZ2) Z3 eZ3) Z4 eZ4).1 (V_nmZ (fun Z5 eZ5 => V_aload_n dX8_read_33 rfl (V_callV (k' := 0) (n' := 0) (t := 8) (q := (RX8, TX8, 8)) [] [] okX8_next o_a0.1 rfl rfl lm_8_42 liX8_next lqX8_next (Nat.le_of_ble_eq_true rfl) (Nat.le_of_ble_eq_true rfl) (Nat.le_of_ble_eq_true rfl) (cat_of rfl) (Nat.le_of_ble_eq_true rfl) (Nat.zero_le _) (Nat.zero_le _) rfl dX8_read_34 (sp_X8_next o_a0 r_a0_tape s_a0_tape (((((h.2 Z1 eZ1) Z2 eZ2) Z3 eZ3) Z4 eZ4).2 Z5 eZ5).1 (((((h.2 Z1 eZ1) Z2 eZ2) Z3 eZ3) Z4 eZ4).2 Z5 eZ5).2.1 (V_nmZ (fun Z6 eZ6 => V_iconst dX8_read_37 (V_istore_n (lv' := [some (r_ a0), some (i_ v1), some (i_ v2), some (i_ 0)]) dX8_read_38 (Nat.le_of_ble_eq_true rfl) rfl (V_msk [true, true, false, true] rfl ((((((h.2 Z1 eZ1) Z2 eZ2) Z3 eZ3) Z4 eZ4).2 Z5 eZ5).2.2 Z6 eZ6))))))))))))))))))))))))))))))))
set_option maxRecDepth 20000 in
theorem b_X8_read_39 {k n : Nat} {x : Wx} {Z : Zt} {Q : Option Value → Wx → Zt → Prop} {a0 : Nat} {v1 : Int} {v3 : Int} {a0_tape : Nat} (r_a0_tape : x.2.1 a0 3 = some a0_tape) (o_a0 : Is8 x a0) (s_a0_tape : x.1 a0_tape = some (101, 600))
    (h : Rg v3 ∧ Rg (Z a0 4) ∧ (((Z a0 4 < v3) → (Q none x Z)) ∧ ((v3 ≤ Z a0 4) → (Rg (Z a0 6) ∧ (((Z a0 6 = 0) → (Q none x Z)) ∧ ((Z a0 6 ≠ 0) → (Rg (Z a0 1) ∧ (((Z a0 1 = 1) → (Q none x Z)) ∧ ((Z a0 1 ≠ 1) → (Rg v1 ∧ (((v1 ≠ 0) → (((v1 ≠ 1) → (KT x ∧ KU x Z ∧ RInv (Z a0_tape) (Z a0) ∧ BR (Z a0_tape) ∧ (∀ Z1 : Zt, Z1 = setS Z a0 (fnS (Z a0_tape) (Z a0, Z (a0 + 1))) → (V mX8_read k n 89 [some (r_ a0), some (i_ v1), none, some (i_ v3)] [] x Z1 Q)))) ∧ ((v1 = 1) → (KT x ∧ KU x Z ∧ RInv (Z a0_tape) (Z a0) ∧ BR (Z a0_tape) ∧ (0 ≤ Z (a0 + 1) 0 ∧ Z (a0 + 1) 0 ≤ 8) ∧ (∀ Z2 : Zt, Z2 = setS Z a0 (smS (Z a0_tape) (Z a0, Z (a0 + 1))) → (V mX8_read k n 89 [some (r_ a0), some (i_ v1), none, some (i_ v3)] [] x Z2 Q)))))) ∧ ((v1 = 0) → (KS x ∧ KW x Z ∧ KT x ∧ KU x Z ∧ RInv (Z a0_tape) (Z a0) ∧ BR (Z a0_tape) ∧ (∀ Z3 : Zt, Z3 = setS Z a0 (clS (Z a0_tape) (Z a0, Z (a0 + 1))) → (V mX8_read k n 89 [some (r_ a0), some (i_ v1), none, some (i_ v3)] [] x Z3 Q))))))))))))))) :
    V mX8_read k n 39 [some (r_ a0), some (i_ v1), none, some (i_ v3)] [] x Z Q :=
  V_iload_n dX8_read_39 rfl (V_aload_n dX8_read_40 rfl (G_8_4 o_a0.1 lf_8_25 dX8_read_41 (V_icmp_gt (tgt := 95) dX8_read_44 rfl h.1 h.2.1 (fun c1 => V_ret dX8_read_95 rfl (h.2.2.1 c1)) (fun c1 => V_aload_n dX8_read_47 rfl (G_8_6 o_a0.1 lf_8_45 dX8_read_48 (V_if_eq (tgt := 95) dX8_read_51 rfl (h.2.2.2 c1).1 (fun c2 => V_ret dX8_read_95 rfl ((h.2.2.2 c1).2.1 c2)) (fun c2 => V_aload_n dX8_read_54 rfl (G_8_1 o_a0.1 lf_8_32 dX8_read_55 (V_iconst dX8_read_58 (V_icmp_eq (tgt := 95) dX8_read_59 rfl ((h.2.2.2 c1).2.2 c2).1 (rg_c rfl) (fun c3 => V_ret dX8_read_95 rfl (((h.2.2.2 c1).2.2 c2).2.1 c3)) (fun c3 => V_iload_n dX8_read_62 rfl (V_if_ne (tgt := 73) dX8_read_63 rfl (((h.2.2.2 c1).2.2 c2).2.2 c3).1 (fun c4 => V_iload_n dX8_read_73 rfl (V_iconst dX8_read_74 (V_icmp_ne (tgt := 85) dX8_read_75 rfl (((h.2.2.2 c1).2.2 c2).2.2 c3).1 (rg_c rfl) (fun c5 => V_aload_n dX8_read_85 rfl (V_callV (k' := 0) (n' := 0) (t := 8) (q := (RX8, TX8, 8)) [] [] okX8_functionLine o_a0.1 rfl rfl lm_8_54 liX8_functionLine lqX8_functionLine (Nat.le_of_ble_eq_true rfl) (Nat.le_of_ble_eq_true rfl) (Nat.le_of_ble_eq_true rfl) (cat_of rfl) (Nat.le_of_ble_eq_true rfl) (Nat.zero_le _) (Nat.zero_le _) rfl dX8_read_86 (sp_X8_functionLine o_a0 r_a0_tape s_a0_tape (((((h.2.2.2 c1).2.2 c2).2.2 c3).2.1 c4).1 c5).1 (((((h.2.2.2 c1).2.2 c2).2.2 c3).2.1 c4).1 c5).2.1 (((((h.2.2.2 c1).2.2 c2).2.2 c3).2.1 c4).1 c5).2.2.1 (((((h.2.2.2 c1).2.2 c2).2.2 c3).2.1 c4).1 c5).2.2.2.1 (V_nmZ (fun Z1 eZ1 => V_msk [true, true, false, true] rfl ((((((h.2.2.2 c1).2.2 c2).2.2 c3).2.1 c4).1 c5).2.2.2.2 Z1 eZ1)))))) (fun c5 => V_aload_n dX8_read_78 rfl (V_callV (k' := 0) (n' := 0) (t := 8) (q := (RX8, TX8, 8)) [] [] okX8_sumLine o_a0.1 rfl rfl lm_8_51 liX8_sumLine lqX8_sumLine (Nat.le_of_ble_eq_true rfl) (Nat.le_of_ble_eq_true rfl) (Nat.le_of_ble_eq_true rfl) (cat_of rfl) (Nat.le_of_ble_eq_true rfl) (Nat.zero_le _) (Nat.zero_le _) rfl dX8_read_79 (sp_X8_sumLine o_a0 r_a0_tape s_a0_tape (((((h.2.2.2 c1).2.2 c2).2.2 c3).2.1 c4).2 c5).1 (((((h.2.2.2 c1).2.2 c2).2.2 c3).2.1 c4).2 c5).2.1 (((((h.2.2.2 c1).2.2 c2).2.2 c3).2.1 c4).2 c5).2.2.1 (((((h.2.2.2 c1).2.2 c2).2.2 c3).2.1 c4).2 c5).2.2.2.1 (((((h.2.2.2 c1).2.2 c2).2.2 c3).2.1 c4).2 c5).2.2.2.2.1 (V_nmZ (fun Z2 eZ2 => V_goto (tgt := 89) dX8_read_82 rfl (V_msk [true, true, false, true] rfl ((((((h.2.2.2 c1).2.2 c2).2.2 c3).2.1 c4).2 c5).2.2.2.2.2 Z2 eZ2)))))))))) (fun c4 => V_aload_n dX8_read_66 rfl (V_callV (k' := 0) (n' := 0) (t := 8) (q := (RX8, TX8, 8)) [] [] okX8_curveLine o_a0.1 rfl rfl lm_8_48 liX8_curveLine lqX8_curveLine (Nat.le_of_ble_eq_true rfl) (Nat.le_of_ble_eq_true rfl) (Nat.le_of_ble_eq_true rfl) (cat_of rfl) (Nat.le_of_ble_eq_true rfl) (Nat.zero_le _) (Nat.zero_le _) rfl dX8_read_67 (sp_X8_curveLine o_a0 r_a0_tape s_a0_tape ((((h.2.2.2 c1).2.2 c2).2.2 c3).2.2 c4).1 ((((h.2.2.2 c1).2.2 c2).2.2 c3).2.2 c4).2.1 ((((h.2.2.2 c1).2.2 c2).2.2 c3).2.2 c4).2.2.1 ((((h.2.2.2 c1).2.2 c2).2.2 c3).2.2 c4).2.2.2.1 ((((h.2.2.2 c1).2.2 c2).2.2 c3).2.2 c4).2.2.2.2.1 ((((h.2.2.2 c1).2.2 c2).2.2 c3).2.2 c4).2.2.2.2.2.1 (V_nmZ (fun Z3 eZ3 => V_goto (tgt := 89) dX8_read_70 rfl (V_msk [true, true, false, true] rfl (((((h.2.2.2 c1).2.2 c2).2.2 c3).2.2 c4).2.2.2.2.2.2 Z3 eZ3)))))))))))))))))))
set_option maxRecDepth 20000 in
theorem b_X8_read_89 {k n : Nat} {x : Wx} {Z : Zt} {Q : Option Value → Wx → Zt → Prop} {a0 : Nat} {v1 : Int} {v3 : Int} 
    (h : V mX8_read k n 39 [some (r_ a0), some (i_ v1), none, some (i_ (v3 + 1))] [] x Z Q) :
    V mX8_read k n 89 [some (r_ a0), some (i_ v1), none, some (i_ v3)] [] x Z Q :=
  V_iinc (lv' := [some (r_ a0), some (i_ v1), none, some (i_ (v3 + 1))]) dX8_read_89 rfl (Nat.le_of_ble_eq_true rfl) rfl (V_goto (tgt := 39) dX8_read_92 rfl (V_msk [true, true, false, true] rfl h))
theorem setS_eq (Z : Zt) (a : Nat) (f r : Nat → Int) : setR (setR Z a f) (a + 1) r = setS Z a (f, r) := rfl
theorem rd_in {s f : Nat → Int} {r : Nat → Int} {t n : Int} (hn : 0 ≤ n ∧ n ≤ 600) : LInv s t (nxF s (f0 f n), begR t r) := by
  refine ⟨NInv.nx (f := f0 f n) ⟨⟨hn.1, hn.2⟩, ⟨by show (0 : Int) ≤ 0; decide, hn.1⟩, ⟨by show (0 : Int) ≤ 0; decide, by show (0 : Int) ≤ 3; decide⟩⟩ (by show (0 : Int) ≠ 1; decide), fun e => ?_⟩
  subst e
  exact ⟨by show (0 : Int) ≤ 0; decide, by show (0 : Int) ≤ 8; decide⟩
theorem sp_X8_read {k n : Nat} {x : Wx} {Z : Zt} {Q : Option Value → Wx → Zt → Prop} {a tp : Nat} {t m : Int} (o : Is8 x a) (hr : x.2.1 a 3 = some tp) (hs : x.1 tp = some (101, 600)) (ks : KS x) (kw : KW x Z) (kt : KT x) (ku : KU x Z) (hb : BR (Z tp)) (ht : Rg t) (hm : 0 ≤ m ∧ m ≤ 600) (h : Q none x (setS Z a (rdS (Z tp) t m (Z a, Z (a + 1))))) : V mX8_read k n 0 [some (r_ a), some (i_ t), some (i_ m), none] [] x Z Q := by
  have at_tp : ∀ q : Rq, setS Z a q tp = Z tp := fun q => setS_ne Z q (rd_ne o hs)
  have lp : ∀ (m' : Nat) (v : Int) (q : Rq), 0 ≤ v → v + m' = m + 1 → q.1 4 = m → LInv (Z tp) t q → Q none x (setS Z a (rdq (Z tp) t m' q)) → V mX8_read k n 39 [some (r_ a), some (i_ t), none, some (i_ v)] [] x (setS Z a q) Q := by
    intro m'
    induction m' with
    | zero =>
      intro v q h0 hv h4 hq hQ
      refine b_X8_read_39 hr o hs ?_
      rw [setS_a, setS_r, at_tp, h4]
      exact ⟨⟨by omega, by omega⟩, ⟨by omega, by omega⟩, fun _ => hQ, fun c => by omega⟩
    | succ m' ih =>
      intro v q h0 hv h4 hq hQ
      unfold rdq at hQ
      have go : ¬ (q.1 6 = 0 ∨ q.1 1 = 1) → ∀ Z1 : Zt, Z1 = setS (setS Z a q) a (lnS (Z tp) t q) → V mX8_read k n 89 [some (r_ a), some (i_ t), none, some (i_ v)] [] x Z1 Q := by
        intro c Z1 e1
        rw [if_neg c] at hQ
        rw [e1, setS_two]
        exact b_X8_read_89 (ih (v + 1) (lnS (Z tp) t q) (by omega) (by omega) ((lnS_4 _ _ _).trans h4) hq.ln hQ)
      refine b_X8_read_39 hr o hs ?_
      rw [setS_a, setS_r, at_tp, h4]
      refine ⟨⟨by omega, by omega⟩, ⟨by omega, by omega⟩, fun c => by omega, fun _ => ⟨hq.1.f6, fun c => ?_, fun c => ⟨hq.1.f1, fun c2 => ?_, fun c2 => ⟨ht, fun c3 => ⟨fun c4 => ⟨kt, ku.keepS kt o, hq.1, hb, fun Z1 e1 => go (fun e => e.elim c c2) Z1 ?_⟩, fun c4 => ⟨kt, ku.keepS kt o, hq.1, hb, hq.2 c4, fun Z1 e1 => go (fun e => e.elim c c2) Z1 ?_⟩⟩, fun c3 => ⟨ks, kw.keepS ks o, kt, ku.keepS kt o, hq.1, hb, fun Z1 e1 => go (fun e => e.elim c c2) Z1 ?_⟩⟩⟩⟩⟩
      · rw [if_pos (Or.inl c)] at hQ
        exact hQ
      · rw [if_pos (Or.inr c2)] at hQ
        exact hQ
      · unfold lnS
        rw [if_neg c3, if_neg c4]; exact e1
      · unfold lnS
        rw [if_neg c3, if_pos c4]; exact e1
      · unfold lnS
        rw [if_pos c3]; exact e1
  refine b_X8_read_0 hr o hs ?_
  rw [show min m 600 = m by omega]
  refine ⟨⟨by omega, by omega⟩, fun Z1 e1 Z2 e2 Z3 e3 Z4 e4 => ⟨ht, fun Z5 e5 => ?_⟩⟩
  have e6 : Z4 = setR Z a (f0 (Z a) m) := by
    rw [e4, e3, e2, e1, up_asR Z, up_setR, up_setR, up_setR]; rfl
  have e7 : Z5 = setS Z a (f0 (Z a) m, begR t (Z (a + 1))) := by
    rw [e5, e6, setR_ne _ _ (show a + 1 ≠ a by omega)]; rfl
  have hin := rd_in (s := Z tp) (f := Z a) (r := Z (a + 1)) (t := t) hm
  rw [e7, setS_a, at_tp]
  refine ⟨⟨⟨hm.1, hm.2⟩, ⟨by show (0 : Int) ≤ 0; decide, hm.1⟩, ⟨by show (0 : Int) ≤ 0; decide, by show (0 : Int) ≤ 3; decide⟩⟩, hb, fun Z6 e8 => ?_⟩
  rw [setR_setS] at e8
  rw [e8]
  exact lp (m.toNat + 1) 0 _ (by decide) (by omega) ((nx_4 (Z tp) (f0 (Z a) m)).trans rfl) hin h
