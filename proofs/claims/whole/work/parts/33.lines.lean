/-! ===== the reader: numbers and lines ===== -/
def ipr (v : Int) : Bool := decide (v = 3 ∨ v = 5 ∨ v = 7 ∨ v = 11 ∨ v = 13)
def numV (s f : Nat → Int) : Int := if f 6 = 2 then valF s f else 0
def numF (s : Nat → Int) (m : Int) (f : Nat → Int) : Nat → Int := if f 6 = 2 then nxF s (if valF s f ≤ m then f else noteF 2 f) else stopF f
def prmF (s f : Nat → Int) : Nat → Int := if f 6 = 2 then nxF s (if ipr (valF s f) = true then f else noteF 2 f) else stopF f
def clsF (s f : Nat → Int) : Nat → Int := if f 6 = 4 then nxF s f else stopF f
def sgnF (s : Nat → Int) (m : Int) (f : Nat → Int) : Nat → Int := numF s m (if f 6 = 3 then nxF s f else f)
def sgnV (s f : Nat → Int) : Int := if f 6 = 3 then -(numV s (nxF s f)) else numV s f
theorem RInv.num {s f : Nat → Int} {m : Int} (h : RInv s f) : RInv s (numF s m f) := by
  unfold numF
  split
  · split
    · exact h.nx
    · exact (h.note (by decide)).nx
  · exact h.stop
theorem RInv.prm {s f : Nat → Int} (h : RInv s f) : RInv s (prmF s f) := by
  unfold prmF
  split
  · split
    · exact h.nx
    · exact (h.note (by decide)).nx
  · exact h.stop
theorem RInv.cls {s f : Nat → Int} (h : RInv s f) : RInv s (clsF s f) := by
  unfold clsF
  split
  · exact h.nx
  · exact h.stop
theorem RInv.sgn {s f : Nat → Int} {m : Int} (h : RInv s f) : RInv s (sgnF s m f) := by
  unfold sgnF
  split
  · exact h.nx.num
  · exact h.num
theorem RInv.f1 {s f : Nat → Int} (h : RInv s f) : Rg (f 1) := by have := h.2.2.1; exact ⟨by omega, by omega⟩
theorem RInv.f6 {s f : Nat → Int} (h : RInv s f) : Rg (f 6) := by have := h.2.2.2.1; exact ⟨by omega, by omega⟩
theorem numV_rg {s f : Nat → Int} (h : RInv s f) : 0 ≤ numV s f ∧ numV s f ≤ 99 := by
  unfold numV
  split
  · rename_i c
    exact val_rg h c
  · decide
theorem sgnV_rg {s f : Nat → Int} (h : RInv s f) : -99 ≤ sgnV s f ∧ sgnV s f ≤ 99 := by
  unfold sgnV
  have h1 := numV_rg h
  have h2 := numV_rg h.nx
  split <;> omega
theorem rd_ne {x : Wx} {a tp : Nat} (o : Is8 x a) (hs : x.1 tp = some (101, 600)) : tp ≠ a ∧ tp ≠ a + 1 := ⟨fun e => (by rw [e, o.1] at hs; cases hs), fun e => (by rw [e, o.2.2] at hs; cases hs)⟩
theorem dX8_numberTo_0 : decode cX8_numberTo 0 = .ok (.aload_n 0, 1) := by decide +kernel
theorem dX8_numberTo_1 : decode cX8_numberTo 1 = .ok (.getfield 45, 3) := by decide +kernel
theorem dX8_numberTo_4 : decode cX8_numberTo 4 = .ok (.iconst 2, 1) := by decide +kernel
theorem dX8_numberTo_5 : decode cX8_numberTo 5 = .ok (.if_icmp .eq 9, 3) := by decide +kernel
theorem dX8_numberTo_8 : decode cX8_numberTo 8 = .ok (.aload_n 0, 1) := by decide +kernel
theorem dX8_numberTo_9 : decode cX8_numberTo 9 = .ok (.invokevirtual 78, 3) := by decide +kernel
theorem dX8_numberTo_12 : decode cX8_numberTo 12 = .ok (.iconst 0, 1) := by decide +kernel
theorem dX8_numberTo_13 : decode cX8_numberTo 13 = .ok (.ireturn, 1) := by decide +kernel
theorem dX8_numberTo_14 : decode cX8_numberTo 14 = .ok (.aload_n 0, 1) := by decide +kernel
theorem dX8_numberTo_15 : decode cX8_numberTo 15 = .ok (.invokevirtual 105, 3) := by decide +kernel
theorem dX8_numberTo_18 : decode cX8_numberTo 18 = .ok (.istore_n 2, 1) := by decide +kernel
theorem dX8_numberTo_19 : decode cX8_numberTo 19 = .ok (.iload_n 2, 1) := by decide +kernel
theorem dX8_numberTo_20 : decode cX8_numberTo 20 = .ok (.iload_n 1, 1) := by decide +kernel
theorem dX8_numberTo_21 : decode cX8_numberTo 21 = .ok (.if_icmp .le 8, 3) := by decide +kernel
theorem dX8_numberTo_24 : decode cX8_numberTo 24 = .ok (.aload_n 0, 1) := by decide +kernel
theorem dX8_numberTo_25 : decode cX8_numberTo 25 = .ok (.iconst 2, 1) := by decide +kernel
theorem dX8_numberTo_26 : decode cX8_numberTo 26 = .ok (.invokevirtual 98, 3) := by decide +kernel
theorem dX8_numberTo_29 : decode cX8_numberTo 29 = .ok (.aload_n 0, 1) := by decide +kernel
theorem dX8_numberTo_30 : decode cX8_numberTo 30 = .ok (.invokevirtual 42, 3) := by decide +kernel
theorem dX8_numberTo_33 : decode cX8_numberTo 33 = .ok (.iload_n 2, 1) := by decide +kernel
theorem dX8_numberTo_34 : decode cX8_numberTo 34 = .ok (.ireturn, 1) := by decide +kernel
set_option maxRecDepth 20000 in
theorem b_X8_numberTo_0 {k n : Nat} {x : Wx} {Z : Zt} {Q : Option Value → Wx → Zt → Prop} {a0 : Nat} {v1 : Int} {a0_tape : Nat} (r_a0_tape : x.2.1 a0 3 = some a0_tape) (o_a0 : Is8 x a0) (s_a0_tape : x.1 a0_tape = some (101, 600))
    (h : Rg (Z a0 6) ∧ (((Z a0 6 = 2) → (RInv (Z a0_tape) (Z a0) ∧ (Rg (valF (Z a0_tape) (Z a0)) ∧ Rg v1 ∧ (((valF (Z a0_tape) (Z a0) ≤ v1) → (V mX8_numberTo k n 29 [some (r_ a0), none, some (i_ (valF (Z a0_tape) (Z a0)))] [] x Z Q)) ∧ ((v1 < valF (Z a0_tape) (Z a0)) → (Rg (Z a0 1) ∧ (∀ Z1 : Zt, Z1 = setR Z a0 (noteF (2 : Int) (Z a0)) → (V mX8_numberTo k n 29 [some (r_ a0), none, some (i_ (valF (Z a0_tape) (Z a0)))] [] x Z1 Q)))))))) ∧ ((Z a0 6 ≠ 2) → (Rg (Z a0 1) ∧ (∀ Z2 : Zt, Z2 = setR Z a0 (stopF (Z a0)) → (Q (some (i_ 0)) x Z2)))))) :
    V mX8_numberTo k n 0 [some (r_ a0), some (i_ v1), none] [] x Z Q :=
  V_aload_n dX8_numberTo_0 rfl (G_8_6 o_a0.1 lf_8_45 dX8_numberTo_1 (V_iconst dX8_numberTo_4 (V_icmp_eq (tgt := 14) dX8_numberTo_5 rfl h.1 (rg_c rfl) (fun c1 => V_aload_n dX8_numberTo_14 rfl (V_callV (k' := 0) (n' := 0) (t := 8) (q := (RX8, TX8, 8)) [] [] okX8_value o_a0.1 rfl rfl lm_8_105 liX8_value lqX8_value (Nat.le_of_ble_eq_true rfl) (Nat.le_of_ble_eq_true rfl) (Nat.le_of_ble_eq_true rfl) (cat_of rfl) (Nat.le_of_ble_eq_true rfl) (Nat.zero_le _) (Nat.zero_le _) rfl dX8_numberTo_15 (sp_X8_value o_a0 r_a0_tape s_a0_tape (h.2.1 c1).1 (V_istore_n (lv' := [some (r_ a0), some (i_ v1), some (i_ (valF (Z a0_tape) (Z a0)))]) dX8_numberTo_18 (Nat.le_of_ble_eq_true rfl) rfl (V_iload_n dX8_numberTo_19 rfl (V_iload_n dX8_numberTo_20 rfl (V_icmp_le (tgt := 29) dX8_numberTo_21 rfl (h.2.1 c1).2.1 (h.2.1 c1).2.2.1 (fun c2 => V_msk [true, false, true] rfl ((h.2.1 c1).2.2.2.1 c2)) (fun c2 => V_aload_n dX8_numberTo_24 rfl (V_iconst dX8_numberTo_25 (V_callV (k' := 0) (n' := 0) (t := 8) (q := (RX8, TX8, 8)) [i_ 2] [] okX8_note o_a0.1 rfl rfl lm_8_98 liX8_note lqX8_note (Nat.le_of_ble_eq_true rfl) (Nat.le_of_ble_eq_true rfl) (Nat.le_of_ble_eq_true rfl) (cat_of rfl) (Nat.le_of_ble_eq_true rfl) (Nat.zero_le _) (Nat.zero_le _) rfl dX8_numberTo_26 (sp_X8_note o_a0 ((h.2.1 c1).2.2.2.2 c2).1 (V_nmZ (fun Z1 eZ1 => V_msk [true, false, true] rfl (((h.2.1 c1).2.2.2.2 c2).2 Z1 eZ1)))))))))))))) (fun c1 => V_aload_n dX8_numberTo_8 rfl (V_callV (k' := 0) (n' := 0) (t := 8) (q := (RX8, TX8, 8)) [] [] okX8_stop o_a0.1 rfl rfl lm_8_78 liX8_stop lqX8_stop (Nat.le_of_ble_eq_true rfl) (Nat.le_of_ble_eq_true rfl) (Nat.le_of_ble_eq_true rfl) (cat_of rfl) (Nat.le_of_ble_eq_true rfl) (Nat.zero_le _) (Nat.zero_le _) rfl dX8_numberTo_9 (sp_X8_stop o_a0 (h.2.2 c1).1 (V_nmZ (fun Z2 eZ2 => V_iconst dX8_numberTo_12 (V_iret (ty := .int) dX8_numberTo_13 rfl rfl ((h.2.2 c1).2 Z2 eZ2))))))))))
set_option maxRecDepth 20000 in
theorem b_X8_numberTo_29 {k n : Nat} {x : Wx} {Z : Zt} {Q : Option Value → Wx → Zt → Prop} {a0 : Nat} {v2 : Int} {a0_tape : Nat} (r_a0_tape : x.2.1 a0 3 = some a0_tape) (o_a0 : Is8 x a0) (s_a0_tape : x.1 a0_tape = some (101, 600))
    (h : NInv (Z a0) ∧ BR (Z a0_tape) ∧ (∀ Z1 : Zt, Z1 = setR Z a0 (nxF (Z a0_tape) (Z a0)) → (Q (some (i_ v2)) x Z1))) :
    V mX8_numberTo k n 29 [some (r_ a0), none, some (i_ v2)] [] x Z Q :=
  V_aload_n dX8_numberTo_29 rfl (V_callV (k' := 0) (n' := 0) (t := 8) (q := (RX8, TX8, 8)) [] [] okX8_next o_a0.1 rfl rfl lm_8_42 liX8_next lqX8_next (Nat.le_of_ble_eq_true rfl) (Nat.le_of_ble_eq_true rfl) (Nat.le_of_ble_eq_true rfl) (cat_of rfl) (Nat.le_of_ble_eq_true rfl) (Nat.zero_le _) (Nat.zero_le _) rfl dX8_numberTo_30 (sp_X8_next o_a0 r_a0_tape s_a0_tape h.1 h.2.1 (V_nmZ (fun Z1 eZ1 => V_iload_n dX8_numberTo_33 rfl (V_iret (ty := .int) dX8_numberTo_34 rfl rfl (h.2.2 Z1 eZ1))))))
theorem dX8_primeNumber_0 : decode cX8_primeNumber 0 = .ok (.aload_n 0, 1) := by decide +kernel
theorem dX8_primeNumber_1 : decode cX8_primeNumber 1 = .ok (.getfield 45, 3) := by decide +kernel
theorem dX8_primeNumber_4 : decode cX8_primeNumber 4 = .ok (.iconst 2, 1) := by decide +kernel
theorem dX8_primeNumber_5 : decode cX8_primeNumber 5 = .ok (.if_icmp .eq 9, 3) := by decide +kernel
theorem dX8_primeNumber_8 : decode cX8_primeNumber 8 = .ok (.aload_n 0, 1) := by decide +kernel
theorem dX8_primeNumber_9 : decode cX8_primeNumber 9 = .ok (.invokevirtual 78, 3) := by decide +kernel
theorem dX8_primeNumber_12 : decode cX8_primeNumber 12 = .ok (.iconst 0, 1) := by decide +kernel
theorem dX8_primeNumber_13 : decode cX8_primeNumber 13 = .ok (.ireturn, 1) := by decide +kernel
theorem dX8_primeNumber_14 : decode cX8_primeNumber 14 = .ok (.aload_n 0, 1) := by decide +kernel
theorem dX8_primeNumber_15 : decode cX8_primeNumber 15 = .ok (.invokevirtual 105, 3) := by decide +kernel
theorem dX8_primeNumber_18 : decode cX8_primeNumber 18 = .ok (.istore_n 1, 1) := by decide +kernel
theorem dX8_primeNumber_19 : decode cX8_primeNumber 19 = .ok (.iconst 0, 1) := by decide +kernel
theorem dX8_primeNumber_20 : decode cX8_primeNumber 20 = .ok (.istore_n 2, 1) := by decide +kernel
theorem dX8_primeNumber_21 : decode cX8_primeNumber 21 = .ok (.getstatic 108, 3) := by decide +kernel
theorem dX8_primeNumber_24 : decode cX8_primeNumber 24 = .ok (.astore_n 3, 1) := by decide +kernel
theorem dX8_primeNumber_25 : decode cX8_primeNumber 25 = .ok (.aload_n 3, 1) := by decide +kernel
theorem dX8_primeNumber_26 : decode cX8_primeNumber 26 = .ok (.arraylength, 1) := by decide +kernel
theorem dX8_primeNumber_27 : decode cX8_primeNumber 27 = .ok (.istore 4, 2) := by decide +kernel
theorem dX8_primeNumber_29 : decode cX8_primeNumber 29 = .ok (.iconst 0, 1) := by decide +kernel
theorem dX8_primeNumber_30 : decode cX8_primeNumber 30 = .ok (.istore 5, 2) := by decide +kernel
theorem dX8_primeNumber_32 : decode cX8_primeNumber 32 = .ok (.iload 5, 2) := by decide +kernel
theorem dX8_primeNumber_34 : decode cX8_primeNumber 34 = .ok (.iload 4, 2) := by decide +kernel
theorem dX8_primeNumber_36 : decode cX8_primeNumber 36 = .ok (.if_icmp .ge 29, 3) := by decide +kernel
theorem dX8_primeNumber_39 : decode cX8_primeNumber 39 = .ok (.aload_n 3, 1) := by decide +kernel
theorem dX8_primeNumber_40 : decode cX8_primeNumber 40 = .ok (.iload 5, 2) := by decide +kernel
theorem dX8_primeNumber_42 : decode cX8_primeNumber 42 = .ok (.iaload, 1) := by decide +kernel
theorem dX8_primeNumber_43 : decode cX8_primeNumber 43 = .ok (.istore 6, 2) := by decide +kernel
theorem dX8_primeNumber_45 : decode cX8_primeNumber 45 = .ok (.iload_n 2, 1) := by decide +kernel
theorem dX8_primeNumber_46 : decode cX8_primeNumber 46 = .ok (.iload 6, 2) := by decide +kernel
theorem dX8_primeNumber_48 : decode cX8_primeNumber 48 = .ok (.iload_n 1, 1) := by decide +kernel
theorem dX8_primeNumber_49 : decode cX8_primeNumber 49 = .ok (.if_icmp .ne 7, 3) := by decide +kernel
theorem dX8_primeNumber_52 : decode cX8_primeNumber 52 = .ok (.iconst 1, 1) := by decide +kernel
theorem dX8_primeNumber_53 : decode cX8_primeNumber 53 = .ok (.goto 4, 3) := by decide +kernel
theorem dX8_primeNumber_56 : decode cX8_primeNumber 56 = .ok (.iconst 0, 1) := by decide +kernel
theorem dX8_primeNumber_57 : decode cX8_primeNumber 57 = .ok (.ior, 1) := by decide +kernel
theorem dX8_primeNumber_58 : decode cX8_primeNumber 58 = .ok (.istore_n 2, 1) := by decide +kernel
theorem dX8_primeNumber_59 : decode cX8_primeNumber 59 = .ok (.iinc 5 1, 3) := by decide +kernel
theorem dX8_primeNumber_62 : decode cX8_primeNumber 62 = .ok (.goto (-30), 3) := by decide +kernel
theorem dX8_primeNumber_65 : decode cX8_primeNumber 65 = .ok (.iload_n 2, 1) := by decide +kernel
theorem dX8_primeNumber_66 : decode cX8_primeNumber 66 = .ok (.ifCond .ne 8, 3) := by decide +kernel
theorem dX8_primeNumber_69 : decode cX8_primeNumber 69 = .ok (.aload_n 0, 1) := by decide +kernel
theorem dX8_primeNumber_70 : decode cX8_primeNumber 70 = .ok (.iconst 2, 1) := by decide +kernel
theorem dX8_primeNumber_71 : decode cX8_primeNumber 71 = .ok (.invokevirtual 98, 3) := by decide +kernel
theorem dX8_primeNumber_74 : decode cX8_primeNumber 74 = .ok (.aload_n 0, 1) := by decide +kernel
theorem dX8_primeNumber_75 : decode cX8_primeNumber 75 = .ok (.invokevirtual 42, 3) := by decide +kernel
theorem dX8_primeNumber_78 : decode cX8_primeNumber 78 = .ok (.iload_n 1, 1) := by decide +kernel
theorem dX8_primeNumber_79 : decode cX8_primeNumber 79 = .ok (.ireturn, 1) := by decide +kernel
set_option maxRecDepth 20000 in
theorem b_X8_primeNumber_0 {k n : Nat} {x : Wx} {Z : Zt} {Q : Option Value → Wx → Zt → Prop} {a0 : Nat} {a0_tape : Nat} (r_a0_tape : x.2.1 a0 3 = some a0_tape) (o_a0 : Is8 x a0) (s_a0_tape : x.1 a0_tape = some (101, 600)) (s_x_2_2_2_2 : x.1 (x.2.2.2 2) = some (200, 5))
    (h : Rg (Z a0 6) ∧ (((Z a0 6 = 2) → (RInv (Z a0_tape) (Z a0) ∧ (V mX8_primeNumber k n 32 [some (r_ a0), some (i_ (valF (Z a0_tape) (Z a0))), some (i_ 0), some (r_ (x.2.2.2 2)), some (i_ 5), some (i_ 0), none] [] x Z Q))) ∧ ((Z a0 6 ≠ 2) → (Rg (Z a0 1) ∧ (∀ Z1 : Zt, Z1 = setR Z a0 (stopF (Z a0)) → (Q (some (i_ 0)) x Z1)))))) :
    V mX8_primeNumber k n 0 [some (r_ a0), none, none, none, none, none, none] [] x Z Q :=
  V_aload_n dX8_primeNumber_0 rfl (G_8_6 o_a0.1 lf_8_45 dX8_primeNumber_1 (V_iconst dX8_primeNumber_4 (V_icmp_eq (tgt := 14) dX8_primeNumber_5 rfl h.1 (rg_c rfl) (fun c1 => V_aload_n dX8_primeNumber_14 rfl (V_callV (k' := 0) (n' := 0) (t := 8) (q := (RX8, TX8, 8)) [] [] okX8_value o_a0.1 rfl rfl lm_8_105 liX8_value lqX8_value (Nat.le_of_ble_eq_true rfl) (Nat.le_of_ble_eq_true rfl) (Nat.le_of_ble_eq_true rfl) (cat_of rfl) (Nat.le_of_ble_eq_true rfl) (Nat.zero_le _) (Nat.zero_le _) rfl dX8_primeNumber_15 (sp_X8_value o_a0 r_a0_tape s_a0_tape (h.2.1 c1).1 (V_istore_n (lv' := [some (r_ a0), some (i_ (valF (Z a0_tape) (Z a0))), none, none, none, none, none]) dX8_primeNumber_18 (Nat.le_of_ble_eq_true rfl) rfl (V_iconst dX8_primeNumber_19 (V_istore_n (lv' := [some (r_ a0), some (i_ (valF (Z a0_tape) (Z a0))), some (i_ 0), none, none, none, none]) dX8_primeNumber_20 (Nat.le_of_ble_eq_true rfl) rfl (V_getsN (j := (2, "PRIMES")) (by decide) lfn_8_108 dX8_primeNumber_21 (V_astore_n (lv' := [some (r_ a0), some (i_ (valF (Z a0_tape) (Z a0))), some (i_ 0), some (r_ (x.2.2.2 2)), none, none, none]) dX8_primeNumber_24 (Nat.le_of_ble_eq_true rfl) rfl (V_aload_n dX8_primeNumber_25 rfl (V_alen (t := 200) s_x_2_2_2_2 (by decide) (Nat.le_of_ble_eq_true rfl) dX8_primeNumber_26 (V_istore (lv' := [some (r_ a0), some (i_ (valF (Z a0_tape) (Z a0))), some (i_ 0), some (r_ (x.2.2.2 2)), some (i_ 5), none, none]) dX8_primeNumber_27 (Nat.le_of_ble_eq_true rfl) rfl (V_iconst dX8_primeNumber_29 (V_istore (lv' := [some (r_ a0), some (i_ (valF (Z a0_tape) (Z a0))), some (i_ 0), some (r_ (x.2.2.2 2)), some (i_ 5), some (i_ 0), none]) dX8_primeNumber_30 (Nat.le_of_ble_eq_true rfl) rfl (V_msk [true, true, true, true, true, true, false] rfl (h.2.1 c1).2)))))))))))))) (fun c1 => V_aload_n dX8_primeNumber_8 rfl (V_callV (k' := 0) (n' := 0) (t := 8) (q := (RX8, TX8, 8)) [] [] okX8_stop o_a0.1 rfl rfl lm_8_78 liX8_stop lqX8_stop (Nat.le_of_ble_eq_true rfl) (Nat.le_of_ble_eq_true rfl) (Nat.le_of_ble_eq_true rfl) (cat_of rfl) (Nat.le_of_ble_eq_true rfl) (Nat.zero_le _) (Nat.zero_le _) rfl dX8_primeNumber_9 (sp_X8_stop o_a0 (h.2.2 c1).1 (V_nmZ (fun Z1 eZ1 => V_iconst dX8_primeNumber_12 (V_iret (ty := .int) dX8_primeNumber_13 rfl rfl ((h.2.2 c1).2 Z1 eZ1))))))))))
set_option maxRecDepth 20000 in
theorem b_X8_primeNumber_32 {k n : Nat} {x : Wx} {Z : Zt} {Q : Option Value → Wx → Zt → Prop} {a0 : Nat} {v1 : Int} {v2 : Int} {a3 : Nat} {v4 : Int} {v5 : Int} (o_a0 : Is8 x a0) (s_a3 : x.1 a3 = some (200, 5))
    (h : Rg v5 ∧ Rg v4 ∧ (((v4 ≤ v5) → (Rg v2 ∧ (((v2 ≠ 0) → (V mX8_primeNumber k n 74 [some (r_ a0), some (i_ v1), none, none, none, none, none] [] x Z Q)) ∧ ((v2 = 0) → (Rg (Z a0 1) ∧ (∀ Z1 : Zt, Z1 = setR Z a0 (noteF (2 : Int) (Z a0)) → (V mX8_primeNumber k n 74 [some (r_ a0), some (i_ v1), none, none, none, none, none] [] x Z1 Q))))))) ∧ ((v5 < v4) → (0 ≤ v5 ∧ v5 < 5 ∧ (Rg (Z a3 v5.toNat) ∧ Rg v1 ∧ (((Z a3 v5.toNat ≠ v1) → (V mX8_primeNumber k n 57 [some (r_ a0), some (i_ v1), none, some (r_ a3), some (i_ v4), some (i_ v5), none] [i_ 0, i_ v2] x Z Q)) ∧ ((Z a3 v5.toNat = v1) → (V mX8_primeNumber k n 57 [some (r_ a0), some (i_ v1), none, some (r_ a3), some (i_ v4), some (i_ v5), none] [i_ 1, i_ v2] x Z Q)))))))) :
    V mX8_primeNumber k n 32 [some (r_ a0), some (i_ v1), some (i_ v2), some (r_ a3), some (i_ v4), some (i_ v5), none] [] x Z Q :=
  V_iload dX8_primeNumber_32 rfl (V_iload dX8_primeNumber_34 rfl (V_icmp_ge (tgt := 65) dX8_primeNumber_36 rfl h.1 h.2.1 (fun c1 => V_iload_n dX8_primeNumber_65 rfl (V_if_ne (tgt := 74) dX8_primeNumber_66 rfl (h.2.2.1 c1).1 (fun c2 => V_msk [true, true, false, false, false, false, false] rfl ((h.2.2.1 c1).2.1 c2)) (fun c2 => V_aload_n dX8_primeNumber_69 rfl (V_iconst dX8_primeNumber_70 (V_callV (k' := 0) (n' := 0) (t := 8) (q := (RX8, TX8, 8)) [i_ 2] [] okX8_note o_a0.1 rfl rfl lm_8_98 liX8_note lqX8_note (Nat.le_of_ble_eq_true rfl) (Nat.le_of_ble_eq_true rfl) (Nat.le_of_ble_eq_true rfl) (cat_of rfl) (Nat.le_of_ble_eq_true rfl) (Nat.zero_le _) (Nat.zero_le _) rfl dX8_primeNumber_71 (sp_X8_note o_a0 ((h.2.2.1 c1).2.2 c2).1 (V_nmZ (fun Z1 eZ1 => V_msk [true, true, false, false, false, false, false] rfl (((h.2.2.1 c1).2.2 c2).2 Z1 eZ1))))))))) (fun c1 => V_aload_n dX8_primeNumber_39 rfl (V_iload dX8_primeNumber_40 rfl (V_iald (t := 200) s_a3 (by decide) rfl (h.2.2.2 c1).1 (h.2.2.2 c1).2.1 (Nat.le_of_ble_eq_true rfl) dX8_primeNumber_42 (V_istore (lv' := [some (r_ a0), some (i_ v1), some (i_ v2), some (r_ a3), some (i_ v4), some (i_ v5), some (i_ (Z a3 v5.toNat))]) dX8_primeNumber_43 (Nat.le_of_ble_eq_true rfl) rfl (V_iload_n dX8_primeNumber_45 rfl (V_iload dX8_primeNumber_46 rfl (V_iload_n dX8_primeNumber_48 rfl (V_icmp_ne (tgt := 56) dX8_primeNumber_49 rfl (h.2.2.2 c1).2.2.1 (h.2.2.2 c1).2.2.2.1 (fun c3 => V_iconst dX8_primeNumber_56 (V_msk [true, true, false, true, true, true, false] rfl ((h.2.2.2 c1).2.2.2.2.1 c3))) (fun c3 => V_iconst dX8_primeNumber_52 (V_goto (tgt := 57) dX8_primeNumber_53 rfl (V_msk [true, true, false, true, true, true, false] rfl ((h.2.2.2 c1).2.2.2.2.2 c3))))))))))))))
set_option maxRecDepth 20000 in
theorem b_X8_primeNumber_57 {k n : Nat} {x : Wx} {Z : Zt} {Q : Option Value → Wx → Zt → Prop} {a0 : Nat} {v1 : Int} {a3 : Nat} {v4 : Int} {v5 : Int} {t0 : Int} {t1 : Int} 
    (h : (t0 = 0 ∨ t0 = 1) ∧ (t1 = 0 ∨ t1 = 1) ∧ (V mX8_primeNumber k n 32 [some (r_ a0), some (i_ v1), some (i_ (max t0 t1)), some (r_ a3), some (i_ v4), some (i_ (v5 + 1)), none] [] x Z Q)) :
    V mX8_primeNumber k n 57 [some (r_ a0), some (i_ v1), none, some (r_ a3), some (i_ v4), some (i_ v5), none] [i_ t1, i_ t0] x Z Q :=
  V_ior dX8_primeNumber_57 (or_z h.1 h.2.1) (V_istore_n (lv' := [some (r_ a0), some (i_ v1), some (i_ (max t0 t1)), some (r_ a3), some (i_ v4), some (i_ v5), none]) dX8_primeNumber_58 (Nat.le_of_ble_eq_true rfl) rfl (V_iinc (lv' := [some (r_ a0), some (i_ v1), some (i_ (max t0 t1)), some (r_ a3), some (i_ v4), some (i_ (v5 + 1)), none]) dX8_primeNumber_59 rfl (Nat.le_of_ble_eq_true rfl) rfl (V_goto (tgt := 32) dX8_primeNumber_62 rfl (V_msk [true, true, true, true, true, true, false] rfl h.2.2))))
set_option maxRecDepth 20000 in
theorem b_X8_primeNumber_74 {k n : Nat} {x : Wx} {Z : Zt} {Q : Option Value → Wx → Zt → Prop} {a0 : Nat} {v1 : Int} {a0_tape : Nat} (r_a0_tape : x.2.1 a0 3 = some a0_tape) (o_a0 : Is8 x a0) (s_a0_tape : x.1 a0_tape = some (101, 600))
    (h : NInv (Z a0) ∧ BR (Z a0_tape) ∧ (∀ Z1 : Zt, Z1 = setR Z a0 (nxF (Z a0_tape) (Z a0)) → (Q (some (i_ v1)) x Z1))) :
    V mX8_primeNumber k n 74 [some (r_ a0), some (i_ v1), none, none, none, none, none] [] x Z Q :=
  V_aload_n dX8_primeNumber_74 rfl (V_callV (k' := 0) (n' := 0) (t := 8) (q := (RX8, TX8, 8)) [] [] okX8_next o_a0.1 rfl rfl lm_8_42 liX8_next lqX8_next (Nat.le_of_ble_eq_true rfl) (Nat.le_of_ble_eq_true rfl) (Nat.le_of_ble_eq_true rfl) (cat_of rfl) (Nat.le_of_ble_eq_true rfl) (Nat.zero_le _) (Nat.zero_le _) rfl dX8_primeNumber_75 (sp_X8_next o_a0 r_a0_tape s_a0_tape h.1 h.2.1 (V_nmZ (fun Z1 eZ1 => V_iload_n dX8_primeNumber_78 rfl (V_iret (ty := .int) dX8_primeNumber_79 rfl rfl (h.2.2 Z1 eZ1))))))
theorem dX8_closeLine_0 : decode cX8_closeLine 0 = .ok (.aload_n 0, 1) := by decide +kernel
theorem dX8_closeLine_1 : decode cX8_closeLine 1 = .ok (.getfield 45, 3) := by decide +kernel
theorem dX8_closeLine_4 : decode cX8_closeLine 4 = .ok (.iconst 4, 1) := by decide +kernel
theorem dX8_closeLine_5 : decode cX8_closeLine 5 = .ok (.if_icmp .ne 10, 3) := by decide +kernel
theorem dX8_closeLine_8 : decode cX8_closeLine 8 = .ok (.aload_n 0, 1) := by decide +kernel
theorem dX8_closeLine_9 : decode cX8_closeLine 9 = .ok (.invokevirtual 42, 3) := by decide +kernel
theorem dX8_closeLine_12 : decode cX8_closeLine 12 = .ok (.goto 7, 3) := by decide +kernel
theorem dX8_closeLine_15 : decode cX8_closeLine 15 = .ok (.aload_n 0, 1) := by decide +kernel
theorem dX8_closeLine_16 : decode cX8_closeLine 16 = .ok (.invokevirtual 78, 3) := by decide +kernel
theorem dX8_closeLine_19 : decode cX8_closeLine 19 = .ok (.return_, 1) := by decide +kernel
set_option maxRecDepth 20000 in
theorem b_X8_closeLine_0 {k n : Nat} {x : Wx} {Z : Zt} {Q : Option Value → Wx → Zt → Prop} {a0 : Nat} {a0_tape : Nat} (r_a0_tape : x.2.1 a0 3 = some a0_tape) (o_a0 : Is8 x a0) (s_a0_tape : x.1 a0_tape = some (101, 600))
    (h : Rg (Z a0 6) ∧ (((Z a0 6 ≠ 4) → (Rg (Z a0 1) ∧ (∀ Z1 : Zt, Z1 = setR Z a0 (stopF (Z a0)) → (Q none x Z1)))) ∧ ((Z a0 6 = 4) → (NInv (Z a0) ∧ BR (Z a0_tape) ∧ (∀ Z2 : Zt, Z2 = setR Z a0 (nxF (Z a0_tape) (Z a0)) → (Q none x Z2)))))) :
    V mX8_closeLine k n 0 [some (r_ a0)] [] x Z Q :=
  V_aload_n dX8_closeLine_0 rfl (G_8_6 o_a0.1 lf_8_45 dX8_closeLine_1 (V_iconst dX8_closeLine_4 (V_icmp_ne (tgt := 15) dX8_closeLine_5 rfl h.1 (rg_c rfl) (fun c1 => V_aload_n dX8_closeLine_15 rfl (V_callV (k' := 0) (n' := 0) (t := 8) (q := (RX8, TX8, 8)) [] [] okX8_stop o_a0.1 rfl rfl lm_8_78 liX8_stop lqX8_stop (Nat.le_of_ble_eq_true rfl) (Nat.le_of_ble_eq_true rfl) (Nat.le_of_ble_eq_true rfl) (cat_of rfl) (Nat.le_of_ble_eq_true rfl) (Nat.zero_le _) (Nat.zero_le _) rfl dX8_closeLine_16 (sp_X8_stop o_a0 (h.2.1 c1).1 (V_nmZ (fun Z1 eZ1 => V_ret dX8_closeLine_19 rfl ((h.2.1 c1).2 Z1 eZ1)))))) (fun c1 => V_aload_n dX8_closeLine_8 rfl (V_callV (k' := 0) (n' := 0) (t := 8) (q := (RX8, TX8, 8)) [] [] okX8_next o_a0.1 rfl rfl lm_8_42 liX8_next lqX8_next (Nat.le_of_ble_eq_true rfl) (Nat.le_of_ble_eq_true rfl) (Nat.le_of_ble_eq_true rfl) (cat_of rfl) (Nat.le_of_ble_eq_true rfl) (Nat.zero_le _) (Nat.zero_le _) rfl dX8_closeLine_9 (sp_X8_next o_a0 r_a0_tape s_a0_tape (h.2.2 c1).1 (h.2.2 c1).2.1 (V_nmZ (fun Z2 eZ2 => V_goto (tgt := 19) dX8_closeLine_12 rfl (V_ret dX8_closeLine_19 rfl ((h.2.2 c1).2.2 Z2 eZ2))))))))))
theorem sp_X8_numberTo {k n : Nat} {x : Wx} {Z : Zt} {Q : Option Value → Wx → Zt → Prop} {a tp : Nat} {m : Int} (o : Is8 x a) (hr : x.2.1 a 3 = some tp) (hs : x.1 tp = some (101, 600)) (hm : Rg m) (hi : RInv (Z tp) (Z a)) (hb : BR (Z tp)) (h : Q (some (i_ (numV (Z tp) (Z a)))) x (setR Z a (numF (Z tp) m (Z a)))) : V mX8_numberTo k n 0 [some (r_ a), some (i_ m), none] [] x Z Q := by
  have hne := (rd_ne o hs).1
  unfold numV numF at h
  refine b_X8_numberTo_0 hr o hs ⟨hi.f6, fun c => ⟨hi, ?_, hm, fun c2 => b_X8_numberTo_29 hr o hs ⟨hi.n, hb, fun Z1 e1 => ?_⟩, fun c2 => ⟨hi.f1, fun Z1 e1 => b_X8_numberTo_29 hr o hs ?_⟩⟩, fun c => ⟨hi.f1, fun Z1 e1 => ?_⟩⟩
  · have := val_rg hi c
    exact ⟨by omega, by omega⟩
  · rw [if_pos c, if_pos c, if_pos c2] at h
    rw [e1]; exact h
  · rw [if_pos c, if_pos c, if_neg (by omega)] at h
    rw [e1, setR_at, setR_ne _ _ hne]
    refine ⟨(hi.note (by decide)).n, hb, fun Z2 e2 => ?_⟩
    rw [e2, setR_two]; exact h
  · rw [if_neg c, if_neg c] at h
    rw [e1]; exact h
theorem sp_X8_primeNumber {k n : Nat} {x : Wx} {Z : Zt} {Q : Option Value → Wx → Zt → Prop} {a tp : Nat} (o : Is8 x a) (hr : x.2.1 a 3 = some tp) (hs : x.1 tp = some (101, 600)) (ks : KS x) (kw : KW x Z) (hi : RInv (Z tp) (Z a)) (hb : BR (Z tp)) (h : Q (some (i_ (numV (Z tp) (Z a)))) x (setR Z a (prmF (Z tp) (Z a)))) : V mX8_primeNumber k n 0 [some (r_ a), none, none, none, none, none, none] [] x Z Q := by
  have hne := (rd_ne o hs).1
  unfold numV prmF at h
  refine b_X8_primeNumber_0 hr o hs ks.2.2 ⟨hi.f6, fun c => ⟨hi, ?_⟩, fun c => ⟨hi.f1, fun Z1 e1 => ?_⟩⟩
  · rw [if_pos c, if_pos c] at h
    have hv := val_rg hi c
    have hprg : ∀ i : Nat, i < 5 → 3 ≤ Z (x.2.2.2 2) i ∧ Z (x.2.2.2 2) i ≤ 13 := by
      intro i hi
      obtain ⟨p0, p1, p2, p3, p4⟩ := kw.2.2
      match i, hi with
      | 0, _ => rw [p0]; decide
      | 1, _ => rw [p1]; decide
      | 2, _ => rw [p2]; decide
      | 3, _ => rw [p3]; decide
      | 4, _ => rw [p4]; decide
    have hq : ipr (valF (Z tp) (Z a)) = true ↔ ∃ i : Nat, i < 5 ∧ Z (x.2.2.2 2) i = valF (Z tp) (Z a) := by
      obtain ⟨p0, p1, p2, p3, p4⟩ := kw.2.2
      unfold ipr
      rw [decide_eq_true_eq]
      constructor
      · intro hh
        rcases hh with e | e | e | e | e
        · exact ⟨0, by decide, by rw [p0, e]⟩
        · exact ⟨1, by decide, by rw [p1, e]⟩
        · exact ⟨2, by decide, by rw [p2, e]⟩
        · exact ⟨3, by decide, by rw [p3, e]⟩
        · exact ⟨4, by decide, by rw [p4, e]⟩
      · rintro ⟨i, hi, e⟩
        match i, hi with
        | 0, _ => rw [p0] at e; omega
        | 1, _ => rw [p1] at e; omega
        | 2, _ => rw [p2] at e; omega
        | 3, _ => rw [p3] at e; omega
        | 4, _ => rw [p4] at e; omega
    have lp : ∀ (m p : Nat) (v2 v5 : Int), v5 = p → p + m = 5 → (v2 = 0 ∨ v2 = 1) → (v2 = 1 ↔ ∃ i : Nat, i < p ∧ Z (x.2.2.2 2) i = valF (Z tp) (Z a)) → V mX8_primeNumber k n 32 [some (r_ a), some (i_ (valF (Z tp) (Z a))), some (i_ v2), some (r_ (x.2.2.2 2)), some (i_ 5), some (i_ v5), none] [] x Z Q := by
      intro m
      induction m with
      | zero =>
        intro p v2 v5 h5 hp h2 hk
        rw [show p = 5 by omega, ← hq] at hk
        refine b_X8_primeNumber_32 o ks.2.2 ⟨⟨by omega, by omega⟩, ⟨by decide, by decide⟩, fun _ => ⟨⟨by omega, by omega⟩, fun c2 => b_X8_primeNumber_74 hr o hs ⟨hi.n, hb, fun Z1 e1 => ?_⟩, fun c2 => ⟨hi.f1, fun Z1 e1 => b_X8_primeNumber_74 hr o hs ?_⟩⟩, fun c2 => by omega⟩
        · rw [if_pos (hk.mp (by omega))] at h
          rw [e1]; exact h
        · rw [if_neg (fun e => by have := hk.mpr e; omega)] at h
          rw [e1, setR_at, setR_ne _ _ hne]
          refine ⟨(hi.note (by decide)).n, hb, fun Z2 e2 => ?_⟩
          rw [e2, setR_two]; exact h
      | succ m ih =>
        intro p v2 v5 h5 hp h2 hk
        refine b_X8_primeNumber_32 o ks.2.2 ⟨⟨by omega, by omega⟩, ⟨by decide, by decide⟩, fun c2 => by omega, fun c2 => ⟨by omega, by omega, ?_, ⟨by omega, by omega⟩, fun c3 => b_X8_primeNumber_57 ⟨h2, Or.inl rfl, ih (p + 1) _ _ (by omega) (by omega) (by omega) ?_⟩, fun c3 => b_X8_primeNumber_57 ⟨h2, Or.inr rfl, ih (p + 1) _ _ (by omega) (by omega) (by omega) ?_⟩⟩⟩
        · have := hprg v5.toNat (by omega)
          exact ⟨by omega, by omega⟩
        · rw [show v5.toNat = p by omega] at c3
          rw [show max v2 0 = v2 by omega, hk]
          constructor
          · rintro ⟨i, hi, e⟩
            exact ⟨i, by omega, e⟩
          · rintro ⟨i, hi, e⟩
            refine ⟨i, ?_, e⟩
            by_cases e2 : i = p
            · rw [e2] at e; exact absurd e c3
            · omega
        · rw [show v5.toNat = p by omega] at c3
          exact ⟨fun _ => ⟨p, by omega, c3⟩, fun _ => by omega⟩
    exact lp 5 0 0 0 rfl rfl (Or.inl rfl) ⟨fun e => absurd e (by decide), fun e => by obtain ⟨i, hi, -⟩ := e; omega⟩
  · rw [if_neg c, if_neg c] at h
    rw [e1]; exact h
theorem sp_X8_closeLine {k n : Nat} {x : Wx} {Z : Zt} {Q : Option Value → Wx → Zt → Prop} {a tp : Nat} (o : Is8 x a) (hr : x.2.1 a 3 = some tp) (hs : x.1 tp = some (101, 600)) (hi : RInv (Z tp) (Z a)) (hb : BR (Z tp)) (h : Q none x (setR Z a (clsF (Z tp) (Z a)))) : V mX8_closeLine k n 0 [some (r_ a)] [] x Z Q := by
  unfold clsF at h
  refine b_X8_closeLine_0 hr o hs ⟨hi.f6, fun c => ⟨hi.f1, fun Z1 e1 => ?_⟩, fun c => ⟨hi.n, hb, fun Z1 e1 => ?_⟩⟩
  · rw [if_neg c] at h
    rw [e1]; exact h
  · rw [if_pos c] at h
    rw [e1]; exact h
theorem dX8_signedTo_0 : decode cX8_signedTo 0 = .ok (.aload_n 0, 1) := by decide +kernel
theorem dX8_signedTo_1 : decode cX8_signedTo 1 = .ok (.getfield 45, 3) := by decide +kernel
theorem dX8_signedTo_4 : decode cX8_signedTo 4 = .ok (.iconst 3, 1) := by decide +kernel
theorem dX8_signedTo_5 : decode cX8_signedTo 5 = .ok (.if_icmp .ne 7, 3) := by decide +kernel
theorem dX8_signedTo_8 : decode cX8_signedTo 8 = .ok (.iconst 1, 1) := by decide +kernel
theorem dX8_signedTo_9 : decode cX8_signedTo 9 = .ok (.goto 4, 3) := by decide +kernel
theorem dX8_signedTo_12 : decode cX8_signedTo 12 = .ok (.iconst 0, 1) := by decide +kernel
theorem dX8_signedTo_13 : decode cX8_signedTo 13 = .ok (.istore_n 2, 1) := by decide +kernel
theorem dX8_signedTo_14 : decode cX8_signedTo 14 = .ok (.iload_n 2, 1) := by decide +kernel
theorem dX8_signedTo_15 : decode cX8_signedTo 15 = .ok (.ifCond .eq 7, 3) := by decide +kernel
theorem dX8_signedTo_18 : decode cX8_signedTo 18 = .ok (.aload_n 0, 1) := by decide +kernel
theorem dX8_signedTo_19 : decode cX8_signedTo 19 = .ok (.invokevirtual 42, 3) := by decide +kernel
theorem dX8_signedTo_22 : decode cX8_signedTo 22 = .ok (.aload_n 0, 1) := by decide +kernel
theorem dX8_signedTo_23 : decode cX8_signedTo 23 = .ok (.iload_n 1, 1) := by decide +kernel
theorem dX8_signedTo_24 : decode cX8_signedTo 24 = .ok (.invokevirtual 84, 3) := by decide +kernel
theorem dX8_signedTo_27 : decode cX8_signedTo 27 = .ok (.istore_n 3, 1) := by decide +kernel
theorem dX8_signedTo_28 : decode cX8_signedTo 28 = .ok (.iload_n 2, 1) := by decide +kernel
theorem dX8_signedTo_29 : decode cX8_signedTo 29 = .ok (.ifCond .eq 8, 3) := by decide +kernel
theorem dX8_signedTo_32 : decode cX8_signedTo 32 = .ok (.iload_n 3, 1) := by decide +kernel
theorem dX8_signedTo_33 : decode cX8_signedTo 33 = .ok (.ineg, 1) := by decide +kernel
theorem dX8_signedTo_34 : decode cX8_signedTo 34 = .ok (.goto 4, 3) := by decide +kernel
theorem dX8_signedTo_37 : decode cX8_signedTo 37 = .ok (.iload_n 3, 1) := by decide +kernel
theorem dX8_signedTo_38 : decode cX8_signedTo 38 = .ok (.ireturn, 1) := by decide +kernel
set_option maxRecDepth 20000 in
theorem b_X8_signedTo_0 {k n : Nat} {x : Wx} {Z : Zt} {Q : Option Value → Wx → Zt → Prop} {a0 : Nat} {v1 : Int} (o_a0 : Is8 x a0)
    (h : Rg (Z a0 6) ∧ (((Z a0 6 ≠ 3) → (V mX8_signedTo k n 13 [some (r_ a0), some (i_ v1), none, none] [i_ 0] x Z Q)) ∧ ((Z a0 6 = 3) → (V mX8_signedTo k n 13 [some (r_ a0), some (i_ v1), none, none] [i_ 1] x Z Q)))) :
    V mX8_signedTo k n 0 [some (r_ a0), some (i_ v1), none, none] [] x Z Q :=
  V_aload_n dX8_signedTo_0 rfl (G_8_6 o_a0.1 lf_8_45 dX8_signedTo_1 (V_iconst dX8_signedTo_4 (V_icmp_ne (tgt := 12) dX8_signedTo_5 rfl h.1 (rg_c rfl) (fun c1 => V_iconst dX8_signedTo_12 (V_msk [true, true, false, false] rfl (h.2.1 c1))) (fun c1 => V_iconst dX8_signedTo_8 (V_goto (tgt := 13) dX8_signedTo_9 rfl (V_msk [true, true, false, false] rfl (h.2.2 c1)))))))
set_option maxRecDepth 20000 in
theorem b_X8_signedTo_13 {k n : Nat} {x : Wx} {Z : Zt} {Q : Option Value → Wx → Zt → Prop} {a0 : Nat} {v1 : Int} {t0 : Int} {a0_tape : Nat} (r_a0_tape : x.2.1 a0 3 = some a0_tape) (o_a0 : Is8 x a0) (s_a0_tape : x.1 a0_tape = some (101, 600))
    (h : Rg t0 ∧ (((t0 = 0) → (V mX8_signedTo k n 22 [some (r_ a0), some (i_ v1), some (i_ t0), none] [] x Z Q)) ∧ ((t0 ≠ 0) → (NInv (Z a0) ∧ BR (Z a0_tape) ∧ (∀ Z1 : Zt, Z1 = setR Z a0 (nxF (Z a0_tape) (Z a0)) → (V mX8_signedTo k n 22 [some (r_ a0), some (i_ v1), some (i_ t0), none] [] x Z1 Q)))))) :
    V mX8_signedTo k n 13 [some (r_ a0), some (i_ v1), none, none] [i_ t0] x Z Q :=
  V_istore_n (lv' := [some (r_ a0), some (i_ v1), some (i_ t0), none]) dX8_signedTo_13 (Nat.le_of_ble_eq_true rfl) rfl (V_iload_n dX8_signedTo_14 rfl (V_if_eq (tgt := 22) dX8_signedTo_15 rfl h.1 (fun c1 => V_msk [true, true, true, false] rfl (h.2.1 c1)) (fun c1 => V_aload_n dX8_signedTo_18 rfl (V_callV (k' := 0) (n' := 0) (t := 8) (q := (RX8, TX8, 8)) [] [] okX8_next o_a0.1 rfl rfl lm_8_42 liX8_next lqX8_next (Nat.le_of_ble_eq_true rfl) (Nat.le_of_ble_eq_true rfl) (Nat.le_of_ble_eq_true rfl) (cat_of rfl) (Nat.le_of_ble_eq_true rfl) (Nat.zero_le _) (Nat.zero_le _) rfl dX8_signedTo_19 (sp_X8_next o_a0 r_a0_tape s_a0_tape (h.2.2 c1).1 (h.2.2 c1).2.1 (V_nmZ (fun Z1 eZ1 => V_msk [true, true, true, false] rfl ((h.2.2 c1).2.2 Z1 eZ1))))))))
set_option maxRecDepth 20000 in
theorem b_X8_signedTo_22 {k n : Nat} {x : Wx} {Z : Zt} {Q : Option Value → Wx → Zt → Prop} {a0 : Nat} {v1 : Int} {v2 : Int} {a0_tape : Nat} (r_a0_tape : x.2.1 a0 3 = some a0_tape) (o_a0 : Is8 x a0) (s_a0_tape : x.1 a0_tape = some (101, 600))
    (h : Rg v1 ∧ RInv (Z a0_tape) (Z a0) ∧ BR (Z a0_tape) ∧ (∀ Z1 : Zt, Z1 = setR Z a0 (numF (Z a0_tape) v1 (Z a0)) → (Rg v2 ∧ (((v2 = 0) → (Q (some (i_ (numV (Z a0_tape) (Z a0)))) x Z1)) ∧ ((v2 ≠ 0) → (Q (some (i_ (-(numV (Z a0_tape) (Z a0))))) x Z1)))))) :
    V mX8_signedTo k n 22 [some (r_ a0), some (i_ v1), some (i_ v2), none] [] x Z Q :=
  V_aload_n dX8_signedTo_22 rfl (V_iload_n dX8_signedTo_23 rfl (V_callV (k' := 0) (n' := 0) (t := 8) (q := (RX8, TX8, 8)) [i_ v1] [] okX8_numberTo o_a0.1 rfl rfl lm_8_84 liX8_numberTo lqX8_numberTo (Nat.le_of_ble_eq_true rfl) (Nat.le_of_ble_eq_true rfl) (Nat.le_of_ble_eq_true rfl) (cat_of rfl) (Nat.le_of_ble_eq_true rfl) (Nat.zero_le _) (Nat.zero_le _) rfl dX8_signedTo_24 (sp_X8_numberTo o_a0 r_a0_tape s_a0_tape h.1 h.2.1 h.2.2.1 (V_nmZ (fun Z1 eZ1 => V_istore_n (lv' := [some (r_ a0), some (i_ v1), some (i_ v2), some (i_ (numV (Z a0_tape) (Z a0)))]) dX8_signedTo_27 (Nat.le_of_ble_eq_true rfl) rfl (V_iload_n dX8_signedTo_28 rfl (V_if_eq (tgt := 37) dX8_signedTo_29 rfl (h.2.2.2 Z1 eZ1).1 (fun c1 => V_iload_n dX8_signedTo_37 rfl (V_iret (ty := .int) dX8_signedTo_38 rfl rfl ((h.2.2.2 Z1 eZ1).2.1 c1))) (fun c1 => V_iload_n dX8_signedTo_32 rfl (V_ineg dX8_signedTo_33 (V_goto (tgt := 38) dX8_signedTo_34 rfl (V_iret (ty := .int) dX8_signedTo_38 rfl rfl ((h.2.2.2 Z1 eZ1).2.2 c1))))))))))))
theorem sp_X8_signedTo {k n : Nat} {x : Wx} {Z : Zt} {Q : Option Value → Wx → Zt → Prop} {a tp : Nat} {m : Int} (o : Is8 x a) (hr : x.2.1 a 3 = some tp) (hs : x.1 tp = some (101, 600)) (hm : Rg m) (hi : RInv (Z tp) (Z a)) (hb : BR (Z tp)) (h : Q (some (i_ (sgnV (Z tp) (Z a)))) x (setR Z a (sgnF (Z tp) m (Z a)))) : V mX8_signedTo k n 0 [some (r_ a), some (i_ m), none, none] [] x Z Q := by
  have hne := (rd_ne o hs).1
  unfold sgnV sgnF at h
  refine b_X8_signedTo_0 o ⟨hi.f6, fun c => b_X8_signedTo_13 hr o hs ⟨⟨by decide, by decide⟩, fun _ => b_X8_signedTo_22 hr o hs ⟨hm, hi, hb, fun Z1 e1 => ⟨⟨by decide, by decide⟩, fun _ => ?_, fun c2 => absurd rfl c2⟩⟩, fun c2 => absurd rfl c2⟩, fun c => b_X8_signedTo_13 hr o hs ⟨⟨by decide, by decide⟩, fun c2 => absurd c2 (by decide), fun _ => ⟨hi.n, hb, fun Z1 e1 => b_X8_signedTo_22 hr o hs ?_⟩⟩⟩
  · rw [if_neg c, if_neg c] at h
    rw [e1]; exact h
  · rw [if_pos c, if_pos c] at h
    rw [e1, setR_at, setR_ne _ _ hne]
    refine ⟨hm, hi.nx, hb, fun Z2 e2 => ⟨⟨by decide, by decide⟩, fun c2 => absurd c2 (by decide), fun _ => ?_⟩⟩
    rw [e2, setR_two]; exact h
/-- the reader and its row -/
abbrev Rq : Type := (Nat → Int) × (Nat → Int)
def setS (Z : Zt) (a : Nat) (q : Rq) : Zt := setR (setR Z a q.1) (a + 1) q.2
theorem setS_a (Z : Zt) (a : Nat) (q : Rq) : setS Z a q a = q.1 := by
  unfold setS
  rw [setR_ne _ _ (by omega), setR_at]
theorem setS_r (Z : Zt) (a : Nat) (q : Rq) : setS Z a q (a + 1) = q.2 := setR_at _ _ _
theorem setS_ne (Z : Zt) {a b : Nat} (q : Rq) (h : b ≠ a ∧ b ≠ a + 1) : setS Z a q b = Z b := by
  unfold setS
  rw [setR_ne _ _ h.2, setR_ne _ _ h.1]
theorem setS_self (Z : Zt) (a : Nat) : setS Z a (Z a, Z (a + 1)) = Z := by
  unfold setS
  rw [setR_self, setR_self]
theorem setR_setS (Z : Zt) (a : Nat) (q : Rq) (g : Nat → Int) : setR (setS Z a q) a g = setS Z a (g, q.2) := by
  funext b
  unfold setS setR
  by_cases h : b = a
  · rw [if_pos h, if_neg (by omega), if_pos h]
  · rw [if_neg h]
    by_cases h2 : b = a + 1
    · rw [if_pos h2, if_pos h2]
    · rw [if_neg h2, if_neg h2, if_neg h, if_neg h]
theorem up_setS (Z : Zt) (a : Nat) (q : Rq) (i : Nat) (v : Int) : up (setS Z a q) (a + 1) i v = setS Z a (q.1, upf q.2 i v) := up_setR _ _ _ _ _
theorem setR_asS (Z : Zt) (a : Nat) (g : Nat → Int) : setR Z a g = setS Z a (g, Z (a + 1)) := by
  have := setR_setS Z a (Z a, Z (a + 1)) g
  rw [setS_self] at this
  exact this
theorem up_asS (Z : Zt) (a i : Nat) (v : Int) : up Z (a + 1) i v = setS Z a (Z a, upf (Z (a + 1)) i v) := by
  have := up_setS Z a (Z a, Z (a + 1)) i v
  rw [setS_self] at this
  exact this
theorem setS_two (Z : Zt) (a : Nat) (q r : Rq) : setS (setS Z a q) a r = setS Z a r := by
  funext b
  by_cases h : b = a
  · rw [h, setS_a, setS_a]
  · by_cases h2 : b = a + 1
    · rw [h2, setS_r, setS_r]
    · rw [setS_ne _ _ ⟨h, h2⟩, setS_ne _ _ ⟨h, h2⟩, setS_ne _ _ ⟨h, h2⟩]
def cnI (s : Nat → Int) (i : Nat) (q : Rq) : Rq := (numF s 12 q.1, upf q.2 (2 + i) (numV s q.1))
def cnN (s : Nat → Int) : Nat → Nat → Rq → Rq
  | 0, _, q => q
  | m + 1, i, q => cnN s m (i + 1) (cnI s i q)
def cnS (s : Nat → Int) (q : Rq) : Rq := if (cnN s 4 0 q).1 6 = 2 then ((cnN s 2 4 (cnN s 4 0 q)).1, upf (cnN s 2 4 (cnN s 4 0 q)).2 1 5) else ((cnN s 4 0 q).1, upf (upf (upf (cnN s 4 0 q).2 6 0) 7 0) 1 3)
theorem RInv.cn {s : Nat → Int} : ∀ (m i : Nat) {q : Rq}, RInv s q.1 → RInv s (cnN s m i q).1
  | 0, _, _, h => h
  | m + 1, i, q, h => by
    unfold cnN
    exact RInv.cn m (i + 1) (q := cnI s i q) (RInv.num h)
theorem dX8_curveNumbers_0 : decode cX8_curveNumbers 0 = .ok (.iconst 0, 1) := by decide +kernel
theorem dX8_curveNumbers_1 : decode cX8_curveNumbers 1 = .ok (.istore_n 1, 1) := by decide +kernel
theorem dX8_curveNumbers_2 : decode cX8_curveNumbers 2 = .ok (.iload_n 1, 1) := by decide +kernel
theorem dX8_curveNumbers_3 : decode cX8_curveNumbers 3 = .ok (.iconst 4, 1) := by decide +kernel
theorem dX8_curveNumbers_4 : decode cX8_curveNumbers 4 = .ok (.if_icmp .ge 23, 3) := by decide +kernel
theorem dX8_curveNumbers_7 : decode cX8_curveNumbers 7 = .ok (.aload_n 0, 1) := by decide +kernel
theorem dX8_curveNumbers_8 : decode cX8_curveNumbers 8 = .ok (.getfield 9, 3) := by decide +kernel
theorem dX8_curveNumbers_11 : decode cX8_curveNumbers 11 = .ok (.iconst 2, 1) := by decide +kernel
theorem dX8_curveNumbers_12 : decode cX8_curveNumbers 12 = .ok (.iload_n 1, 1) := by decide +kernel
theorem dX8_curveNumbers_13 : decode cX8_curveNumbers 13 = .ok (.iadd, 1) := by decide +kernel
theorem dX8_curveNumbers_14 : decode cX8_curveNumbers 14 = .ok (.aload_n 0, 1) := by decide +kernel
theorem dX8_curveNumbers_15 : decode cX8_curveNumbers 15 = .ok (.bipush 12, 2) := by decide +kernel
theorem dX8_curveNumbers_17 : decode cX8_curveNumbers 17 = .ok (.invokevirtual 84, 3) := by decide +kernel
theorem dX8_curveNumbers_20 : decode cX8_curveNumbers 20 = .ok (.iastore, 1) := by decide +kernel
theorem dX8_curveNumbers_21 : decode cX8_curveNumbers 21 = .ok (.iinc 1 1, 3) := by decide +kernel
theorem dX8_curveNumbers_24 : decode cX8_curveNumbers 24 = .ok (.goto (-22), 3) := by decide +kernel
theorem dX8_curveNumbers_27 : decode cX8_curveNumbers 27 = .ok (.aload_n 0, 1) := by decide +kernel
theorem dX8_curveNumbers_28 : decode cX8_curveNumbers 28 = .ok (.getfield 45, 3) := by decide +kernel
theorem dX8_curveNumbers_31 : decode cX8_curveNumbers 31 = .ok (.iconst 2, 1) := by decide +kernel
theorem dX8_curveNumbers_32 : decode cX8_curveNumbers 32 = .ok (.if_icmp .ne 7, 3) := by decide +kernel
theorem dX8_curveNumbers_35 : decode cX8_curveNumbers 35 = .ok (.iconst 1, 1) := by decide +kernel
theorem dX8_curveNumbers_36 : decode cX8_curveNumbers 36 = .ok (.goto 4, 3) := by decide +kernel
theorem dX8_curveNumbers_39 : decode cX8_curveNumbers 39 = .ok (.iconst 0, 1) := by decide +kernel
theorem dX8_curveNumbers_40 : decode cX8_curveNumbers 40 = .ok (.istore_n 1, 1) := by decide +kernel
theorem dX8_curveNumbers_41 : decode cX8_curveNumbers 41 = .ok (.iconst 4, 1) := by decide +kernel
theorem dX8_curveNumbers_42 : decode cX8_curveNumbers 42 = .ok (.istore_n 2, 1) := by decide +kernel
theorem dX8_curveNumbers_43 : decode cX8_curveNumbers 43 = .ok (.iload_n 2, 1) := by decide +kernel
theorem dX8_curveNumbers_44 : decode cX8_curveNumbers 44 = .ok (.bipush 6, 2) := by decide +kernel
theorem dX8_curveNumbers_46 : decode cX8_curveNumbers 46 = .ok (.if_icmp .ge 31, 3) := by decide +kernel
theorem dX8_curveNumbers_49 : decode cX8_curveNumbers 49 = .ok (.aload_n 0, 1) := by decide +kernel
theorem dX8_curveNumbers_50 : decode cX8_curveNumbers 50 = .ok (.getfield 9, 3) := by decide +kernel
theorem dX8_curveNumbers_53 : decode cX8_curveNumbers 53 = .ok (.iconst 2, 1) := by decide +kernel
theorem dX8_curveNumbers_54 : decode cX8_curveNumbers 54 = .ok (.iload_n 2, 1) := by decide +kernel
theorem dX8_curveNumbers_55 : decode cX8_curveNumbers 55 = .ok (.iadd, 1) := by decide +kernel
theorem dX8_curveNumbers_56 : decode cX8_curveNumbers 56 = .ok (.iload_n 1, 1) := by decide +kernel
theorem dX8_curveNumbers_57 : decode cX8_curveNumbers 57 = .ok (.ifCond .eq 12, 3) := by decide +kernel
theorem dX8_curveNumbers_60 : decode cX8_curveNumbers 60 = .ok (.aload_n 0, 1) := by decide +kernel
theorem dX8_curveNumbers_61 : decode cX8_curveNumbers 61 = .ok (.bipush 12, 2) := by decide +kernel
theorem dX8_curveNumbers_63 : decode cX8_curveNumbers 63 = .ok (.invokevirtual 84, 3) := by decide +kernel
theorem dX8_curveNumbers_66 : decode cX8_curveNumbers 66 = .ok (.goto 4, 3) := by decide +kernel
theorem dX8_curveNumbers_69 : decode cX8_curveNumbers 69 = .ok (.iconst 0, 1) := by decide +kernel
theorem dX8_curveNumbers_70 : decode cX8_curveNumbers 70 = .ok (.iastore, 1) := by decide +kernel
theorem dX8_curveNumbers_71 : decode cX8_curveNumbers 71 = .ok (.iinc 2 1, 3) := by decide +kernel
theorem dX8_curveNumbers_74 : decode cX8_curveNumbers 74 = .ok (.goto (-31), 3) := by decide +kernel
theorem dX8_curveNumbers_77 : decode cX8_curveNumbers 77 = .ok (.aload_n 0, 1) := by decide +kernel
theorem dX8_curveNumbers_78 : decode cX8_curveNumbers 78 = .ok (.getfield 9, 3) := by decide +kernel
theorem dX8_curveNumbers_81 : decode cX8_curveNumbers 81 = .ok (.iconst 1, 1) := by decide +kernel
theorem dX8_curveNumbers_82 : decode cX8_curveNumbers 82 = .ok (.iload_n 1, 1) := by decide +kernel
theorem dX8_curveNumbers_83 : decode cX8_curveNumbers 83 = .ok (.ifCond .eq 7, 3) := by decide +kernel
theorem dX8_curveNumbers_86 : decode cX8_curveNumbers 86 = .ok (.iconst 5, 1) := by decide +kernel
theorem dX8_curveNumbers_87 : decode cX8_curveNumbers 87 = .ok (.goto 4, 3) := by decide +kernel
theorem dX8_curveNumbers_90 : decode cX8_curveNumbers 90 = .ok (.iconst 3, 1) := by decide +kernel
theorem dX8_curveNumbers_91 : decode cX8_curveNumbers 91 = .ok (.iastore, 1) := by decide +kernel
theorem dX8_curveNumbers_92 : decode cX8_curveNumbers 92 = .ok (.return_, 1) := by decide +kernel
set_option maxRecDepth 20000 in
theorem b_X8_curveNumbers_0 {k n : Nat} {x : Wx} {Z : Zt} {Q : Option Value → Wx → Zt → Prop} {a0 : Nat} 
    (h : V mX8_curveNumbers k n 2 [some (r_ a0), some (i_ 0), none] [] x Z Q) :
    V mX8_curveNumbers k n 0 [some (r_ a0), none, none] [] x Z Q :=
  V_iconst dX8_curveNumbers_0 (V_istore_n (lv' := [some (r_ a0), some (i_ 0), none]) dX8_curveNumbers_1 (Nat.le_of_ble_eq_true rfl) rfl (V_msk [true, true, false] rfl h))
set_option maxRecDepth 20000 in
theorem b_X8_curveNumbers_2 {k n : Nat} {x : Wx} {Z : Zt} {Q : Option Value → Wx → Zt → Prop} {a0 : Nat} {v1 : Int} {a0_tape : Nat} (r_a0_tape : x.2.1 a0 3 = some a0_tape) (o_a0 : Is8 x a0) (s_a0_tape : x.1 a0_tape = some (101, 600))
    (h : Rg v1 ∧ (((4 ≤ v1) → (Rg (Z a0 6) ∧ (((Z a0 6 ≠ 2) → (V mX8_curveNumbers k n 40 [some (r_ a0), none, none] [i_ 0] x Z Q)) ∧ ((Z a0 6 = 2) → (V mX8_curveNumbers k n 40 [some (r_ a0), none, none] [i_ 1] x Z Q))))) ∧ ((v1 < 4) → (Rg (12 : Int) ∧ RInv (Z a0_tape) (Z a0) ∧ BR (Z a0_tape) ∧ (∀ Z1 : Zt, Z1 = setR Z a0 (numF (Z a0_tape) (12 : Int) (Z a0)) → (0 ≤ 2 + v1 ∧ 2 + v1 < 26 ∧ (∀ Z2 : Zt, Z2 = up Z1 (a0 + 1) (2 + v1).toNat (numV (Z a0_tape) (Z a0)) → (V mX8_curveNumbers k n 2 [some (r_ a0), some (i_ (v1 + 1)), none] [] x Z2 Q)))))))) :
    V mX8_curveNumbers k n 2 [some (r_ a0), some (i_ v1), none] [] x Z Q :=
  V_iload_n dX8_curveNumbers_2 rfl (V_iconst dX8_curveNumbers_3 (V_icmp_ge (tgt := 27) dX8_curveNumbers_4 rfl h.1 (rg_c rfl) (fun c1 => V_aload_n dX8_curveNumbers_27 rfl (G_8_6 o_a0.1 lf_8_45 dX8_curveNumbers_28 (V_iconst dX8_curveNumbers_31 (V_icmp_ne (tgt := 39) dX8_curveNumbers_32 rfl (h.2.1 c1).1 (rg_c rfl) (fun c2 => V_iconst dX8_curveNumbers_39 (V_msk [true, false, false] rfl ((h.2.1 c1).2.1 c2))) (fun c2 => V_iconst dX8_curveNumbers_35 (V_goto (tgt := 40) dX8_curveNumbers_36 rfl (V_msk [true, false, false] rfl ((h.2.1 c1).2.2 c2)))))))) (fun c1 => V_aload_n dX8_curveNumbers_7 rfl (G_8_0 o_a0.1 o_a0.2.1 lf_8_9 dX8_curveNumbers_8 (V_iconst dX8_curveNumbers_11 (V_iload_n dX8_curveNumbers_12 rfl (V_iadd dX8_curveNumbers_13 (V_aload_n dX8_curveNumbers_14 rfl (V_bipush dX8_curveNumbers_15 rfl (V_callV (k' := 0) (n' := 0) (t := 8) (q := (RX8, TX8, 8)) [i_ 12] [i_ (2 + v1), r_ (a0 + 1)] okX8_numberTo o_a0.1 rfl rfl lm_8_84 liX8_numberTo lqX8_numberTo (Nat.le_of_ble_eq_true rfl) (Nat.le_of_ble_eq_true rfl) (Nat.le_of_ble_eq_true rfl) (cat_of rfl) (Nat.le_of_ble_eq_true rfl) (Nat.zero_le _) (Nat.zero_le _) rfl dX8_curveNumbers_17 (sp_X8_numberTo o_a0 r_a0_tape s_a0_tape (h.2.2 c1).1 (h.2.2 c1).2.1 (h.2.2 c1).2.2.1 (V_nmZ (fun Z1 eZ1 => V_iast (t := 100) o_a0.2.2 (by decide) (by decide) rfl ((h.2.2 c1).2.2.2 Z1 eZ1).1 ((h.2.2 c1).2.2.2 Z1 eZ1).2.1 (Nat.le_of_ble_eq_true rfl) dX8_curveNumbers_20 (V_nmZ (fun Z2 eZ2 => V_iinc (lv' := [some (r_ a0), some (i_ (v1 + 1)), none]) dX8_curveNumbers_21 rfl (Nat.le_of_ble_eq_true rfl) rfl (V_goto (tgt := 2) dX8_curveNumbers_24 rfl (V_msk [true, true, false] rfl (((h.2.2 c1).2.2.2 Z1 eZ1).2.2 Z2 eZ2))))))))))))))))))
set_option maxRecDepth 20000 in
theorem b_X8_curveNumbers_40 {k n : Nat} {x : Wx} {Z : Zt} {Q : Option Value → Wx → Zt → Prop} {a0 : Nat} {t0 : Int} 
    (h : V mX8_curveNumbers k n 43 [some (r_ a0), some (i_ t0), some (i_ 4)] [] x Z Q) :
    V mX8_curveNumbers k n 40 [some (r_ a0), none, none] [i_ t0] x Z Q :=
  V_istore_n (lv' := [some (r_ a0), some (i_ t0), none]) dX8_curveNumbers_40 (Nat.le_of_ble_eq_true rfl) rfl (V_iconst dX8_curveNumbers_41 (V_istore_n (lv' := [some (r_ a0), some (i_ t0), some (i_ 4)]) dX8_curveNumbers_42 (Nat.le_of_ble_eq_true rfl) rfl (V_msk [true, true, true] rfl h)))
set_option maxRecDepth 20000 in
theorem b_X8_curveNumbers_43 {k n : Nat} {x : Wx} {Z : Zt} {Q : Option Value → Wx → Zt → Prop} {a0 : Nat} {v1 : Int} {v2 : Int} {a0_tape : Nat} (r_a0_tape : x.2.1 a0 3 = some a0_tape) (o_a0 : Is8 x a0) (s_a0_tape : x.1 a0_tape = some (101, 600))
    (h : Rg v2 ∧ (((6 ≤ v2) → (Rg v1 ∧ (((v1 = 0) → (V mX8_curveNumbers k n 91 [none, none, none] [i_ 3, i_ 1, r_ (a0 + 1)] x Z Q)) ∧ ((v1 ≠ 0) → (V mX8_curveNumbers k n 91 [none, none, none] [i_ 5, i_ 1, r_ (a0 + 1)] x Z Q))))) ∧ ((v2 < 6) → (Rg v1 ∧ (((v1 = 0) → (V mX8_curveNumbers k n 70 [some (r_ a0), some (i_ v1), some (i_ v2)] [i_ 0, i_ (2 + v2), r_ (a0 + 1)] x Z Q)) ∧ ((v1 ≠ 0) → (Rg (12 : Int) ∧ RInv (Z a0_tape) (Z a0) ∧ BR (Z a0_tape) ∧ (∀ Z1 : Zt, Z1 = setR Z a0 (numF (Z a0_tape) (12 : Int) (Z a0)) → (V mX8_curveNumbers k n 70 [some (r_ a0), some (i_ v1), some (i_ v2)] [i_ (numV (Z a0_tape) (Z a0)), i_ (2 + v2), r_ (a0 + 1)] x Z1 Q))))))))) :
    V mX8_curveNumbers k n 43 [some (r_ a0), some (i_ v1), some (i_ v2)] [] x Z Q :=
  V_iload_n dX8_curveNumbers_43 rfl (V_bipush dX8_curveNumbers_44 rfl (V_icmp_ge (tgt := 77) dX8_curveNumbers_46 rfl h.1 (rg_c rfl) (fun c1 => V_aload_n dX8_curveNumbers_77 rfl (G_8_0 o_a0.1 o_a0.2.1 lf_8_9 dX8_curveNumbers_78 (V_iconst dX8_curveNumbers_81 (V_iload_n dX8_curveNumbers_82 rfl (V_if_eq (tgt := 90) dX8_curveNumbers_83 rfl (h.2.1 c1).1 (fun c2 => V_iconst dX8_curveNumbers_90 (V_msk [false, false, false] rfl ((h.2.1 c1).2.1 c2))) (fun c2 => V_iconst dX8_curveNumbers_86 (V_goto (tgt := 91) dX8_curveNumbers_87 rfl (V_msk [false, false, false] rfl ((h.2.1 c1).2.2 c2))))))))) (fun c1 => V_aload_n dX8_curveNumbers_49 rfl (G_8_0 o_a0.1 o_a0.2.1 lf_8_9 dX8_curveNumbers_50 (V_iconst dX8_curveNumbers_53 (V_iload_n dX8_curveNumbers_54 rfl (V_iadd dX8_curveNumbers_55 (V_iload_n dX8_curveNumbers_56 rfl (V_if_eq (tgt := 69) dX8_curveNumbers_57 rfl (h.2.2 c1).1 (fun c3 => V_iconst dX8_curveNumbers_69 (V_msk [true, true, true] rfl ((h.2.2 c1).2.1 c3))) (fun c3 => V_aload_n dX8_curveNumbers_60 rfl (V_bipush dX8_curveNumbers_61 rfl (V_callV (k' := 0) (n' := 0) (t := 8) (q := (RX8, TX8, 8)) [i_ 12] [i_ (2 + v2), r_ (a0 + 1)] okX8_numberTo o_a0.1 rfl rfl lm_8_84 liX8_numberTo lqX8_numberTo (Nat.le_of_ble_eq_true rfl) (Nat.le_of_ble_eq_true rfl) (Nat.le_of_ble_eq_true rfl) (cat_of rfl) (Nat.le_of_ble_eq_true rfl) (Nat.zero_le _) (Nat.zero_le _) rfl dX8_curveNumbers_63 (sp_X8_numberTo o_a0 r_a0_tape s_a0_tape ((h.2.2 c1).2.2 c3).1 ((h.2.2 c1).2.2 c3).2.1 ((h.2.2 c1).2.2 c3).2.2.1 (V_nmZ (fun Z1 eZ1 => V_goto (tgt := 70) dX8_curveNumbers_66 rfl (V_msk [true, true, true] rfl (((h.2.2 c1).2.2 c3).2.2.2 Z1 eZ1)))))))))))))))))
set_option maxRecDepth 20000 in
theorem b_X8_curveNumbers_70 {k n : Nat} {x : Wx} {Z : Zt} {Q : Option Value → Wx → Zt → Prop} {a0 : Nat} {v1 : Int} {v2 : Int} {b0_ : Nat} {t1 : Int} {t2 : Int} (s_b0 : x.1 b0_ = some (100, 26))
    (h : 0 ≤ t1 ∧ t1 < 26 ∧ (∀ Z1 : Zt, Z1 = up Z b0_ t1.toNat t2 → (V mX8_curveNumbers k n 43 [some (r_ a0), some (i_ v1), some (i_ (v2 + 1))] [] x Z1 Q))) :
    V mX8_curveNumbers k n 70 [some (r_ a0), some (i_ v1), some (i_ v2)] [i_ t2, i_ t1, r_ b0_] x Z Q :=
  V_iast (t := 100) s_b0 (by decide) (by decide) rfl h.1 h.2.1 (Nat.le_of_ble_eq_true rfl) dX8_curveNumbers_70 (V_nmZ (fun Z1 eZ1 => V_iinc (lv' := [some (r_ a0), some (i_ v1), some (i_ (v2 + 1))]) dX8_curveNumbers_71 rfl (Nat.le_of_ble_eq_true rfl) rfl (V_goto (tgt := 43) dX8_curveNumbers_74 rfl (V_msk [true, true, true] rfl (h.2.2 Z1 eZ1)))))
set_option maxRecDepth 20000 in
theorem b_X8_curveNumbers_91 {k n : Nat} {x : Wx} {Z : Zt} {Q : Option Value → Wx → Zt → Prop} {b0_ : Nat} {t1 : Int} {t2 : Int} (s_b0 : x.1 b0_ = some (100, 26))
    (h : 0 ≤ t1 ∧ t1 < 26 ∧ (∀ Z1 : Zt, Z1 = up Z b0_ t1.toNat t2 → (Q none x Z1))) :
    V mX8_curveNumbers k n 91 [none, none, none] [i_ t2, i_ t1, r_ b0_] x Z Q :=
  V_iast (t := 100) s_b0 (by decide) (by decide) rfl h.1 h.2.1 (Nat.le_of_ble_eq_true rfl) dX8_curveNumbers_91 (V_nmZ (fun Z1 eZ1 => V_ret dX8_curveNumbers_92 rfl (h.2.2 Z1 eZ1)))
theorem sp_X8_curveNumbers {k n : Nat} {x : Wx} {Z : Zt} {Q : Option Value → Wx → Zt → Prop} {a tp : Nat} (o : Is8 x a) (hr : x.2.1 a 3 = some tp) (hs : x.1 tp = some (101, 600)) (hi : RInv (Z tp) (Z a)) (hb : BR (Z tp)) (h : Q none x (setS Z a (cnS (Z tp) (Z a, Z (a + 1))))) : V mX8_curveNumbers k n 0 [some (r_ a), none, none] [] x Z Q := by
  have hne := rd_ne o hs
  have at_tp : ∀ q : Rq, setS Z a q tp = Z tp := fun q => setS_ne Z q hne
  have lp1 : ∀ (m i : Nat) (v : Int) (q : Rq), v = i → i + m = 4 → RInv (Z tp) q.1 → V mX8_curveNumbers k n 2 [some (r_ a), some (i_ 4), none] [] x (setS Z a (cnN (Z tp) m i q)) Q → V mX8_curveNumbers k n 2 [some (r_ a), some (i_ v), none] [] x (setS Z a q) Q := by
    intro m
    induction m with
    | zero =>
      intro i v q hv hm hq hV
      rw [hv, show i = 4 by omega]
      exact hV
    | succ m ih =>
      intro i v q hv hm hq hV
      refine b_X8_curveNumbers_2 hr o hs ?_
      rw [setS_a, at_tp]
      refine ⟨⟨by omega, by omega⟩, fun c => by omega, fun c => ⟨⟨by decide, by decide⟩, hq, hb, fun Z1 e1 => ⟨by omega, by omega, fun Z2 e2 => ?_⟩⟩⟩
      rw [setR_setS] at e1
      rw [e1, up_setS, show (2 + v).toNat = 2 + i by omega] at e2
      rw [e2]
      exact ih (i + 1) (v + 1) (cnI (Z tp) i q) (by omega) (by omega) (RInv.num hq) hV
  have lp2 : ∀ (m i : Nat) (v : Int) (q : Rq), v = i → i + m = 6 → RInv (Z tp) q.1 → V mX8_curveNumbers k n 43 [some (r_ a), some (i_ 1), some (i_ 6)] [] x (setS Z a (cnN (Z tp) m i q)) Q → V mX8_curveNumbers k n 43 [some (r_ a), some (i_ 1), some (i_ v)] [] x (setS Z a q) Q := by
    intro m
    induction m with
    | zero =>
      intro i v q hv hm hq hV
      rw [hv, show i = 6 by omega]
      exact hV
    | succ m ih =>
      intro i v q hv hm hq hV
      refine b_X8_curveNumbers_43 hr o hs ?_
      rw [setS_a, at_tp]
      refine ⟨⟨by omega, by omega⟩, fun c => by omega, fun c => ⟨⟨by decide, by decide⟩, fun c2 => absurd c2 (by decide), fun _ => ⟨⟨by decide, by decide⟩, hq, hb, fun Z1 e1 => b_X8_curveNumbers_70 o.2.2 ⟨by omega, by omega, fun Z2 e2 => ?_⟩⟩⟩⟩
      rw [setR_setS] at e1
      rw [e1, up_setS, show (2 + v).toNat = 2 + i by omega] at e2
      rw [e2]
      exact ih (i + 1) (v + 1) (cnI (Z tp) i q) (by omega) (by omega) (RInv.num hq) hV
  refine b_X8_curveNumbers_0 ?_
  have h0 : V mX8_curveNumbers k n 2 [some (r_ a), some (i_ 0), none] [] x (setS Z a (Z a, Z (a + 1))) Q := by
    refine lp1 4 0 0 _ rfl rfl hi ?_
    unfold cnS at h
    have hq := RInv.cn (s := Z tp) 4 0 (q := (Z a, Z (a + 1))) hi
    generalize cnN (Z tp) 4 0 (Z a, Z (a + 1)) = q at h hq ⊢
    refine b_X8_curveNumbers_2 hr o hs ?_
    rw [setS_a, at_tp]
    refine ⟨⟨by decide, by decide⟩, fun _ => ⟨hq.f6, fun c => b_X8_curveNumbers_40 (b_X8_curveNumbers_43 hr o hs ?_), fun c => b_X8_curveNumbers_40 ?_⟩, fun c => absurd c (by decide)⟩
    · rw [if_neg c] at h
      refine ⟨⟨by decide, by decide⟩, fun c2 => absurd c2 (by decide), fun _ => ⟨⟨by decide, by decide⟩, fun _ => b_X8_curveNumbers_70 o.2.2 ⟨by decide, by decide, fun Z2 e2 => b_X8_curveNumbers_43 hr o hs ?_⟩, fun c2 => absurd rfl c2⟩⟩
      refine ⟨⟨by decide, by decide⟩, fun c2 => absurd c2 (by decide), fun _ => ⟨⟨by decide, by decide⟩, fun _ => b_X8_curveNumbers_70 o.2.2 ⟨by decide, by decide, fun Z3 e3 => b_X8_curveNumbers_43 hr o hs ?_⟩, fun c2 => absurd rfl c2⟩⟩
      refine ⟨⟨by decide, by decide⟩, fun _ => ⟨⟨by decide, by decide⟩, fun _ => b_X8_curveNumbers_91 o.2.2 ⟨by decide, by decide, fun Z4 e4 => ?_⟩, fun c2 => absurd rfl c2⟩, fun c2 => absurd c2 (by decide)⟩
      rw [up_setS] at e2
      rw [e2, up_setS] at e3
      rw [e4, e3, up_setS]
      exact h
    · rw [if_pos c] at h
      refine lp2 2 4 4 q rfl rfl hq (b_X8_curveNumbers_43 hr o hs ?_)
      refine ⟨⟨by decide, by decide⟩, fun _ => ⟨⟨by decide, by decide⟩, fun c2 => absurd c2 (by decide), fun _ => b_X8_curveNumbers_91 o.2.2 ⟨by decide, by decide, fun Z4 e4 => ?_⟩⟩, fun c2 => absurd c2 (by decide)⟩
      rw [e4, up_setS]
      exact h
  rw [setS_self] at h0
  exact h0
