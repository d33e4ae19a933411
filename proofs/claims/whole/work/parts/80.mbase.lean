/-! ===== the reference: small helpers ===== -/
theorem dX12_isIn_0 : decode cX12_isIn 0 = .ok (.iload_n 0, 1) := by decide +kernel
theorem dX12_isIn_1 : decode cX12_isIn 1 = .ok (.iload_n 1, 1) := by decide +kernel
theorem dX12_isIn_2 : decode cX12_isIn 2 = .ok (.if_icmp .lt 12, 3) := by decide +kernel
theorem dX12_isIn_5 : decode cX12_isIn 5 = .ok (.iload_n 0, 1) := by decide +kernel
theorem dX12_isIn_6 : decode cX12_isIn 6 = .ok (.iload_n 2, 1) := by decide +kernel
theorem dX12_isIn_7 : decode cX12_isIn 7 = .ok (.if_icmp .gt 7, 3) := by decide +kernel
theorem dX12_isIn_10 : decode cX12_isIn 10 = .ok (.iconst 1, 1) := by decide +kernel
theorem dX12_isIn_11 : decode cX12_isIn 11 = .ok (.goto 4, 3) := by decide +kernel
theorem dX12_isIn_14 : decode cX12_isIn 14 = .ok (.iconst 0, 1) := by decide +kernel
theorem dX12_isIn_15 : decode cX12_isIn 15 = .ok (.ireturn, 1) := by decide +kernel
set_option maxRecDepth 20000 in
theorem b_X12_isIn_0 {k n : Nat} {x : Wx} {Z : Zt} {Q : Option Value → Wx → Zt → Prop} {v0 : Int} {v1 : Int} {v2 : Int} 
    (h : Rg v0 ∧ Rg v1 ∧ (((v0 < v1) → (Q (some (i_ 0)) x Z)) ∧ ((v1 ≤ v0) → (Rg v2 ∧ (((v2 < v0) → (Q (some (i_ 0)) x Z)) ∧ ((v0 ≤ v2) → (Q (some (i_ 1)) x Z))))))) :
    V mX12_isIn k n 0 [some (i_ v0), some (i_ v1), some (i_ v2)] [] x Z Q :=
  V_iload_n dX12_isIn_0 rfl (V_iload_n dX12_isIn_1 rfl (V_icmp_lt (tgt := 14) dX12_isIn_2 rfl h.1 h.2.1 (fun c1 => V_iconst dX12_isIn_14 (V_iret (ty := .boolean) dX12_isIn_15 rfl rfl (h.2.2.1 c1))) (fun c1 => V_iload_n dX12_isIn_5 rfl (V_iload_n dX12_isIn_6 rfl (V_icmp_gt (tgt := 14) dX12_isIn_7 rfl h.1 (h.2.2.2 c1).1 (fun c2 => V_iconst dX12_isIn_14 (V_iret (ty := .boolean) dX12_isIn_15 rfl rfl ((h.2.2.2 c1).2.1 c2))) (fun c2 => V_iconst dX12_isIn_10 (V_goto (tgt := 15) dX12_isIn_11 rfl (V_iret (ty := .boolean) dX12_isIn_15 rfl rfl ((h.2.2.2 c1).2.2 c2)))))))))
theorem dX12_isLetter_0 : decode cX12_isLetter 0 = .ok (.iload_n 0, 1) := by decide +kernel
theorem dX12_isLetter_1 : decode cX12_isLetter 1 = .ok (.bipush 97, 2) := by decide +kernel
theorem dX12_isLetter_3 : decode cX12_isLetter 3 = .ok (.if_icmp .lt 13, 3) := by decide +kernel
theorem dX12_isLetter_6 : decode cX12_isLetter 6 = .ok (.iload_n 0, 1) := by decide +kernel
theorem dX12_isLetter_7 : decode cX12_isLetter 7 = .ok (.bipush 122, 2) := by decide +kernel
theorem dX12_isLetter_9 : decode cX12_isLetter 9 = .ok (.if_icmp .gt 7, 3) := by decide +kernel
theorem dX12_isLetter_12 : decode cX12_isLetter 12 = .ok (.iconst 1, 1) := by decide +kernel
theorem dX12_isLetter_13 : decode cX12_isLetter 13 = .ok (.goto 4, 3) := by decide +kernel
theorem dX12_isLetter_16 : decode cX12_isLetter 16 = .ok (.iconst 0, 1) := by decide +kernel
theorem dX12_isLetter_17 : decode cX12_isLetter 17 = .ok (.ireturn, 1) := by decide +kernel
set_option maxRecDepth 20000 in
theorem b_X12_isLetter_0 {k n : Nat} {x : Wx} {Z : Zt} {Q : Option Value → Wx → Zt → Prop} {v0 : Int} 
    (h : Rg v0 ∧ (((v0 < 97) → (Q (some (i_ 0)) x Z)) ∧ ((97 ≤ v0) → (((122 < v0) → (Q (some (i_ 0)) x Z)) ∧ ((v0 ≤ 122) → (Q (some (i_ 1)) x Z)))))) :
    V mX12_isLetter k n 0 [some (i_ v0)] [] x Z Q :=
  V_iload_n dX12_isLetter_0 rfl (V_bipush dX12_isLetter_1 rfl (V_icmp_lt (tgt := 16) dX12_isLetter_3 rfl h.1 (rg_c rfl) (fun c1 => V_iconst dX12_isLetter_16 (V_iret (ty := .boolean) dX12_isLetter_17 rfl rfl (h.2.1 c1))) (fun c1 => V_iload_n dX12_isLetter_6 rfl (V_bipush dX12_isLetter_7 rfl (V_icmp_gt (tgt := 16) dX12_isLetter_9 rfl h.1 (rg_c rfl) (fun c2 => V_iconst dX12_isLetter_16 (V_iret (ty := .boolean) dX12_isLetter_17 rfl rfl ((h.2.2 c1).1 c2))) (fun c2 => V_iconst dX12_isLetter_12 (V_goto (tgt := 17) dX12_isLetter_13 rfl (V_iret (ty := .boolean) dX12_isLetter_17 rfl rfl ((h.2.2 c1).2 c2)))))))))
theorem dX12_isDigit_0 : decode cX12_isDigit 0 = .ok (.iload_n 0, 1) := by decide +kernel
theorem dX12_isDigit_1 : decode cX12_isDigit 1 = .ok (.bipush 48, 2) := by decide +kernel
theorem dX12_isDigit_3 : decode cX12_isDigit 3 = .ok (.if_icmp .lt 13, 3) := by decide +kernel
theorem dX12_isDigit_6 : decode cX12_isDigit 6 = .ok (.iload_n 0, 1) := by decide +kernel
theorem dX12_isDigit_7 : decode cX12_isDigit 7 = .ok (.bipush 57, 2) := by decide +kernel
theorem dX12_isDigit_9 : decode cX12_isDigit 9 = .ok (.if_icmp .gt 7, 3) := by decide +kernel
theorem dX12_isDigit_12 : decode cX12_isDigit 12 = .ok (.iconst 1, 1) := by decide +kernel
theorem dX12_isDigit_13 : decode cX12_isDigit 13 = .ok (.goto 4, 3) := by decide +kernel
theorem dX12_isDigit_16 : decode cX12_isDigit 16 = .ok (.iconst 0, 1) := by decide +kernel
theorem dX12_isDigit_17 : decode cX12_isDigit 17 = .ok (.ireturn, 1) := by decide +kernel
set_option maxRecDepth 20000 in
theorem b_X12_isDigit_0 {k n : Nat} {x : Wx} {Z : Zt} {Q : Option Value → Wx → Zt → Prop} {v0 : Int} 
    (h : Rg v0 ∧ (((v0 < 48) → (Q (some (i_ 0)) x Z)) ∧ ((48 ≤ v0) → (((57 < v0) → (Q (some (i_ 0)) x Z)) ∧ ((v0 ≤ 57) → (Q (some (i_ 1)) x Z)))))) :
    V mX12_isDigit k n 0 [some (i_ v0)] [] x Z Q :=
  V_iload_n dX12_isDigit_0 rfl (V_bipush dX12_isDigit_1 rfl (V_icmp_lt (tgt := 16) dX12_isDigit_3 rfl h.1 (rg_c rfl) (fun c1 => V_iconst dX12_isDigit_16 (V_iret (ty := .boolean) dX12_isDigit_17 rfl rfl (h.2.1 c1))) (fun c1 => V_iload_n dX12_isDigit_6 rfl (V_bipush dX12_isDigit_7 rfl (V_icmp_gt (tgt := 16) dX12_isDigit_9 rfl h.1 (rg_c rfl) (fun c2 => V_iconst dX12_isDigit_16 (V_iret (ty := .boolean) dX12_isDigit_17 rfl rfl ((h.2.2 c1).1 c2))) (fun c2 => V_iconst dX12_isDigit_12 (V_goto (tgt := 17) dX12_isDigit_13 rfl (V_iret (ty := .boolean) dX12_isDigit_17 rfl rfl ((h.2.2 c1).2 c2)))))))))
theorem dX12_isPrime_0 : decode cX12_isPrime 0 = .ok (.iload_n 0, 1) := by decide +kernel
theorem dX12_isPrime_1 : decode cX12_isPrime 1 = .ok (.iconst 3, 1) := by decide +kernel
theorem dX12_isPrime_2 : decode cX12_isPrime 2 = .ok (.if_icmp .eq 26, 3) := by decide +kernel
theorem dX12_isPrime_5 : decode cX12_isPrime 5 = .ok (.iload_n 0, 1) := by decide +kernel
theorem dX12_isPrime_6 : decode cX12_isPrime 6 = .ok (.iconst 5, 1) := by decide +kernel
theorem dX12_isPrime_7 : decode cX12_isPrime 7 = .ok (.if_icmp .eq 21, 3) := by decide +kernel
theorem dX12_isPrime_10 : decode cX12_isPrime 10 = .ok (.iload_n 0, 1) := by decide +kernel
theorem dX12_isPrime_11 : decode cX12_isPrime 11 = .ok (.bipush 7, 2) := by decide +kernel
theorem dX12_isPrime_13 : decode cX12_isPrime 13 = .ok (.if_icmp .eq 15, 3) := by decide +kernel
theorem dX12_isPrime_16 : decode cX12_isPrime 16 = .ok (.iload_n 0, 1) := by decide +kernel
theorem dX12_isPrime_17 : decode cX12_isPrime 17 = .ok (.bipush 11, 2) := by decide +kernel
theorem dX12_isPrime_19 : decode cX12_isPrime 19 = .ok (.if_icmp .eq 9, 3) := by decide +kernel
theorem dX12_isPrime_22 : decode cX12_isPrime 22 = .ok (.iload_n 0, 1) := by decide +kernel
theorem dX12_isPrime_23 : decode cX12_isPrime 23 = .ok (.bipush 13, 2) := by decide +kernel
theorem dX12_isPrime_25 : decode cX12_isPrime 25 = .ok (.if_icmp .ne 7, 3) := by decide +kernel
theorem dX12_isPrime_28 : decode cX12_isPrime 28 = .ok (.iconst 1, 1) := by decide +kernel
theorem dX12_isPrime_29 : decode cX12_isPrime 29 = .ok (.goto 4, 3) := by decide +kernel
theorem dX12_isPrime_32 : decode cX12_isPrime 32 = .ok (.iconst 0, 1) := by decide +kernel
theorem dX12_isPrime_33 : decode cX12_isPrime 33 = .ok (.ireturn, 1) := by decide +kernel
set_option maxRecDepth 20000 in
theorem b_X12_isPrime_0 {k n : Nat} {x : Wx} {Z : Zt} {Q : Option Value → Wx → Zt → Prop} {v0 : Int} 
    (h : Rg v0 ∧ (((v0 = 3) → (Q (some (i_ 1)) x Z)) ∧ ((v0 ≠ 3) → (((v0 = 5) → (Q (some (i_ 1)) x Z)) ∧ ((v0 ≠ 5) → (((v0 = 7) → (Q (some (i_ 1)) x Z)) ∧ ((v0 ≠ 7) → (((v0 = 11) → (Q (some (i_ 1)) x Z)) ∧ ((v0 ≠ 11) → (((v0 ≠ 13) → (Q (some (i_ 0)) x Z)) ∧ ((v0 = 13) → (Q (some (i_ 1)) x Z)))))))))))) :
    V mX12_isPrime k n 0 [some (i_ v0)] [] x Z Q :=
  V_iload_n dX12_isPrime_0 rfl (V_iconst dX12_isPrime_1 (V_icmp_eq (tgt := 28) dX12_isPrime_2 rfl h.1 (rg_c rfl) (fun c1 => V_iconst dX12_isPrime_28 (V_goto (tgt := 33) dX12_isPrime_29 rfl (V_iret (ty := .boolean) dX12_isPrime_33 rfl rfl (h.2.1 c1)))) (fun c1 => V_iload_n dX12_isPrime_5 rfl (V_iconst dX12_isPrime_6 (V_icmp_eq (tgt := 28) dX12_isPrime_7 rfl h.1 (rg_c rfl) (fun c2 => V_iconst dX12_isPrime_28 (V_goto (tgt := 33) dX12_isPrime_29 rfl (V_iret (ty := .boolean) dX12_isPrime_33 rfl rfl ((h.2.2 c1).1 c2)))) (fun c2 => V_iload_n dX12_isPrime_10 rfl (V_bipush dX12_isPrime_11 rfl (V_icmp_eq (tgt := 28) dX12_isPrime_13 rfl h.1 (rg_c rfl) (fun c3 => V_iconst dX12_isPrime_28 (V_goto (tgt := 33) dX12_isPrime_29 rfl (V_iret (ty := .boolean) dX12_isPrime_33 rfl rfl (((h.2.2 c1).2 c2).1 c3)))) (fun c3 => V_iload_n dX12_isPrime_16 rfl (V_bipush dX12_isPrime_17 rfl (V_icmp_eq (tgt := 28) dX12_isPrime_19 rfl h.1 (rg_c rfl) (fun c4 => V_iconst dX12_isPrime_28 (V_goto (tgt := 33) dX12_isPrime_29 rfl (V_iret (ty := .boolean) dX12_isPrime_33 rfl rfl ((((h.2.2 c1).2 c2).2 c3).1 c4)))) (fun c4 => V_iload_n dX12_isPrime_22 rfl (V_bipush dX12_isPrime_23 rfl (V_icmp_ne (tgt := 32) dX12_isPrime_25 rfl h.1 (rg_c rfl) (fun c5 => V_iconst dX12_isPrime_32 (V_iret (ty := .boolean) dX12_isPrime_33 rfl rfl (((((h.2.2 c1).2 c2).2 c3).2 c4).1 c5))) (fun c5 => V_iconst dX12_isPrime_28 (V_goto (tgt := 33) dX12_isPrime_29 rfl (V_iret (ty := .boolean) dX12_isPrime_33 rfl rfl (((((h.2.2 c1).2 c2).2 c3).2 c4).2 c5))))))))))))))))))
theorem dX12_placeOf_0 : decode cX12_placeOf 0 = .ok (.iload_n 0, 1) := by decide +kernel
theorem dX12_placeOf_1 : decode cX12_placeOf 1 = .ok (.ifCond .ne 14, 3) := by decide +kernel
theorem dX12_placeOf_4 : decode cX12_placeOf 4 = .ok (.sipush 610, 3) := by decide +kernel
theorem dX12_placeOf_7 : decode cX12_placeOf 7 = .ok (.bipush 8, 2) := by decide +kernel
theorem dX12_placeOf_9 : decode cX12_placeOf 9 = .ok (.iload_n 1, 1) := by decide +kernel
theorem dX12_placeOf_10 : decode cX12_placeOf 10 = .ok (.imul, 1) := by decide +kernel
theorem dX12_placeOf_11 : decode cX12_placeOf 11 = .ok (.iadd, 1) := by decide +kernel
theorem dX12_placeOf_12 : decode cX12_placeOf 12 = .ok (.goto 27, 3) := by decide +kernel
theorem dX12_placeOf_15 : decode cX12_placeOf 15 = .ok (.iload_n 0, 1) := by decide +kernel
theorem dX12_placeOf_16 : decode cX12_placeOf 16 = .ok (.iconst 1, 1) := by decide +kernel
theorem dX12_placeOf_17 : decode cX12_placeOf 17 = .ok (.if_icmp .ne 14, 3) := by decide +kernel
theorem dX12_placeOf_20 : decode cX12_placeOf 20 = .ok (.sipush 626, 3) := by decide +kernel
theorem dX12_placeOf_23 : decode cX12_placeOf 23 = .ok (.bipush 26, 2) := by decide +kernel
theorem dX12_placeOf_25 : decode cX12_placeOf 25 = .ok (.iload_n 1, 1) := by decide +kernel
theorem dX12_placeOf_26 : decode cX12_placeOf 26 = .ok (.imul, 1) := by decide +kernel
theorem dX12_placeOf_27 : decode cX12_placeOf 27 = .ok (.iadd, 1) := by decide +kernel
theorem dX12_placeOf_28 : decode cX12_placeOf 28 = .ok (.goto 11, 3) := by decide +kernel
theorem dX12_placeOf_31 : decode cX12_placeOf 31 = .ok (.sipush 704, 3) := by decide +kernel
theorem dX12_placeOf_34 : decode cX12_placeOf 34 = .ok (.bipush 8, 2) := by decide +kernel
theorem dX12_placeOf_36 : decode cX12_placeOf 36 = .ok (.iload_n 1, 1) := by decide +kernel
theorem dX12_placeOf_37 : decode cX12_placeOf 37 = .ok (.imul, 1) := by decide +kernel
theorem dX12_placeOf_38 : decode cX12_placeOf 38 = .ok (.iadd, 1) := by decide +kernel
theorem dX12_placeOf_39 : decode cX12_placeOf 39 = .ok (.ireturn, 1) := by decide +kernel
set_option maxRecDepth 20000 in
theorem b_X12_placeOf_0 {k n : Nat} {x : Wx} {Z : Zt} {Q : Option Value → Wx → Zt → Prop} {v0 : Int} {v1 : Int} 
    (h : Rg v0 ∧ (((v0 ≠ 0) → (((v0 ≠ 1) → (Q (some (i_ (704 + (8 * v1)))) x Z)) ∧ ((v0 = 1) → (Q (some (i_ (626 + (26 * v1)))) x Z)))) ∧ ((v0 = 0) → (Q (some (i_ (610 + (8 * v1)))) x Z)))) :
    V mX12_placeOf k n 0 [some (i_ v0), some (i_ v1)] [] x Z Q :=
  V_iload_n dX12_placeOf_0 rfl (V_if_ne (tgt := 15) dX12_placeOf_1 rfl h.1 (fun c1 => V_iload_n dX12_placeOf_15 rfl (V_iconst dX12_placeOf_16 (V_icmp_ne (tgt := 31) dX12_placeOf_17 rfl h.1 (rg_c rfl) (fun c2 => V_sipush dX12_placeOf_31 rfl (V_bipush dX12_placeOf_34 rfl (V_iload_n dX12_placeOf_36 rfl (V_imul dX12_placeOf_37 (V_iadd dX12_placeOf_38 (V_iret (ty := .int) dX12_placeOf_39 rfl rfl ((h.2.1 c1).1 c2))))))) (fun c2 => V_sipush dX12_placeOf_20 rfl (V_bipush dX12_placeOf_23 rfl (V_iload_n dX12_placeOf_25 rfl (V_imul dX12_placeOf_26 (V_iadd dX12_placeOf_27 (V_goto (tgt := 39) dX12_placeOf_28 rfl (V_iret (ty := .int) dX12_placeOf_39 rfl rfl ((h.2.1 c1).2 c2))))))))))) (fun c1 => V_sipush dX12_placeOf_4 rfl (V_bipush dX12_placeOf_7 rfl (V_iload_n dX12_placeOf_9 rfl (V_imul dX12_placeOf_10 (V_iadd dX12_placeOf_11 (V_goto (tgt := 39) dX12_placeOf_12 rfl (V_iret (ty := .int) dX12_placeOf_39 rfl rfl (h.2.2 c1)))))))))
theorem dX12_sizeOf_0 : decode cX12_sizeOf 0 = .ok (.iload_n 0, 1) := by decide +kernel
theorem dX12_sizeOf_1 : decode cX12_sizeOf 1 = .ok (.ifCond .ne 8, 3) := by decide +kernel
theorem dX12_sizeOf_4 : decode cX12_sizeOf 4 = .ok (.bipush 8, 2) := by decide +kernel
theorem dX12_sizeOf_6 : decode cX12_sizeOf 6 = .ok (.goto 15, 3) := by decide +kernel
theorem dX12_sizeOf_9 : decode cX12_sizeOf 9 = .ok (.iload_n 0, 1) := by decide +kernel
theorem dX12_sizeOf_10 : decode cX12_sizeOf 10 = .ok (.iconst 1, 1) := by decide +kernel
theorem dX12_sizeOf_11 : decode cX12_sizeOf 11 = .ok (.if_icmp .ne 8, 3) := by decide +kernel
theorem dX12_sizeOf_14 : decode cX12_sizeOf 14 = .ok (.bipush 26, 2) := by decide +kernel
theorem dX12_sizeOf_16 : decode cX12_sizeOf 16 = .ok (.goto 5, 3) := by decide +kernel
theorem dX12_sizeOf_19 : decode cX12_sizeOf 19 = .ok (.bipush 8, 2) := by decide +kernel
theorem dX12_sizeOf_21 : decode cX12_sizeOf 21 = .ok (.ireturn, 1) := by decide +kernel
set_option maxRecDepth 20000 in
theorem b_X12_sizeOf_0 {k n : Nat} {x : Wx} {Z : Zt} {Q : Option Value → Wx → Zt → Prop} {v0 : Int} 
    (h : Rg v0 ∧ (((v0 ≠ 0) → (((v0 ≠ 1) → (Q (some (i_ 8)) x Z)) ∧ ((v0 = 1) → (Q (some (i_ 26)) x Z)))) ∧ ((v0 = 0) → (Q (some (i_ 8)) x Z)))) :
    V mX12_sizeOf k n 0 [some (i_ v0)] [] x Z Q :=
  V_iload_n dX12_sizeOf_0 rfl (V_if_ne (tgt := 9) dX12_sizeOf_1 rfl h.1 (fun c1 => V_iload_n dX12_sizeOf_9 rfl (V_iconst dX12_sizeOf_10 (V_icmp_ne (tgt := 19) dX12_sizeOf_11 rfl h.1 (rg_c rfl) (fun c2 => V_bipush dX12_sizeOf_19 rfl (V_iret (ty := .int) dX12_sizeOf_21 rfl rfl ((h.2.1 c1).1 c2))) (fun c2 => V_bipush dX12_sizeOf_14 rfl (V_goto (tgt := 21) dX12_sizeOf_16 rfl (V_iret (ty := .int) dX12_sizeOf_21 rfl rfl ((h.2.1 c1).2 c2))))))) (fun c1 => V_bipush dX12_sizeOf_4 rfl (V_goto (tgt := 21) dX12_sizeOf_6 rfl (V_iret (ty := .int) dX12_sizeOf_21 rfl rfl (h.2.2 c1)))))
theorem dX12_mod_0 : decode cX12_mod 0 = .ok (.iload_n 1, 1) := by decide +kernel
theorem dX12_mod_1 : decode cX12_mod 1 = .ok (.aload_n 0, 1) := by decide +kernel
theorem dX12_mod_2 : decode cX12_mod 2 = .ok (.getfield 179, 3) := by decide +kernel
theorem dX12_mod_5 : decode cX12_mod 5 = .ok (.irem, 1) := by decide +kernel
theorem dX12_mod_6 : decode cX12_mod 6 = .ok (.istore_n 2, 1) := by decide +kernel
theorem dX12_mod_7 : decode cX12_mod 7 = .ok (.iload_n 2, 1) := by decide +kernel
theorem dX12_mod_8 : decode cX12_mod 8 = .ok (.ifCond .ge 12, 3) := by decide +kernel
theorem dX12_mod_11 : decode cX12_mod 11 = .ok (.iload_n 2, 1) := by decide +kernel
theorem dX12_mod_12 : decode cX12_mod 12 = .ok (.aload_n 0, 1) := by decide +kernel
theorem dX12_mod_13 : decode cX12_mod 13 = .ok (.getfield 179, 3) := by decide +kernel
theorem dX12_mod_16 : decode cX12_mod 16 = .ok (.iadd, 1) := by decide +kernel
theorem dX12_mod_17 : decode cX12_mod 17 = .ok (.goto 4, 3) := by decide +kernel
theorem dX12_mod_20 : decode cX12_mod 20 = .ok (.iload_n 2, 1) := by decide +kernel
theorem dX12_mod_21 : decode cX12_mod 21 = .ok (.ireturn, 1) := by decide +kernel
set_option maxRecDepth 20000 in
theorem b_X12_mod_0 {k n : Nat} {x : Wx} {Z : Zt} {Q : Option Value → Wx → Zt → Prop} {a0 : Nat} {v1 : Int} (o_a0 : Is12 x a0)
    (h : Rg v1 ∧ Rg (Z a0 11) ∧ 0 < Z a0 11 ∧ (Rg (Int.tmod v1 (Z a0 11)) ∧ (((0 ≤ Int.tmod v1 (Z a0 11)) → (Q (some (i_ (Int.tmod v1 (Z a0 11)))) x Z)) ∧ ((Int.tmod v1 (Z a0 11) < 0) → (Q (some (i_ ((Int.tmod v1 (Z a0 11)) + (Z a0 11)))) x Z))))) :
    V mX12_mod k n 0 [some (r_ a0), some (i_ v1), none] [] x Z Q :=
  V_iload_n dX12_mod_0 rfl (V_aload_n dX12_mod_1 rfl (G_12_11 o_a0.1 lf_12_179 dX12_mod_2 (V_irem dX12_mod_5 h.1 h.2.1 h.2.2.1 (V_istore_n (lv' := [some (r_ a0), some (i_ v1), some (i_ (Int.tmod v1 (Z a0 11)))]) dX12_mod_6 (Nat.le_of_ble_eq_true rfl) rfl (V_iload_n dX12_mod_7 rfl (V_if_ge (tgt := 20) dX12_mod_8 rfl h.2.2.2.1 (fun c1 => V_iload_n dX12_mod_20 rfl (V_iret (ty := .int) dX12_mod_21 rfl rfl (h.2.2.2.2.1 c1))) (fun c1 => V_iload_n dX12_mod_11 rfl (V_aload_n dX12_mod_12 rfl (G_12_11 o_a0.1 lf_12_179 dX12_mod_13 (V_iadd dX12_mod_16 (V_goto (tgt := 21) dX12_mod_17 rfl (V_iret (ty := .int) dX12_mod_21 rfl rfl (h.2.2.2.2.2 c1)))))))))))))
theorem dX12_at_0 : decode cX12_at 0 = .ok (.aload_n 0, 1) := by decide +kernel
theorem dX12_at_1 : decode cX12_at 1 = .ok (.getfield 20, 3) := by decide +kernel
theorem dX12_at_4 : decode cX12_at 4 = .ok (.bipush 24, 2) := by decide +kernel
theorem dX12_at_6 : decode cX12_at 6 = .ok (.iload_n 1, 1) := by decide +kernel
theorem dX12_at_7 : decode cX12_at 7 = .ok (.imul, 1) := by decide +kernel
theorem dX12_at_8 : decode cX12_at 8 = .ok (.iload_n 2, 1) := by decide +kernel
theorem dX12_at_9 : decode cX12_at 9 = .ok (.iadd, 1) := by decide +kernel
theorem dX12_at_10 : decode cX12_at 10 = .ok (.iaload, 1) := by decide +kernel
theorem dX12_at_11 : decode cX12_at 11 = .ok (.ireturn, 1) := by decide +kernel
set_option maxRecDepth 20000 in
theorem b_X12_at_0 {k n : Nat} {x : Wx} {Z : Zt} {Q : Option Value → Wx → Zt → Prop} {a0 : Nat} {v1 : Int} {v2 : Int} (o_a0 : Is12 x a0)
    (h : 0 ≤ (24 * v1) + v2 ∧ (24 * v1) + v2 < 648 ∧ (Q (some (i_ (Z (a0 + 4) ((24 * v1) + v2).toNat))) x Z)) :
    V mX12_at k n 0 [some (r_ a0), some (i_ v1), some (i_ v2)] [] x Z Q :=
  V_aload_n dX12_at_0 rfl (G_12_10 o_a0.1 o_a0.qR10 lf_12_20 dX12_at_1 (V_bipush dX12_at_4 rfl (V_iload_n dX12_at_6 rfl (V_imul dX12_at_7 (V_iload_n dX12_at_8 rfl (V_iadd dX12_at_9 (V_iald (t := 100) o_a0.qK10 (by decide) rfl h.1 h.2.1 (Nat.le_of_ble_eq_true rfl) dX12_at_10 (V_iret (ty := .int) dX12_at_11 rfl rfl h.2.2))))))))
theorem sp_X12_isIn {k n : Nat} {x : Wx} {Z : Zt} {Q : Option Value → Wx → Zt → Prop} {v l m : Int} (hv : Rg v ∧ Rg l ∧ Rg m) (h : ∀ r : Int, ((r = 1 ∧ l ≤ v ∧ v ≤ m) ∨ (r = 0 ∧ (v < l ∨ m < v))) → Q (some (i_ r)) x Z) : V mX12_isIn k n 0 [some (i_ v), some (i_ l), some (i_ m)] [] x Z Q :=
  b_X12_isIn_0 ⟨hv.1, hv.2.1, fun c => h 0 (Or.inr ⟨rfl, Or.inl c⟩), fun c => ⟨hv.2.2, fun d => h 0 (Or.inr ⟨rfl, Or.inr d⟩), fun d => h 1 (Or.inl ⟨rfl, c, d⟩)⟩⟩
theorem sp_X12_isLetter {k n : Nat} {x : Wx} {Z : Zt} {Q : Option Value → Wx → Zt → Prop} {v : Int} (hv : Rg v) (h : ∀ r : Int, ((r = 1 ∧ 97 ≤ v ∧ v ≤ 122) ∨ (r = 0 ∧ (v < 97 ∨ 122 < v))) → Q (some (i_ r)) x Z) : V mX12_isLetter k n 0 [some (i_ v)] [] x Z Q :=
  b_X12_isLetter_0 ⟨hv, fun c => h 0 (Or.inr ⟨rfl, Or.inl c⟩), fun c => ⟨fun d => h 0 (Or.inr ⟨rfl, Or.inr d⟩), fun d => h 1 (Or.inl ⟨rfl, c, d⟩)⟩⟩
theorem sp_X12_isDigit {k n : Nat} {x : Wx} {Z : Zt} {Q : Option Value → Wx → Zt → Prop} {v : Int} (hv : Rg v) (h : ∀ r : Int, ((r = 1 ∧ 48 ≤ v ∧ v ≤ 57) ∨ (r = 0 ∧ (v < 48 ∨ 57 < v))) → Q (some (i_ r)) x Z) : V mX12_isDigit k n 0 [some (i_ v)] [] x Z Q :=
  b_X12_isDigit_0 ⟨hv, fun c => h 0 (Or.inr ⟨rfl, Or.inl c⟩), fun c => ⟨fun d => h 0 (Or.inr ⟨rfl, Or.inr d⟩), fun d => h 1 (Or.inl ⟨rfl, c, d⟩)⟩⟩
theorem sp_X12_isPrime {k n : Nat} {x : Wx} {Z : Zt} {Q : Option Value → Wx → Zt → Prop} {v : Int} (hv : Rg v) (h : ∀ r : Int, ((r = 1 ∧ IsP v) ∨ (r = 0 ∧ ¬ IsP v)) → Q (some (i_ r)) x Z) : V mX12_isPrime k n 0 [some (i_ v)] [] x Z Q := by
  unfold IsP at h
  exact b_X12_isPrime_0 ⟨hv, fun c => h 1 (Or.inl ⟨rfl, by omega⟩), fun c => ⟨fun d => h 1 (Or.inl ⟨rfl, by omega⟩), fun d => ⟨fun e => h 1 (Or.inl ⟨rfl, by omega⟩), fun e => ⟨fun f => h 1 (Or.inl ⟨rfl, by omega⟩), fun f => ⟨fun g => h 0 (Or.inr ⟨rfl, by omega⟩), fun g => h 1 (Or.inl ⟨rfl, by omega⟩)⟩⟩⟩⟩⟩
def plcO (s q : Int) : Int := if s = 0 then 610 + 8 * q else if s = 1 then 626 + 26 * q else 704 + 8 * q
theorem sp_X12_placeOf {k n : Nat} {x : Wx} {Z : Zt} {Q : Option Value → Wx → Zt → Prop} {s q : Int} (hv : Rg s) (h : Q (some (i_ (plcO s q))) x Z) : V mX12_placeOf k n 0 [some (i_ s), some (i_ q)] [] x Z Q := by
  unfold plcO at h
  refine b_X12_placeOf_0 ⟨hv, fun c => ⟨fun d => ?_, fun d => ?_⟩, fun c => ?_⟩
  · rw [if_neg c, if_neg d] at h; exact h
  · rw [if_neg c, if_pos d] at h; exact h
  · rw [if_pos c] at h; exact h
def szO (s : Int) : Int := if s = 1 then 26 else 8
theorem sp_X12_sizeOf {k n : Nat} {x : Wx} {Z : Zt} {Q : Option Value → Wx → Zt → Prop} {s : Int} (hv : Rg s) (h : Q (some (i_ (szO s))) x Z) : V mX12_sizeOf k n 0 [some (i_ s)] [] x Z Q := by
  unfold szO at h
  refine b_X12_sizeOf_0 ⟨hv, fun c => ⟨fun d => ?_, fun d => ?_⟩, fun c => ?_⟩
  · rw [if_neg d] at h; exact h
  · rw [if_pos d] at h; exact h
  · rw [if_neg (by omega)] at h; exact h
theorem tmod_mod {v p : Int} (h0 : 0 < p) : (0 ≤ Int.tmod v p → Int.tmod v p = v % p) ∧ (Int.tmod v p < 0 → Int.tmod v p + p = v % p) ∧ (-p < Int.tmod v p ∧ Int.tmod v p < p) := by
  have h1 := Int.mul_tdiv_add_tmod v p
  have h2 := Int.emod_add_mul_ediv v p
  have h3 := Int.emod_nonneg v (show p ≠ 0 by omega)
  have h4 := Int.emod_lt_of_pos v h0
  have hb : -p < Int.tmod v p ∧ Int.tmod v p < p := by
    have := Int.natAbs_tmod v p
    have h5 : (Int.tmod v p).natAbs < p.natAbs := by rw [this]; exact Nat.mod_lt _ (by omega)
    omega
  have hd : (p * (v.tdiv p) - p * (v / p)) = v % p - Int.tmod v p := by omega
  have hq : p * (v.tdiv p - v / p) = v % p - Int.tmod v p := by rw [Int.mul_sub]; exact hd
  refine ⟨fun c => ?_, fun c => ?_, hb⟩
  · have : v.tdiv p - v / p = 0 := by
      by_cases e : v.tdiv p - v / p = 0
      · exact e
      · exfalso
        by_cases e2 : 1 ≤ v.tdiv p - v / p
        · have := Int.mul_le_mul_of_nonneg_left e2 (by omega : 0 ≤ p); omega
        · have := Int.mul_le_mul_of_nonneg_left (show v.tdiv p - v / p ≤ -1 by omega) (by omega : 0 ≤ p); omega
    rw [this] at hq; omega
  · have : v.tdiv p - v / p = 1 := by
      by_cases e : v.tdiv p - v / p = 1
      · exact e
      · exfalso
        by_cases e2 : 2 ≤ v.tdiv p - v / p
        · have := Int.mul_le_mul_of_nonneg_left e2 (by omega : 0 ≤ p); omega
        · have := Int.mul_le_mul_of_nonneg_left (show v.tdiv p - v / p ≤ 0 by omega) (by omega : 0 ≤ p); omega
    rw [this] at hq; omega
theorem sp_X12_mod {k n : Nat} {x : Wx} {Z : Zt} {Q : Option Value → Wx → Zt → Prop} {b : Nat} {v : Int} (o : Is12 x b) (hv : Rg v) (h0 : 0 < Z b 11) (h1 : Z b 11 ≤ 13) (h : Q (some (i_ (v % Z b 11))) x Z) : V mX12_mod k n 0 [some (r_ b), some (i_ v), none] [] x Z Q := by
  obtain ⟨g1, g2, g3⟩ := tmod_mod (v := v) h0
  refine b_X12_mod_0 o ⟨hv, ⟨by omega, by omega⟩, h0, ⟨by omega, by omega⟩, fun c => ?_, fun c => ?_⟩
  · rw [g1 c]; exact h
  · rw [g2 c]; exact h
theorem sp_X12_at {k n : Nat} {x : Wx} {Z : Zt} {Q : Option Value → Wx → Zt → Prop} {b : Nat} {u i : Int} (o : Is12 x b) (hu : 0 ≤ 24 * u + i ∧ 24 * u + i < 648) (h : Q (some (i_ (Z (b + 4) (24 * u + i).toNat))) x Z) : V mX12_at k n 0 [some (r_ b), some (i_ u), some (i_ i)] [] x Z Q := b_X12_at_0 o ⟨hu.1, hu.2, h⟩
theorem dX12_isOf_0 : decode cX12_isOf 0 = .ok (.iload_n 2, 1) := by decide +kernel
theorem dX12_isOf_1 : decode cX12_isOf 1 = .ok (.iconst 0, 1) := by decide +kernel
theorem dX12_isOf_2 : decode cX12_isOf 2 = .ok (.aload_n 0, 1) := by decide +kernel
theorem dX12_isOf_3 : decode cX12_isOf 3 = .ok (.getfield 7, 3) := by decide +kernel
theorem dX12_isOf_6 : decode cX12_isOf 6 = .ok (.iload_n 1, 1) := by decide +kernel
theorem dX12_isOf_7 : decode cX12_isOf 7 = .ok (.iaload, 1) := by decide +kernel
theorem dX12_isOf_8 : decode cX12_isOf 8 = .ok (.iconst 1, 1) := by decide +kernel
theorem dX12_isOf_9 : decode cX12_isOf 9 = .ok (.isub, 1) := by decide +kernel
theorem dX12_isOf_10 : decode cX12_isOf 10 = .ok (.invokestatic 129, 3) := by decide +kernel
theorem dX12_isOf_13 : decode cX12_isOf 13 = .ok (.ireturn, 1) := by decide +kernel
set_option maxRecDepth 20000 in
theorem b_X12_isOf_0 {k n : Nat} {x : Wx} {Z : Zt} {Q : Option Value → Wx → Zt → Prop} {a0 : Nat} {v1 : Int} {v2 : Int} (o_a0 : Is12 x a0)
    (h : 0 ≤ v1 ∧ v1 < 2912 ∧ ((Rg v2 ∧ Rg (0 : Int) ∧ Rg ((Z (a0 + 1) v1.toNat) - 1)) ∧ (∀ (r1 : Int), (((r1 = 1 ∧ (0 : Int) ≤ v2 ∧ v2 ≤ ((Z (a0 + 1) v1.toNat) - 1)) ∨ (r1 = 0 ∧ (v2 < (0 : Int) ∨ ((Z (a0 + 1) v1.toNat) - 1) < v2)))) → ((r1 = 0 ∨ r1 = 1) ∧ (Q (some (i_ r1)) x Z))))) :
    V mX12_isOf k n 0 [some (r_ a0), some (i_ v1), some (i_ v2)] [] x Z Q :=
  V_iload_n dX12_isOf_0 rfl (V_iconst dX12_isOf_1 (V_aload_n dX12_isOf_2 rfl (G_12_0 o_a0.1 o_a0.qR0 lf_12_7 dX12_isOf_3 (V_iload_n dX12_isOf_6 rfl (V_iald (t := 100) o_a0.qK0 (by decide) rfl h.1 h.2.1 (Nat.le_of_ble_eq_true rfl) dX12_isOf_7 (V_iconst dX12_isOf_8 (V_isub dX12_isOf_9 (V_callS (k' := 0) (n' := 0) [i_ v2, i_ 0, i_ ((Z (a0 + 1) v1.toNat) - 1)] [] okX12_isIn lm_12_129 lsX12_isIn (Nat.le_of_ble_eq_true rfl) (Nat.le_of_ble_eq_true rfl) (Nat.le_of_ble_eq_true rfl) (cat_of rfl) (Nat.le_of_ble_eq_true rfl) (Nat.zero_le _) (Nat.zero_le _) rfl dX12_isOf_10 (sp_X12_isIn  h.2.2.1 (fun r1 p1 => V_iret (ty := .boolean) dX12_isOf_13 rfl (nar_z (h.2.2.2 r1 p1).1) (h.2.2.2 r1 p1).2))))))))))
theorem dX12_inverse_0 : decode cX12_inverse 0 = .ok (.iconst 1, 1) := by decide +kernel
theorem dX12_inverse_1 : decode cX12_inverse 1 = .ok (.istore_n 2, 1) := by decide +kernel
theorem dX12_inverse_2 : decode cX12_inverse 2 = .ok (.aload_n 0, 1) := by decide +kernel
theorem dX12_inverse_3 : decode cX12_inverse 3 = .ok (.iload_n 2, 1) := by decide +kernel
theorem dX12_inverse_4 : decode cX12_inverse 4 = .ok (.iload_n 1, 1) := by decide +kernel
theorem dX12_inverse_5 : decode cX12_inverse 5 = .ok (.imul, 1) := by decide +kernel
theorem dX12_inverse_6 : decode cX12_inverse 6 = .ok (.invokevirtual 182, 3) := by decide +kernel
theorem dX12_inverse_9 : decode cX12_inverse 9 = .ok (.iconst 1, 1) := by decide +kernel
theorem dX12_inverse_10 : decode cX12_inverse 10 = .ok (.if_icmp .eq 9, 3) := by decide +kernel
theorem dX12_inverse_13 : decode cX12_inverse 13 = .ok (.iinc 2 1, 3) := by decide +kernel
theorem dX12_inverse_16 : decode cX12_inverse 16 = .ok (.goto (-14), 3) := by decide +kernel
theorem dX12_inverse_19 : decode cX12_inverse 19 = .ok (.iload_n 2, 1) := by decide +kernel
theorem dX12_inverse_20 : decode cX12_inverse 20 = .ok (.ireturn, 1) := by decide +kernel
set_option maxRecDepth 20000 in
theorem b_X12_inverse_0 {k n : Nat} {x : Wx} {Z : Zt} {Q : Option Value → Wx → Zt → Prop} {a0 : Nat} {v1 : Int} 
    (h : V mX12_inverse k n 2 [some (r_ a0), some (i_ v1), some (i_ 1)] [] x Z Q) :
    V mX12_inverse k n 0 [some (r_ a0), some (i_ v1), none] [] x Z Q :=
  V_iconst dX12_inverse_0 (V_istore_n (lv' := [some (r_ a0), some (i_ v1), some (i_ 1)]) dX12_inverse_1 (Nat.le_of_ble_eq_true rfl) rfl (V_msk [true, true, true] rfl h))
set_option maxRecDepth 20000 in
theorem b_X12_inverse_2 {k n : Nat} {x : Wx} {Z : Zt} {Q : Option Value → Wx → Zt → Prop} {a0 : Nat} {v1 : Int} {v2 : Int} (o_a0 : Is12 x a0)
    (h : Rg (v2 * v1) ∧ 0 < Z a0 11 ∧ Z a0 11 ≤ 13 ∧ (Rg ((v2 * v1) % Z a0 11) ∧ ((((v2 * v1) % Z a0 11 = 1) → (Q (some (i_ v2)) x Z)) ∧ (((v2 * v1) % Z a0 11 ≠ 1) → (V mX12_inverse k n 2 [some (r_ a0), some (i_ v1), some (i_ (v2 + 1))] [] x Z Q))))) :
    V mX12_inverse k n 2 [some (r_ a0), some (i_ v1), some (i_ v2)] [] x Z Q :=
  V_aload_n dX12_inverse_2 rfl (V_iload_n dX12_inverse_3 rfl (V_iload_n dX12_inverse_4 rfl (V_imul dX12_inverse_5 (V_callV (k' := 0) (n' := 0) (t := 12) (q := (RX12, TX12, 46)) [i_ (v2 * v1)] [] okX12_mod o_a0.1 rfl rfl lm_12_182 liX12_mod lqX12_mod (Nat.le_of_ble_eq_true rfl) (Nat.le_of_ble_eq_true rfl) (Nat.le_of_ble_eq_true rfl) (cat_of rfl) (Nat.le_of_ble_eq_true rfl) (Nat.zero_le _) (Nat.zero_le _) rfl dX12_inverse_6 (sp_X12_mod o_a0 h.1 h.2.1 h.2.2.1 (V_iconst dX12_inverse_9 (V_icmp_eq (tgt := 19) dX12_inverse_10 rfl h.2.2.2.1 (rg_c rfl) (fun c1 => V_iload_n dX12_inverse_19 rfl (V_iret (ty := .int) dX12_inverse_20 rfl rfl (h.2.2.2.2.1 c1))) (fun c1 => V_iinc (lv' := [some (r_ a0), some (i_ v1), some (i_ (v2 + 1))]) dX12_inverse_13 rfl (Nat.le_of_ble_eq_true rfl) rfl (V_goto (tgt := 2) dX12_inverse_16 rfl (V_msk [true, true, true] rfl (h.2.2.2.2.2 c1)))))))))))
theorem dX12_deg_0 : decode cX12_deg 0 = .ok (.bipush 23, 2) := by decide +kernel
theorem dX12_deg_2 : decode cX12_deg 2 = .ok (.istore_n 2, 1) := by decide +kernel
theorem dX12_deg_3 : decode cX12_deg 3 = .ok (.iload_n 2, 1) := by decide +kernel
theorem dX12_deg_4 : decode cX12_deg 4 = .ok (.ifCond .lt 18, 3) := by decide +kernel
theorem dX12_deg_7 : decode cX12_deg 7 = .ok (.aload_n 0, 1) := by decide +kernel
theorem dX12_deg_8 : decode cX12_deg 8 = .ok (.iload_n 1, 1) := by decide +kernel
theorem dX12_deg_9 : decode cX12_deg 9 = .ok (.iload_n 2, 1) := by decide +kernel
theorem dX12_deg_10 : decode cX12_deg 10 = .ok (.invokevirtual 185, 3) := by decide +kernel
theorem dX12_deg_13 : decode cX12_deg 13 = .ok (.ifCond .ne 9, 3) := by decide +kernel
theorem dX12_deg_16 : decode cX12_deg 16 = .ok (.iinc 2 (-1), 3) := by decide +kernel
theorem dX12_deg_19 : decode cX12_deg 19 = .ok (.goto (-16), 3) := by decide +kernel
theorem dX12_deg_22 : decode cX12_deg 22 = .ok (.iload_n 2, 1) := by decide +kernel
theorem dX12_deg_23 : decode cX12_deg 23 = .ok (.ireturn, 1) := by decide +kernel
set_option maxRecDepth 20000 in
theorem b_X12_deg_0 {k n : Nat} {x : Wx} {Z : Zt} {Q : Option Value → Wx → Zt → Prop} {a0 : Nat} {v1 : Int} 
    (h : V mX12_deg k n 3 [some (r_ a0), some (i_ v1), some (i_ 23)] [] x Z Q) :
    V mX12_deg k n 0 [some (r_ a0), some (i_ v1), none] [] x Z Q :=
  V_bipush dX12_deg_0 rfl (V_istore_n (lv' := [some (r_ a0), some (i_ v1), some (i_ 23)]) dX12_deg_2 (Nat.le_of_ble_eq_true rfl) rfl (V_msk [true, true, true] rfl h))
set_option maxRecDepth 20000 in
theorem b_X12_deg_3 {k n : Nat} {x : Wx} {Z : Zt} {Q : Option Value → Wx → Zt → Prop} {a0 : Nat} {v1 : Int} {v2 : Int} (o_a0 : Is12 x a0)
    (h : Rg v2 ∧ (((v2 < 0) → (Q (some (i_ v2)) x Z)) ∧ ((0 ≤ v2) → ((0 ≤ 24 * v1 + v2 ∧ 24 * v1 + v2 < 648) ∧ (Rg (Z (a0 + 4) (24 * v1 + v2).toNat) ∧ (((Z (a0 + 4) (24 * v1 + v2).toNat ≠ 0) → (Q (some (i_ v2)) x Z)) ∧ ((Z (a0 + 4) (24 * v1 + v2).toNat = 0) → (V mX12_deg k n 3 [some (r_ a0), some (i_ v1), some (i_ (v2 + (-1)))] [] x Z Q)))))))) :
    V mX12_deg k n 3 [some (r_ a0), some (i_ v1), some (i_ v2)] [] x Z Q :=
  V_iload_n dX12_deg_3 rfl (V_if_lt (tgt := 22) dX12_deg_4 rfl h.1 (fun c1 => V_iload_n dX12_deg_22 rfl (V_iret (ty := .int) dX12_deg_23 rfl rfl (h.2.1 c1))) (fun c1 => V_aload_n dX12_deg_7 rfl (V_iload_n dX12_deg_8 rfl (V_iload_n dX12_deg_9 rfl (V_callV (k' := 0) (n' := 0) (t := 12) (q := (RX12, TX12, 46)) [i_ v1, i_ v2] [] okX12_at o_a0.1 rfl rfl lm_12_185 liX12_at lqX12_at (Nat.le_of_ble_eq_true rfl) (Nat.le_of_ble_eq_true rfl) (Nat.le_of_ble_eq_true rfl) (cat_of rfl) (Nat.le_of_ble_eq_true rfl) (Nat.zero_le _) (Nat.zero_le _) rfl dX12_deg_10 (sp_X12_at o_a0 (h.2.2 c1).1 (V_if_ne (tgt := 22) dX12_deg_13 rfl (h.2.2 c1).2.1 (fun c2 => V_iload_n dX12_deg_22 rfl (V_iret (ty := .int) dX12_deg_23 rfl rfl ((h.2.2 c1).2.2.1 c2))) (fun c2 => V_iinc (lv' := [some (r_ a0), some (i_ v1), some (i_ (v2 + (-1)))]) dX12_deg_16 rfl (Nat.le_of_ble_eq_true rfl) rfl (V_goto (tgt := 3) dX12_deg_19 rfl (V_msk [true, true, true] rfl ((h.2.2 c1).2.2.2 c2)))))))))))
theorem dX12_zero_0 : decode cX12_zero 0 = .ok (.iconst 0, 1) := by decide +kernel
theorem dX12_zero_1 : decode cX12_zero 1 = .ok (.istore_n 2, 1) := by decide +kernel
theorem dX12_zero_2 : decode cX12_zero 2 = .ok (.iload_n 2, 1) := by decide +kernel
theorem dX12_zero_3 : decode cX12_zero 3 = .ok (.bipush 24, 2) := by decide +kernel
theorem dX12_zero_5 : decode cX12_zero 5 = .ok (.if_icmp .ge 21, 3) := by decide +kernel
theorem dX12_zero_8 : decode cX12_zero 8 = .ok (.aload_n 0, 1) := by decide +kernel
theorem dX12_zero_9 : decode cX12_zero 9 = .ok (.getfield 20, 3) := by decide +kernel
theorem dX12_zero_12 : decode cX12_zero 12 = .ok (.bipush 24, 2) := by decide +kernel
theorem dX12_zero_14 : decode cX12_zero 14 = .ok (.iload_n 1, 1) := by decide +kernel
theorem dX12_zero_15 : decode cX12_zero 15 = .ok (.imul, 1) := by decide +kernel
theorem dX12_zero_16 : decode cX12_zero 16 = .ok (.iload_n 2, 1) := by decide +kernel
theorem dX12_zero_17 : decode cX12_zero 17 = .ok (.iadd, 1) := by decide +kernel
theorem dX12_zero_18 : decode cX12_zero 18 = .ok (.iconst 0, 1) := by decide +kernel
theorem dX12_zero_19 : decode cX12_zero 19 = .ok (.iastore, 1) := by decide +kernel
theorem dX12_zero_20 : decode cX12_zero 20 = .ok (.iinc 2 1, 3) := by decide +kernel
theorem dX12_zero_23 : decode cX12_zero 23 = .ok (.goto (-21), 3) := by decide +kernel
theorem dX12_zero_26 : decode cX12_zero 26 = .ok (.return_, 1) := by decide +kernel
set_option maxRecDepth 20000 in
theorem b_X12_zero_0 {k n : Nat} {x : Wx} {Z : Zt} {Q : Option Value → Wx → Zt → Prop} {a0 : Nat} {v1 : Int} 
    (h : V mX12_zero k n 2 [some (r_ a0), some (i_ v1), some (i_ 0)] [] x Z Q) :
    V mX12_zero k n 0 [some (r_ a0), some (i_ v1), none] [] x Z Q :=
  V_iconst dX12_zero_0 (V_istore_n (lv' := [some (r_ a0), some (i_ v1), some (i_ 0)]) dX12_zero_1 (Nat.le_of_ble_eq_true rfl) rfl (V_msk [true, true, true] rfl h))
set_option maxRecDepth 20000 in
theorem b_X12_zero_2 {k n : Nat} {x : Wx} {Z : Zt} {Q : Option Value → Wx → Zt → Prop} {a0 : Nat} {v1 : Int} {v2 : Int} (o_a0 : Is12 x a0)
    (h : Rg v2 ∧ (((24 ≤ v2) → (Q none x Z)) ∧ ((v2 < 24) → (0 ≤ (24 * v1) + v2 ∧ (24 * v1) + v2 < 648 ∧ (∀ Z1 : Zt, Z1 = up Z (a0 + 4) ((24 * v1) + v2).toNat 0 → (V mX12_zero k n 2 [some (r_ a0), some (i_ v1), some (i_ (v2 + 1))] [] x Z1 Q)))))) :
    V mX12_zero k n 2 [some (r_ a0), some (i_ v1), some (i_ v2)] [] x Z Q :=
  V_iload_n dX12_zero_2 rfl (V_bipush dX12_zero_3 rfl (V_icmp_ge (tgt := 26) dX12_zero_5 rfl h.1 (rg_c rfl) (fun c1 => V_ret dX12_zero_26 rfl (h.2.1 c1)) (fun c1 => V_aload_n dX12_zero_8 rfl (G_12_10 o_a0.1 o_a0.qR10 lf_12_20 dX12_zero_9 (V_bipush dX12_zero_12 rfl (V_iload_n dX12_zero_14 rfl (V_imul dX12_zero_15 (V_iload_n dX12_zero_16 rfl (V_iadd dX12_zero_17 (V_iconst dX12_zero_18 (V_iast (t := 100) o_a0.qK10 (by decide) (by decide) rfl (h.2.2 c1).1 (h.2.2 c1).2.1 (Nat.le_of_ble_eq_true rfl) dX12_zero_19 (V_nmZ (fun Z1 eZ1 => V_iinc (lv' := [some (r_ a0), some (i_ v1), some (i_ (v2 + 1))]) dX12_zero_20 rfl (Nat.le_of_ble_eq_true rfl) rfl (V_goto (tgt := 2) dX12_zero_23 rfl (V_msk [true, true, true] rfl ((h.2.2 c1).2.2 Z1 eZ1))))))))))))))))
theorem dX12_copy_0 : decode cX12_copy 0 = .ok (.iconst 0, 1) := by decide +kernel
theorem dX12_copy_1 : decode cX12_copy 1 = .ok (.istore_n 3, 1) := by decide +kernel
theorem dX12_copy_2 : decode cX12_copy 2 = .ok (.iload_n 3, 1) := by decide +kernel
theorem dX12_copy_3 : decode cX12_copy 3 = .ok (.bipush 24, 2) := by decide +kernel
theorem dX12_copy_5 : decode cX12_copy 5 = .ok (.if_icmp .ge 26, 3) := by decide +kernel
theorem dX12_copy_8 : decode cX12_copy 8 = .ok (.aload_n 0, 1) := by decide +kernel
theorem dX12_copy_9 : decode cX12_copy 9 = .ok (.getfield 20, 3) := by decide +kernel
theorem dX12_copy_12 : decode cX12_copy 12 = .ok (.bipush 24, 2) := by decide +kernel
theorem dX12_copy_14 : decode cX12_copy 14 = .ok (.iload_n 2, 1) := by decide +kernel
theorem dX12_copy_15 : decode cX12_copy 15 = .ok (.imul, 1) := by decide +kernel
theorem dX12_copy_16 : decode cX12_copy 16 = .ok (.iload_n 3, 1) := by decide +kernel
theorem dX12_copy_17 : decode cX12_copy 17 = .ok (.iadd, 1) := by decide +kernel
theorem dX12_copy_18 : decode cX12_copy 18 = .ok (.aload_n 0, 1) := by decide +kernel
theorem dX12_copy_19 : decode cX12_copy 19 = .ok (.iload_n 1, 1) := by decide +kernel
theorem dX12_copy_20 : decode cX12_copy 20 = .ok (.iload_n 3, 1) := by decide +kernel
theorem dX12_copy_21 : decode cX12_copy 21 = .ok (.invokevirtual 185, 3) := by decide +kernel
theorem dX12_copy_24 : decode cX12_copy 24 = .ok (.iastore, 1) := by decide +kernel
theorem dX12_copy_25 : decode cX12_copy 25 = .ok (.iinc 3 1, 3) := by decide +kernel
theorem dX12_copy_28 : decode cX12_copy 28 = .ok (.goto (-26), 3) := by decide +kernel
theorem dX12_copy_31 : decode cX12_copy 31 = .ok (.return_, 1) := by decide +kernel
set_option maxRecDepth 20000 in
theorem b_X12_copy_0 {k n : Nat} {x : Wx} {Z : Zt} {Q : Option Value → Wx → Zt → Prop} {a0 : Nat} {v1 : Int} {v2 : Int} 
    (h : V mX12_copy k n 2 [some (r_ a0), some (i_ v1), some (i_ v2), some (i_ 0)] [] x Z Q) :
    V mX12_copy k n 0 [some (r_ a0), some (i_ v1), some (i_ v2), none] [] x Z Q :=
  V_iconst dX12_copy_0 (V_istore_n (lv' := [some (r_ a0), some (i_ v1), some (i_ v2), some (i_ 0)]) dX12_copy_1 (Nat.le_of_ble_eq_true rfl) rfl (V_msk [true, true, true, true] rfl h))
set_option maxRecDepth 20000 in
theorem b_X12_copy_2 {k n : Nat} {x : Wx} {Z : Zt} {Q : Option Value → Wx → Zt → Prop} {a0 : Nat} {v1 : Int} {v2 : Int} {v3 : Int} (o_a0 : Is12 x a0)
    (h : Rg v3 ∧ (((24 ≤ v3) → (Q none x Z)) ∧ ((v3 < 24) → ((0 ≤ 24 * v1 + v3 ∧ 24 * v1 + v3 < 648) ∧ (0 ≤ (24 * v2) + v3 ∧ (24 * v2) + v3 < 648 ∧ (∀ Z1 : Zt, Z1 = up Z (a0 + 4) ((24 * v2) + v3).toNat (Z (a0 + 4) (24 * v1 + v3).toNat) → (V mX12_copy k n 2 [some (r_ a0), some (i_ v1), some (i_ v2), some (i_ (v3 + 1))] [] x Z1 Q))))))) :
    V mX12_copy k n 2 [some (r_ a0), some (i_ v1), some (i_ v2), some (i_ v3)] [] x Z Q :=
  V_iload_n dX12_copy_2 rfl (V_bipush dX12_copy_3 rfl (V_icmp_ge (tgt := 31) dX12_copy_5 rfl h.1 (rg_c rfl) (fun c1 => V_ret dX12_copy_31 rfl (h.2.1 c1)) (fun c1 => V_aload_n dX12_copy_8 rfl (G_12_10 o_a0.1 o_a0.qR10 lf_12_20 dX12_copy_9 (V_bipush dX12_copy_12 rfl (V_iload_n dX12_copy_14 rfl (V_imul dX12_copy_15 (V_iload_n dX12_copy_16 rfl (V_iadd dX12_copy_17 (V_aload_n dX12_copy_18 rfl (V_iload_n dX12_copy_19 rfl (V_iload_n dX12_copy_20 rfl (V_callV (k' := 0) (n' := 0) (t := 12) (q := (RX12, TX12, 46)) [i_ v1, i_ v3] [i_ ((24 * v2) + v3), r_ (a0 + 4)] okX12_at o_a0.1 rfl rfl lm_12_185 liX12_at lqX12_at (Nat.le_of_ble_eq_true rfl) (Nat.le_of_ble_eq_true rfl) (Nat.le_of_ble_eq_true rfl) (cat_of rfl) (Nat.le_of_ble_eq_true rfl) (Nat.zero_le _) (Nat.zero_le _) rfl dX12_copy_21 (sp_X12_at o_a0 (h.2.2 c1).1 (V_iast (t := 100) o_a0.qK10 (by decide) (by decide) rfl (h.2.2 c1).2.1 (h.2.2 c1).2.2.1 (Nat.le_of_ble_eq_true rfl) dX12_copy_24 (V_nmZ (fun Z1 eZ1 => V_iinc (lv' := [some (r_ a0), some (i_ v1), some (i_ v2), some (i_ (v3 + 1))]) dX12_copy_25 rfl (Nat.le_of_ble_eq_true rfl) rfl (V_goto (tgt := 2) dX12_copy_28 rfl (V_msk [true, true, true, true] rfl ((h.2.2 c1).2.2.2 Z1 eZ1))))))))))))))))))))
theorem sp_X12_isOf {k n : Nat} {x : Wx} {Z : Zt} {Q : Option Value → Wx → Zt → Prop} {b : Nat} {s q : Int} (o : Is12 x b) (hs : 0 ≤ s ∧ s < 3) (hq : Rg q) (hc : Rg (Z (b + 1) s.toNat - 1)) (h : ∀ r : Int, ((r = 1 ∧ 0 ≤ q ∧ q < Z (b + 1) s.toNat) ∨ (r = 0 ∧ (q < 0 ∨ Z (b + 1) s.toNat ≤ q))) → Q (some (i_ r)) x Z) : V mX12_isOf k n 0 [some (r_ b), some (i_ s), some (i_ q)] [] x Z Q := by
  refine b_X12_isOf_0 o ⟨hs.1, by omega, ⟨hq, rg_z, hc⟩, fun r hr => ⟨by omega, h r (by omega)⟩⟩
theorem inv_min {p : Int} (hp : IsP p) {v : Int} (hv : 0 < v ∧ v < p) : ∀ m : Int, 1 ≤ m → m < inv p v → (m * v) % p ≠ 1 := by
  intro m h1 h2 h3
  have hi := inv_rg hp hv
  have hm := inv_mul hp hv
  refine (nzp hp (inv p v - m) v ⟨by omega, by omega⟩ hv).1 ?_
  rw [Int.sub_mul, Int.sub_emod, h3, Int.mul_comm, hm]; simp
theorem sp_X12_inverse {k n : Nat} {x : Wx} {Z : Zt} {Q : Option Value → Wx → Zt → Prop} {b : Nat} {v : Int} (o : Is12 x b) {p : Int} (hp : IsP p ∧ Z b 11 = p) (hv : 0 < v ∧ v < p) (h : Q (some (i_ (inv p v))) x Z) : V mX12_inverse k n 0 [some (r_ b), some (i_ v), none] [] x Z Q := by
  obtain ⟨hp, hb⟩ := hp
  have hr := hp.rg
  have hi := inv_rg hp hv
  have hm := inv_mul hp hv
  have lp : ∀ (m : Nat) (w : Int), 1 ≤ w → w + m = inv p v → V mX12_inverse k n 2 [some (r_ b), some (i_ v), some (i_ w)] [] x Z Q := by
    intro m
    induction m with
    | zero =>
      intro w h1 h2
      have : w = inv p v := by omega
      subst this
      have b1 : 0 ≤ inv p v * v := Int.mul_nonneg (by omega) (by omega)
      have b2 : inv p v * v ≤ 13 * 13 := Int.mul_le_mul (by omega) (by omega) (by omega) (by omega)
      refine b_X12_inverse_2 o ⟨⟨by omega, by omega⟩, by omega, by omega, ⟨?_, fun c => h, fun c => ?_⟩⟩
      · rw [hb]; have := Int.emod_nonneg (inv p v * v) (show p ≠ 0 by omega); have := Int.emod_lt_of_pos (inv p v * v) (show 0 < p by omega); exact ⟨by omega, by omega⟩
      · rw [hb, Int.mul_comm] at c; exact absurd hm c
    | succ m ih =>
      intro w h1 h2
      have b1 : 0 ≤ w * v := Int.mul_nonneg (by omega) (by omega)
      have b2 : w * v ≤ 13 * 13 := Int.mul_le_mul (by omega) (by omega) (by omega) (by omega)
      have hne := inv_min hp hv w h1 (by omega)
      refine b_X12_inverse_2 o ⟨⟨by omega, by omega⟩, by omega, by omega, ⟨?_, fun c => ?_, fun c => ih (w + 1) (by omega) (by omega)⟩⟩
      · rw [hb]; have := Int.emod_nonneg (w * v) (show p ≠ 0 by omega); have := Int.emod_lt_of_pos (w * v) (show 0 < p by omega); exact ⟨by omega, by omega⟩
      · rw [hb] at c; exact absurd c hne
  exact b_X12_inverse_0 (lp (inv p v - 1).toNat 1 (by decide) (by omega))
/-! ===== registers ===== -/
def MS (Z : Zt) (b : Nat) (P : Nat → Nat → Int) : Prop := ∀ q i : Nat, q < 27 → i < 24 → Z (b + 4) (24 * q + i) = P q i
def updP (P : Nat → Nat → Int) (t : Nat) (f : Nat → Int) : Nat → Nat → Int := fun q => if q = t then f else P q
abbrev O4 (b : Nat) : Nat → Prop := fun c => c = b + 4
theorem MS.at {Z : Zt} {b : Nat} {P : Nat → Nat → Int} (h : MS Z b P) {u i : Int} (hu : 0 ≤ u ∧ u < 27) (hi : 0 ≤ i ∧ i < 24) : Z (b + 4) (24 * u + i).toNat = P u.toNat i.toNat := by
  rw [show (24 * u + i).toNat = 24 * u.toNat + i.toNat from by omega]
  exact h _ _ (by omega) (by omega)
theorem updP_s (P : Nat → Nat → Int) (t : Nat) (f : Nat → Int) : updP P t f t = f := if_pos rfl
theorem updP_n (P : Nat → Nat → Int) {t q : Nat} (f : Nat → Int) (h : q ≠ t) : updP P t f q = P q := if_neg h
theorem updP_2 (P : Nat → Nat → Int) (t : Nat) (f g : Nat → Int) : updP (updP P t f) t g = updP P t g := by
  funext q; unfold updP; split <;> rfl
/-- one place of a register is put -/
def putP (P : Nat → Nat → Int) (t i : Nat) (v : Int) : Nat → Nat → Int := updP P t (fun j => if j = i then v else P t j)
theorem MS.put {Z Z1 : Zt} {b : Nat} {P : Nat → Nat → Int} (h : MS Z b P) {u i v : Int} (hu : 0 ≤ u ∧ u < 27) (hi : 0 ≤ i ∧ i < 24) (e : Z1 = up Z (b + 4) (24 * u + i).toNat v) : MS Z1 b (putP P u.toNat i.toNat v) ∧ Oth Z Z1 (O4 b) := by
  refine ⟨fun q j hq hj => ?_, fun c hc => by rw [e, up_row _ _ _ _ _ hc]⟩
  rw [e, up_at]
  unfold putP updP
  by_cases c : q = u.toNat
  · rw [if_pos c]
    by_cases c2 : j = i.toNat
    · rw [if_pos (by omega), if_pos c2]
    · rw [if_neg (by omega), if_neg c2, h q j hq hj, c]
  · rw [if_neg (by omega), if_neg c, h q j hq hj]
theorem MS.kept {Z Z1 : Zt} {b : Nat} {P : Nat → Nat → Int} (h : MS Z b P) (e : Z1 (b + 4) = Z (b + 4)) : MS Z1 b P := fun q i hq hi => by rw [e]; exact h q i hq hi
theorem MS.eq {Z : Zt} {b : Nat} {P P' : Nat → Nat → Int} (h : MS Z b P) (e : ∀ q i : Nat, q < 27 → i < 24 → P q i = P' q i) : MS Z b P' := fun q i hq hi => (h q i hq hi).trans (e q i hq hi)
theorem sp_X12_deg {k n : Nat} {x : Wx} {Z : Zt} {Q : Option Value → Wx → Zt → Prop} {b : Nat} {u : Int} (o : Is12 x b) {P : Nat → Nat → Int} (hP : MS Z b P) (hu : 0 ≤ u ∧ u < 27) (hr : ∀ i : Nat, i < 24 → Rg (P u.toNat i)) (h : Q (some (i_ (pd (P u.toNat)))) x Z) : V mX12_deg k n 0 [some (r_ b), some (i_ u), none] [] x Z Q := by
  have lp : ∀ (m : Nat), m ≤ 24 → (∀ i : Nat, m ≤ i → i < 24 → P u.toNat i = 0) → V mX12_deg k n 3 [some (r_ b), some (i_ u), some (i_ ((m : Int) - 1))] [] x Z Q := by
    intro m
    induction m with
    | zero =>
      intro _ hz
      refine b_X12_deg_3 o ⟨⟨by omega, by omega⟩, fun _ => ?_, fun c => by omega⟩
      have : pd (P u.toNat) = -1 := by
        have g := dg_ge (P u.toNat) 24
        by_cases c : 0 ≤ pd (P u.toNat)
        · exact absurd (hz _ (Nat.zero_le _) (by have := dg_lt (P u.toNat) 24; have c9 : 0 ≤ dg (P u.toNat) 24 := c; show (dg (P u.toNat) 24).toNat < 24; omega)) (dg_lead _ 24 c)
        · unfold pd at c ⊢; omega
      rw [this] at h; exact h
    | succ m ih =>
      intro hm hz
      have e := hP.at hu (i := ((m + 1 : Nat) : Int) - 1) (by omega)
      have ei : (((m + 1 : Nat) : Int) - 1).toNat = m := by omega
      refine b_X12_deg_3 o ⟨⟨by omega, by omega⟩, fun c => by omega, fun c => ⟨by omega, ⟨by rw [e, ei]; exact hr m (by omega), fun d => ?_, fun d => ?_⟩⟩⟩
      · rw [e, ei] at d
        have : pd (P u.toNat) = ((m + 1 : Nat) : Int) - 1 := by
          have g := dg_lt (P u.toNat) 24
          have g1 : (m : Int) ≤ dg (P u.toNat) 24 := by
            by_cases c2 : (m : Int) ≤ dg (P u.toNat) 24
            · exact c2
            · exact absurd (dg_above _ 24 m (by omega) (by omega)) d
          have g2 := dg_lead (P u.toNat) 24 (by omega)
          have g3 : ¬ (m + 1 ≤ (dg (P u.toNat) 24).toNat) := fun c2 => g2 (hz _ c2 (by omega))
          unfold pd; omega
        rw [this] at h; exact h
      · rw [e, ei] at d
        have := ih (by omega) (fun i h1 h2 => by
          by_cases c2 : i = m
          · rw [c2]; exact d
          · exact hz i (by omega) h2)
        rw [show ((m + 1 : Nat) : Int) - 1 + (-1) = (m : Int) - 1 from by omega]; exact this
  exact b_X12_deg_0 (lp 24 (Nat.le_refl _) (fun i h1 h2 => by omega))
theorem sp_X12_zero {k n : Nat} {x : Wx} {Z : Zt} {Q : Option Value → Wx → Zt → Prop} {b : Nat} {u : Int} (o : Is12 x b) {P : Nat → Nat → Int} (hP : MS Z b P) (hu : 0 ≤ u ∧ u < 27) (h : ∀ Z' : Zt, (MS Z' b (updP P u.toNat pzero) ∧ Oth Z Z' (O4 b)) → Q none x Z') : V mX12_zero k n 0 [some (r_ b), some (i_ u), none] [] x Z Q := by
  have lp : ∀ (m : Nat) (v : Int) (Z1 : Zt), 0 ≤ v → v + m = 24 → MS Z1 b (updP P u.toNat (fun j => if (j : Int) < v then 0 else P u.toNat j)) → Oth Z Z1 (O4 b) → V mX12_zero k n 2 [some (r_ b), some (i_ u), some (i_ v)] [] x Z1 Q := by
    intro m
    induction m with
    | zero =>
      intro v Z1 h0 h1 hM hO
      refine b_X12_zero_2 o ⟨⟨by omega, by omega⟩, fun _ => h Z1 ⟨hM.eq (fun q i hq hi => ?_), hO⟩, fun c => by omega⟩
      unfold updP; split
      · show (if (i : Int) < v then _ else _) = _; rw [if_pos (by omega)]; rfl
      · rfl
    | succ m ih =>
      intro v Z1 h0 h1 hM hO
      refine b_X12_zero_2 o ⟨⟨by omega, by omega⟩, fun c => by omega, fun c => ⟨by omega, by omega, fun Z2 e2 => ?_⟩⟩
      have g := hM.put hu (i := v) (by omega) e2
      refine ih (v + 1) Z2 (by omega) (by omega) (g.1.eq (fun q i hq hi => ?_)) (hO.tr g.2)
      unfold putP updP
      by_cases c2 : q = u.toNat
      · rw [if_pos c2, if_pos c2, if_pos rfl]
        by_cases c3 : i = v.toNat
        · rw [if_pos c3, if_pos (by omega)]
        · rw [if_neg c3]
          by_cases c4 : (i : Int) < v
          · rw [if_pos c4, if_pos (by omega)]
          · rw [if_neg c4, if_neg (by omega)]
      · rw [if_neg c2, if_neg c2, if_neg c2]
  exact b_X12_zero_0 (lp 24 0 Z (by decide) rfl (hP.eq (fun q i hq hi => by
    unfold updP; split
    · rename_i c; show _ = (if (i : Int) < 0 then _ else _); rw [if_neg (by omega), c]
    · rfl)) Oth.rf)
theorem sp_X12_copy {k n : Nat} {x : Wx} {Z : Zt} {Q : Option Value → Wx → Zt → Prop} {b : Nat} {w u : Int} (o : Is12 x b) {P : Nat → Nat → Int} (hP : MS Z b P) (hu : 0 ≤ u ∧ u < 27) (hw : 0 ≤ w ∧ w < 27) (h : ∀ Z' : Zt, (MS Z' b (updP P u.toNat (P w.toNat)) ∧ Oth Z Z' (O4 b)) → Q none x Z') : V mX12_copy k n 0 [some (r_ b), some (i_ w), some (i_ u), none] [] x Z Q := by
  have lp : ∀ (m : Nat) (v : Int) (Z1 : Zt), 0 ≤ v → v + m = 24 → MS Z1 b (updP P u.toNat (fun j => if (j : Int) < v then P w.toNat j else P u.toNat j)) → Oth Z Z1 (O4 b) → V mX12_copy k n 2 [some (r_ b), some (i_ w), some (i_ u), some (i_ v)] [] x Z1 Q := by
    intro m
    induction m with
    | zero =>
      intro v Z1 h0 h1 hM hO
      refine b_X12_copy_2 o ⟨⟨by omega, by omega⟩, fun _ => h Z1 ⟨hM.eq (fun q i hq hi => ?_), hO⟩, fun c => by omega⟩
      unfold updP; split
      · show (if (i : Int) < v then _ else _) = _; rw [if_pos (by omega)]
      · rfl
    | succ m ih =>
      intro v Z1 h0 h1 hM hO
      refine b_X12_copy_2 o ⟨⟨by omega, by omega⟩, fun c => by omega, fun c => ⟨by omega, by omega, by omega, fun Z2 e2 => ?_⟩⟩
      have e := hM.at hw (i := v) (by omega)
      have e9 : updP P u.toNat (fun j => if (j : Int) < v then P w.toNat j else P u.toNat j) w.toNat v.toNat = P w.toNat v.toNat := by
        unfold updP; split
        · rename_i c3; show (if ((v.toNat : Nat) : Int) < v then _ else _) = _; rw [if_neg (by omega), c3]
        · rfl
      rw [e, e9] at e2
      have g := hM.put hu (i := v) (by omega) e2
      refine ih (v + 1) Z2 (by omega) (by omega) (g.1.eq (fun q i hq hi => ?_)) (hO.tr g.2)
      unfold putP updP
      by_cases c2 : q = u.toNat
      · rw [if_pos c2, if_pos c2, if_pos rfl]
        by_cases c3 : i = v.toNat
        · rw [if_pos c3, if_pos (by omega), c3]
        · rw [if_neg c3]
          by_cases c4 : (i : Int) < v
          · rw [if_pos c4, if_pos (by omega)]
          · rw [if_neg c4, if_neg (by omega)]
      · rw [if_neg c2, if_neg c2, if_neg c2]
  exact b_X12_copy_0 (lp 24 0 Z (by decide) rfl (hP.eq (fun q i hq hi => by
    unfold updP; split
    · rename_i c; show _ = (if (i : Int) < 0 then _ else _); rw [if_neg (by omega), c]
    · rfl)) Oth.rf)
