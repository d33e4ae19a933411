/-! ===== the constructors ===== -/
def op7 : List Mo := (2, 0, 1, ((1 : Nat) : Int)) :: (0, 100, 10, 0) :: (3, 0, 0, (-1)) :: []
theorem dX7_init_0 : decode cX7_init 0 = .ok (.aload_n 0, 1) := by decide +kernel
theorem dX7_init_1 : decode cX7_init 1 = .ok (.invokespecial 3, 3) := by decide +kernel
theorem dX7_init_4 : decode cX7_init 4 = .ok (.aload_n 0, 1) := by decide +kernel
theorem dX7_init_5 : decode cX7_init 5 = .ok (.iconst (-1), 1) := by decide +kernel
theorem dX7_init_6 : decode cX7_init 6 = .ok (.putfield 9, 3) := by decide +kernel
theorem dX7_init_9 : decode cX7_init 9 = .ok (.aload_n 0, 1) := by decide +kernel
theorem dX7_init_10 : decode cX7_init 10 = .ok (.bipush 10, 2) := by decide +kernel
theorem dX7_init_12 : decode cX7_init 12 = .ok (.newarray .int, 2) := by decide +kernel
theorem dX7_init_14 : decode cX7_init 14 = .ok (.putfield 15, 3) := by decide +kernel
theorem dX7_init_17 : decode cX7_init 17 = .ok (.return_, 1) := by decide +kernel
theorem df_7 : ∀ j, j < 2 → defaultValue (fty 7 j) = vl (fty 7 j) 0 none := fun j _ => by
  show defaultValue (tyX7 j) = vl (tyX7 j) 0 none
  unfold tyX7
  split <;> rfl
set_option maxRecDepth 20000 in
theorem ci_7 {k n a : Nat} {s : Wx × Zt} {Q : Option Value → Wx → Zt → Prop} (hs : s.1.2.2.1 = a + 1) (hk : s.1.1 a = some (7, 0)) (h : Q none (rn a op7 s).1 (rn a op7 s).2) : V mX7_init (k + 1) (n + 10) 0 [some (r_ a)] [] s.1 s.2 Q :=
  show V mX7_init (k + 1) (n + 10) 0 [some (r_ a)] [] (rn a [] s).1 (rn a [] s).2 Q from
  V_aload_n dX7_init_0 rfl (
    V_objI lm_7_3 lobj lobjc (Nat.le_of_ble_eq_true rfl) (Nat.le_of_ble_eq_true rfl) dX7_init_1 (
    V_aload_n dX7_init_4 rfl (
    V_iconst dX7_init_5 (
    P_7_0 (R_kind hs hk _) lf_7_9 dX7_init_6 (R_put (
    V_aload_n dX7_init_9 rfl (
    V_bipush dX7_init_10 rfl (
    R_arr (k := k + 0) (n := n + 0) (t := 100) (at_ := .int) (N := 10) (d := 1) (by decide) rfl (fun _ _ h9 => va_nm_int h9) rfl (Nat.le_of_ble_eq_true rfl) rfl (by decide) la_int dX7_init_12 hs (by decide +kernel) rfl rfl  (
    P_7_1 (R_kind hs hk _) lf_7_15 rfl rfl dX7_init_14 (R_ref (d := 1) (
    V_ret dX7_init_17 rfl h)))))))))))
def op10 : List Mo := (2, 0, 5, ((3 : Nat) : Int)) :: (1, 8, 26, 0) :: (2, 0, 4, ((2 : Nat) : Int)) :: (0, 100, 3, 0) :: (3, 0, 3, (-1)) :: (2, 0, 0, ((1 : Nat) : Int)) :: (0, 101, 600, 0) :: []
theorem dX10_init_0 : decode cX10_init 0 = .ok (.aload_n 0, 1) := by decide +kernel
theorem dX10_init_1 : decode cX10_init 1 = .ok (.invokespecial 3, 3) := by decide +kernel
theorem dX10_init_4 : decode cX10_init 4 = .ok (.aload_n 0, 1) := by decide +kernel
theorem dX10_init_5 : decode cX10_init 5 = .ok (.sipush 600, 3) := by decide +kernel
theorem dX10_init_8 : decode cX10_init 8 = .ok (.newarray .byte, 2) := by decide +kernel
theorem dX10_init_10 : decode cX10_init 10 = .ok (.putfield 9, 3) := by decide +kernel
theorem dX10_init_13 : decode cX10_init 13 = .ok (.aload_n 0, 1) := by decide +kernel
theorem dX10_init_14 : decode cX10_init 14 = .ok (.iconst (-1), 1) := by decide +kernel
theorem dX10_init_15 : decode cX10_init 15 = .ok (.putfield 15, 3) := by decide +kernel
theorem dX10_init_18 : decode cX10_init 18 = .ok (.aload_n 0, 1) := by decide +kernel
theorem dX10_init_19 : decode cX10_init 19 = .ok (.iconst 3, 1) := by decide +kernel
theorem dX10_init_20 : decode cX10_init 20 = .ok (.newarray .int, 2) := by decide +kernel
theorem dX10_init_22 : decode cX10_init 22 = .ok (.putfield 19, 3) := by decide +kernel
theorem dX10_init_25 : decode cX10_init 25 = .ok (.aload_n 0, 1) := by decide +kernel
theorem dX10_init_26 : decode cX10_init 26 = .ok (.bipush 8, 2) := by decide +kernel
theorem dX10_init_28 : decode cX10_init 28 = .ok (.bipush 26, 2) := by decide +kernel
theorem dX10_init_30 : decode cX10_init 30 = .ok (.multianewarray 23 2, 4) := by decide +kernel
theorem dX10_init_34 : decode cX10_init 34 = .ok (.putfield 25, 3) := by decide +kernel
theorem dX10_init_37 : decode cX10_init 37 = .ok (.return_, 1) := by decide +kernel
theorem df_10 : ∀ j, j < 6 → defaultValue (fty 10 j) = vl (fty 10 j) 0 none := fun j _ => by
  show defaultValue (tyX10 j) = vl (tyX10 j) 0 none
  unfold tyX10
  split <;> rfl
set_option maxRecDepth 20000 in
theorem ci_10 {k n a : Nat} {s : Wx × Zt} {Q : Option Value → Wx → Zt → Prop} (hs : s.1.2.2.1 = a + 1) (hk : s.1.1 a = some (10, 0)) (h : Q none (rn a op10 s).1 (rn a op10 s).2) : V mX10_init (k + 11) (n + 819) 0 [some (r_ a)] [] s.1 s.2 Q :=
  show V mX10_init (k + 11) (n + 819) 0 [some (r_ a)] [] (rn a [] s).1 (rn a [] s).2 Q from
  V_aload_n dX10_init_0 rfl (
    V_objI lm_10_3 lobj lobjc (Nat.le_of_ble_eq_true rfl) (Nat.le_of_ble_eq_true rfl) dX10_init_1 (
    V_aload_n dX10_init_4 rfl (
    V_sipush dX10_init_5 rfl (
    R_arr (k := k + 10) (n := n + 219) (t := 101) (at_ := .byte) (N := 600) (d := 1) (by decide) rfl (fun _ _ h9 => va_nm_byte h9) rfl (Nat.le_of_ble_eq_true rfl) rfl (by decide) la_byte dX10_init_8 hs (by decide +kernel) rfl rfl  (
    P_10_0 (R_kind hs hk _) lf_10_9 rfl rfl dX10_init_10 (R_ref (d := 1) (
    V_aload_n dX10_init_13 rfl (
    V_iconst dX10_init_14 (
    P_10_3 (R_kind hs hk _) lf_10_15 dX10_init_15 (R_put (
    V_aload_n dX10_init_18 rfl (
    V_iconst dX10_init_19 (
    R_arr (k := k + 9) (n := n + 216) (t := 100) (at_ := .int) (N := 3) (d := 2) (by decide) rfl (fun _ _ h9 => va_nm_int h9) rfl (Nat.le_of_ble_eq_true rfl) rfl (by decide) la_int dX10_init_20 hs (by decide +kernel) rfl rfl  (
    P_10_4 (R_kind hs hk _) lf_10_19 rfl rfl dX10_init_22 (R_ref (d := 2) (
    V_aload_n dX10_init_25 rfl (
    V_bipush dX10_init_26 rfl (
    V_bipush dX10_init_28 rfl (
    R_mna (k := k + 0) (n := n + 0) (N := 8) (K := 26) (d := 3) rfl rfl (Nat.le_of_ble_eq_true rfl) (Nat.le_of_ble_eq_true rfl) lc_10_23 dX10_init_30 hs (by decide +kernel) rfl rfl  (
    P_10_5 (R_kind hs hk _) lf_10_25 rfl rfl dX10_init_34 (R_ref (d := 3) (
    V_ret dX10_init_37 rfl h))))))))))))))))))))))
def op8 : List Mo := (2, 0, 0, ((1 : Nat) : Int)) :: (0, 100, 26, 0) :: []
theorem dX8_init_0 : decode cX8_init 0 = .ok (.aload_n 0, 1) := by decide +kernel
theorem dX8_init_1 : decode cX8_init 1 = .ok (.invokespecial 3, 3) := by decide +kernel
theorem dX8_init_4 : decode cX8_init 4 = .ok (.aload_n 0, 1) := by decide +kernel
theorem dX8_init_5 : decode cX8_init 5 = .ok (.bipush 26, 2) := by decide +kernel
theorem dX8_init_7 : decode cX8_init 7 = .ok (.newarray .int, 2) := by decide +kernel
theorem dX8_init_9 : decode cX8_init 9 = .ok (.putfield 9, 3) := by decide +kernel
theorem dX8_init_12 : decode cX8_init 12 = .ok (.aload_n 0, 1) := by decide +kernel
theorem dX8_init_13 : decode cX8_init 13 = .ok (.aload_n 1, 1) := by decide +kernel
theorem dX8_init_14 : decode cX8_init 14 = .ok (.putfield 15, 3) := by decide +kernel
theorem dX8_init_17 : decode cX8_init 17 = .ok (.return_, 1) := by decide +kernel
theorem df_8 : ∀ j, j < 8 → defaultValue (fty 8 j) = vl (fty 8 j) 0 none := fun j _ => by
  show defaultValue (tyX8 j) = vl (tyX8 j) 0 none
  unfold tyX8
  split <;> rfl
theorem ci_8 {k n a tp : Nat} {s : Wx × Zt} {Q : Option Value → Wx → Zt → Prop} (hs : s.1.2.2.1 = a + 1) (hk : s.1.1 a = some (8, 0)) (h : Q none ((rn a op8 s).1.1, upR (rn a op8 s).1.2.1 a 3 (some tp), (rn a op8 s).1.2.2) (rn a op8 s).2) : V mX8_init (k + 1) (n + 26) 0 [some (r_ a), some (r_ tp)] [] s.1 s.2 Q :=
  show V mX8_init (k + 1) (n + 26) 0 [some (r_ a), some (r_ tp)] [] (rn a [] s).1 (rn a [] s).2 Q from
  V_aload_n dX8_init_0 rfl (
    V_objI lm_8_3 lobj lobjc (Nat.le_of_ble_eq_true rfl) (Nat.le_of_ble_eq_true rfl) dX8_init_1 (
    V_aload_n dX8_init_4 rfl (
    V_bipush dX8_init_5 rfl (
    R_arr (k := k + 0) (n := n + 0) (t := 100) (at_ := .int) (N := 26) (d := 1) (by decide) rfl (fun _ _ h9 => va_nm_int h9) rfl (Nat.le_of_ble_eq_true rfl) rfl (by decide) la_int dX8_init_7 hs (by decide +kernel) rfl rfl  (
    P_8_0 (R_kind hs hk _) lf_8_9 rfl rfl dX8_init_9 (R_ref (d := 1) (
    V_aload_n dX8_init_12 rfl (
    V_aload_n dX8_init_13 rfl (
    P_8_3 (R_kind hs hk _) lf_8_15 rfl rfl dX8_init_14 (
    V_ret dX8_init_17 rfl h))))))))))
theorem R_callI8 {y : MD} {k n k0 n0 pc : Nat} {lv : List (Option Value)} {st : List Value} {a b c : Nat} {s : Wx × Zt} {L : List Mo} {Q : Option Value → Wx → Zt → Prop} {idx : Nat} (rest : List Value) (hM : MOk mX8_init 1) (hname : yX8_init.name = "<init>") (hrt : mX8_init.2.2.2.1 = none) (hlk : Cond.methodLink y.1.cls idx yX8_init ∈ lw_tbl) (hin : Cond.instanceMethod yX8_init ∈ lw_tbl)
    (hfr : mX8_init.2.2.2.2.1 + 1 ≤ y.2.2.2.2.1) (hlo : 8 + (mX8_init.2.2.1 + 11) + mX8_init.2.2.2.2.2 ≤ y.2.2.2.2.2) (hrest : (rest.map fun v => v.category).sum ≤ 8) (hcat : ∀ v ∈ (r_ (a + b) :: [r_ (a + c)]), v.category = 1) (hlen : (r_ (a + b) :: [r_ (a + c)]).length ≤ mX8_init.2.2.1) (hst : st = [r_ (a + c)].reverse ++ r_ (a + b) :: rest) (hd : decode y.2.1 pc = .ok (.invokespecial idx, 3)) (ek : k0 = k + 1) (en : n0 = n + 26)
    (sp : ∀ Q' : Option Value → Wx → Zt → Prop, Q' none ((rn (a + b) op8 (rn a L s)).1.1, upR (rn (a + b) op8 (rn a L s)).1.2.1 (a + b) 3 (some (a + c)), (rn (a + b) op8 (rn a L s)).1.2.2) (rn (a + b) op8 (rn a L s)).2 → V mX8_init 1 26 0 (ent 2 (r_ (a + b) :: [r_ (a + c)])) [] (rn a L s).1 (rn a L s).2 Q')
    (kk : V y k n (pc + 3) lv rest (rn a ((2, b, 3, (c : Int)) :: (shf b op8 ++ L)) s).1 (rn a ((2, b, 3, (c : Int)) :: (shf b op8 ++ L)) s).2 Q) : V y k0 n0 pc lv st (rn a L s).1 (rn a L s).2 Q := by
  subst ek en
  refine V_callI (k' := 1) (n' := 26) [r_ (a + c)] rest hM hname hrt hlk hin hfr hlo hrest hcat hlen (by omega) (by omega) hst hd (sp _ ?_)
  have e : rn a ((2, b, 3, (c : Int)) :: (shf b op8 ++ L)) s = stp a (2, b, 3, (c : Int)) (rn (a + b) op8 (rn a L s)) := by show stp a _ (rn a (shf b op8 ++ L) s) = _; rw [rn_app, rn_shf]
  rw [e] at kk
  rw [Nat.add_sub_cancel, Nat.add_sub_cancel]
  exact kk
def op4 : List Mo := (2, 0, 3, ((2 : Nat) : Int)) :: (0, 102, 13, 0) :: (2, 0, 2, ((1 : Nat) : Int)) :: (0, 100, 13, 0) :: (3, 0, 1, 3) :: (3, 0, 0, 7) :: []
theorem dX4_init_0 : decode cX4_init 0 = .ok (.aload_n 0, 1) := by decide +kernel
theorem dX4_init_1 : decode cX4_init 1 = .ok (.invokespecial 3, 3) := by decide +kernel
theorem dX4_init_4 : decode cX4_init 4 = .ok (.aload_n 0, 1) := by decide +kernel
theorem dX4_init_5 : decode cX4_init 5 = .ok (.bipush 7, 2) := by decide +kernel
theorem dX4_init_7 : decode cX4_init 7 = .ok (.putfield 9, 3) := by decide +kernel
theorem dX4_init_10 : decode cX4_init 10 = .ok (.aload_n 0, 1) := by decide +kernel
theorem dX4_init_11 : decode cX4_init 11 = .ok (.iconst 3, 1) := by decide +kernel
theorem dX4_init_12 : decode cX4_init 12 = .ok (.putfield 15, 3) := by decide +kernel
theorem dX4_init_15 : decode cX4_init 15 = .ok (.aload_n 0, 1) := by decide +kernel
theorem dX4_init_16 : decode cX4_init 16 = .ok (.bipush 13, 2) := by decide +kernel
theorem dX4_init_18 : decode cX4_init 18 = .ok (.newarray .int, 2) := by decide +kernel
theorem dX4_init_20 : decode cX4_init 20 = .ok (.putfield 18, 3) := by decide +kernel
theorem dX4_init_23 : decode cX4_init 23 = .ok (.aload_n 0, 1) := by decide +kernel
theorem dX4_init_24 : decode cX4_init 24 = .ok (.bipush 13, 2) := by decide +kernel
theorem dX4_init_26 : decode cX4_init 26 = .ok (.newarray .boolean, 2) := by decide +kernel
theorem dX4_init_28 : decode cX4_init 28 = .ok (.putfield 22, 3) := by decide +kernel
theorem dX4_init_31 : decode cX4_init 31 = .ok (.return_, 1) := by decide +kernel
theorem df_4 : ∀ j, j < 4 → defaultValue (fty 4 j) = vl (fty 4 j) 0 none := fun j _ => by
  show defaultValue (tyX4 j) = vl (tyX4 j) 0 none
  unfold tyX4
  split <;> rfl
set_option maxRecDepth 20000 in
theorem ci_4 {k n a : Nat} {s : Wx × Zt} {Q : Option Value → Wx → Zt → Prop} (hs : s.1.2.2.1 = a + 1) (hk : s.1.1 a = some (4, 0)) (h : Q none (rn a op4 s).1 (rn a op4 s).2) : V mX4_init (k + 2) (n + 26) 0 [some (r_ a)] [] s.1 s.2 Q :=
  show V mX4_init (k + 2) (n + 26) 0 [some (r_ a)] [] (rn a [] s).1 (rn a [] s).2 Q from
  V_aload_n dX4_init_0 rfl (
    V_objI lm_4_3 lobj lobjc (Nat.le_of_ble_eq_true rfl) (Nat.le_of_ble_eq_true rfl) dX4_init_1 (
    V_aload_n dX4_init_4 rfl (
    V_bipush dX4_init_5 rfl (
    P_4_0 (R_kind hs hk _) lf_4_9 dX4_init_7 (R_put (
    V_aload_n dX4_init_10 rfl (
    V_iconst dX4_init_11 (
    P_4_1 (R_kind hs hk _) lf_4_15 dX4_init_12 (R_put (
    V_aload_n dX4_init_15 rfl (
    V_bipush dX4_init_16 rfl (
    R_arr (k := k + 1) (n := n + 13) (t := 100) (at_ := .int) (N := 13) (d := 1) (by decide) rfl (fun _ _ h9 => va_nm_int h9) rfl (Nat.le_of_ble_eq_true rfl) rfl (by decide) la_int dX4_init_18 hs (by decide +kernel) rfl rfl  (
    P_4_2 (R_kind hs hk _) lf_4_18 rfl rfl dX4_init_20 (R_ref (d := 1) (
    V_aload_n dX4_init_23 rfl (
    V_bipush dX4_init_24 rfl (
    R_arr (k := k + 0) (n := n + 0) (t := 102) (at_ := .boolean) (N := 13) (d := 2) (by decide) rfl (fun _ _ h9 => va_nm_boolean h9) rfl (Nat.le_of_ble_eq_true rfl) rfl (by decide) la_boolean dX4_init_26 hs (by decide +kernel) rfl rfl  (
    P_4_3 (R_kind hs hk _) lf_4_22 rfl rfl dX4_init_28 (R_ref (d := 2) (
    V_ret dX4_init_31 rfl h))))))))))))))))))))
def op3 : List Mo := (2, 0, 7, ((15 : Nat) : Int)) :: shf 15 op7 ++ ((0, 7, 0, 0) :: (2, 0, 6, ((13 : Nat) : Int)) :: shf 13 op7 ++ ((0, 7, 0, 0) :: (2, 0, 5, ((11 : Nat) : Int)) :: shf 11 op7 ++ ((0, 7, 0, 0) :: (2, 0, 4, ((9 : Nat) : Int)) :: shf 9 op7 ++ ((0, 7, 0, 0) :: (2, 0, 3, ((7 : Nat) : Int)) :: shf 7 op7 ++ ((0, 7, 0, 0) :: (2, 0, 2, ((5 : Nat) : Int)) :: shf 5 op7 ++ ((0, 7, 0, 0) :: (2, 0, 1, ((3 : Nat) : Int)) :: shf 3 op7 ++ ((0, 7, 0, 0) :: (2, 0, 0, ((1 : Nat) : Int)) :: shf 1 op7 ++ ((0, 7, 0, 0) :: []))))))))
theorem dX3_init_0 : decode cX3_init 0 = .ok (.aload_n 0, 1) := by decide +kernel
theorem dX3_init_1 : decode cX3_init 1 = .ok (.invokespecial 1, 3) := by decide +kernel
theorem dX3_init_4 : decode cX3_init 4 = .ok (.aload_n 0, 1) := by decide +kernel
theorem dX3_init_5 : decode cX3_init 5 = .ok (.new 7, 3) := by decide +kernel
theorem dX3_init_8 : decode cX3_init 8 = .ok (.dup, 1) := by decide +kernel
theorem dX3_init_9 : decode cX3_init 9 = .ok (.invokespecial 9, 3) := by decide +kernel
theorem dX3_init_12 : decode cX3_init 12 = .ok (.putfield 10, 3) := by decide +kernel
theorem dX3_init_15 : decode cX3_init 15 = .ok (.aload_n 0, 1) := by decide +kernel
theorem dX3_init_16 : decode cX3_init 16 = .ok (.new 7, 3) := by decide +kernel
theorem dX3_init_19 : decode cX3_init 19 = .ok (.dup, 1) := by decide +kernel
theorem dX3_init_20 : decode cX3_init 20 = .ok (.invokespecial 9, 3) := by decide +kernel
theorem dX3_init_23 : decode cX3_init 23 = .ok (.putfield 16, 3) := by decide +kernel
theorem dX3_init_26 : decode cX3_init 26 = .ok (.aload_n 0, 1) := by decide +kernel
theorem dX3_init_27 : decode cX3_init 27 = .ok (.new 7, 3) := by decide +kernel
theorem dX3_init_30 : decode cX3_init 30 = .ok (.dup, 1) := by decide +kernel
theorem dX3_init_31 : decode cX3_init 31 = .ok (.invokespecial 9, 3) := by decide +kernel
theorem dX3_init_34 : decode cX3_init 34 = .ok (.putfield 19, 3) := by decide +kernel
theorem dX3_init_37 : decode cX3_init 37 = .ok (.aload_n 0, 1) := by decide +kernel
theorem dX3_init_38 : decode cX3_init 38 = .ok (.new 7, 3) := by decide +kernel
theorem dX3_init_41 : decode cX3_init 41 = .ok (.dup, 1) := by decide +kernel
theorem dX3_init_42 : decode cX3_init 42 = .ok (.invokespecial 9, 3) := by decide +kernel
theorem dX3_init_45 : decode cX3_init 45 = .ok (.putfield 22, 3) := by decide +kernel
theorem dX3_init_48 : decode cX3_init 48 = .ok (.aload_n 0, 1) := by decide +kernel
theorem dX3_init_49 : decode cX3_init 49 = .ok (.new 7, 3) := by decide +kernel
theorem dX3_init_52 : decode cX3_init 52 = .ok (.dup, 1) := by decide +kernel
theorem dX3_init_53 : decode cX3_init 53 = .ok (.invokespecial 9, 3) := by decide +kernel
theorem dX3_init_56 : decode cX3_init 56 = .ok (.putfield 25, 3) := by decide +kernel
theorem dX3_init_59 : decode cX3_init 59 = .ok (.aload_n 0, 1) := by decide +kernel
theorem dX3_init_60 : decode cX3_init 60 = .ok (.new 7, 3) := by decide +kernel
theorem dX3_init_63 : decode cX3_init 63 = .ok (.dup, 1) := by decide +kernel
theorem dX3_init_64 : decode cX3_init 64 = .ok (.invokespecial 9, 3) := by decide +kernel
theorem dX3_init_67 : decode cX3_init 67 = .ok (.putfield 28, 3) := by decide +kernel
theorem dX3_init_70 : decode cX3_init 70 = .ok (.aload_n 0, 1) := by decide +kernel
theorem dX3_init_71 : decode cX3_init 71 = .ok (.new 7, 3) := by decide +kernel
theorem dX3_init_74 : decode cX3_init 74 = .ok (.dup, 1) := by decide +kernel
theorem dX3_init_75 : decode cX3_init 75 = .ok (.invokespecial 9, 3) := by decide +kernel
theorem dX3_init_78 : decode cX3_init 78 = .ok (.putfield 31, 3) := by decide +kernel
theorem dX3_init_81 : decode cX3_init 81 = .ok (.aload_n 0, 1) := by decide +kernel
theorem dX3_init_82 : decode cX3_init 82 = .ok (.new 7, 3) := by decide +kernel
theorem dX3_init_85 : decode cX3_init 85 = .ok (.dup, 1) := by decide +kernel
theorem dX3_init_86 : decode cX3_init 86 = .ok (.invokespecial 9, 3) := by decide +kernel
theorem dX3_init_89 : decode cX3_init 89 = .ok (.putfield 34, 3) := by decide +kernel
theorem dX3_init_92 : decode cX3_init 92 = .ok (.return_, 1) := by decide +kernel
theorem df_3 : ∀ j, j < 8 → defaultValue (fty 3 j) = vl (fty 3 j) 0 none := fun j _ => by
  show defaultValue (tyX3 j) = vl (tyX3 j) 0 none
  unfold tyX3
  split <;> rfl
set_option maxRecDepth 20000 in
theorem ci_3 {k n a : Nat} {s : Wx × Zt} {Q : Option Value → Wx → Zt → Prop} (hs : s.1.2.2.1 = a + 1) (hk : s.1.1 a = some (3, 0)) (h : Q none (rn a op3 s).1 (rn a op3 s).2) : V mX3_init (k + 16) (n + 96) 0 [some (r_ a)] [] s.1 s.2 Q :=
  show V mX3_init (k + 16) (n + 96) 0 [some (r_ a)] [] (rn a [] s).1 (rn a [] s).2 Q from
  V_aload_n dX3_init_0 rfl (
    V_objI lm_3_1 lobj lobjc (Nat.le_of_ble_eq_true rfl) (Nat.le_of_ble_eq_true rfl) dX3_init_1 (
    V_aload_n dX3_init_4 rfl (
    R_new (k := k + 15) (n := n + 94) (t := 7) (q := (RX7, TX7, 2)) (d := 1) rfl lc_3_7 ln_7 lini_7 df_7 dX3_init_5 hs (by decide +kernel) rfl rfl  (
    V_dup dX3_init_8 rfl (
    R_callIN (k := k + 14) (n := n + 84) (b := 1) (k' := 1) (n' := 10) (L' := op7) [] [r_ (a + 1), r_ a] okX7_init rfl rfl lmn_3_9 liX7_init (Nat.le_of_ble_eq_true rfl) (Nat.le_of_ble_eq_true rfl) (Nat.le_of_ble_eq_true rfl) (cat_of rfl) (Nat.le_of_ble_eq_true rfl) rfl dX3_init_9 rfl rfl (fun _ h9 => ci_7 (k := 0) (n := 0) (rn_nxo hs (d := 1 + 1) (by decide +kernel)) (rn_k hs (b := 1) (by decide +kernel)) h9) (
    P_3_0 (R_kind hs hk _) lf_3_10 rfl rfl dX3_init_12 (R_ref (d := 1) (
    V_aload_n dX3_init_15 rfl (
    R_new (k := k + 13) (n := n + 82) (t := 7) (q := (RX7, TX7, 2)) (d := 3) rfl lc_3_7 ln_7 lini_7 df_7 dX3_init_16 hs (by decide +kernel) rfl rfl  (
    V_dup dX3_init_19 rfl (
    R_callIN (k := k + 12) (n := n + 72) (b := 3) (k' := 1) (n' := 10) (L' := op7) [] [r_ (a + 3), r_ a] okX7_init rfl rfl lmn_3_9 liX7_init (Nat.le_of_ble_eq_true rfl) (Nat.le_of_ble_eq_true rfl) (Nat.le_of_ble_eq_true rfl) (cat_of rfl) (Nat.le_of_ble_eq_true rfl) rfl dX3_init_20 rfl rfl (fun _ h9 => ci_7 (k := 0) (n := 0) (rn_nxo hs (d := 3 + 1) (by decide +kernel)) (rn_k hs (b := 3) (by decide +kernel)) h9) (
    P_3_1 (R_kind hs hk _) lf_3_16 rfl rfl dX3_init_23 (R_ref (d := 3) (
    V_aload_n dX3_init_26 rfl (
    R_new (k := k + 11) (n := n + 70) (t := 7) (q := (RX7, TX7, 2)) (d := 5) rfl lc_3_7 ln_7 lini_7 df_7 dX3_init_27 hs (by decide +kernel) rfl rfl  (
    V_dup dX3_init_30 rfl (
    R_callIN (k := k + 10) (n := n + 60) (b := 5) (k' := 1) (n' := 10) (L' := op7) [] [r_ (a + 5), r_ a] okX7_init rfl rfl lmn_3_9 liX7_init (Nat.le_of_ble_eq_true rfl) (Nat.le_of_ble_eq_true rfl) (Nat.le_of_ble_eq_true rfl) (cat_of rfl) (Nat.le_of_ble_eq_true rfl) rfl dX3_init_31 rfl rfl (fun _ h9 => ci_7 (k := 0) (n := 0) (rn_nxo hs (d := 5 + 1) (by decide +kernel)) (rn_k hs (b := 5) (by decide +kernel)) h9) (
    P_3_2 (R_kind hs hk _) lf_3_19 rfl rfl dX3_init_34 (R_ref (d := 5) (
    V_aload_n dX3_init_37 rfl (
    R_new (k := k + 9) (n := n + 58) (t := 7) (q := (RX7, TX7, 2)) (d := 7) rfl lc_3_7 ln_7 lini_7 df_7 dX3_init_38 hs (by decide +kernel) rfl rfl  (
    V_dup dX3_init_41 rfl (
    R_callIN (k := k + 8) (n := n + 48) (b := 7) (k' := 1) (n' := 10) (L' := op7) [] [r_ (a + 7), r_ a] okX7_init rfl rfl lmn_3_9 liX7_init (Nat.le_of_ble_eq_true rfl) (Nat.le_of_ble_eq_true rfl) (Nat.le_of_ble_eq_true rfl) (cat_of rfl) (Nat.le_of_ble_eq_true rfl) rfl dX3_init_42 rfl rfl (fun _ h9 => ci_7 (k := 0) (n := 0) (rn_nxo hs (d := 7 + 1) (by decide +kernel)) (rn_k hs (b := 7) (by decide +kernel)) h9) (
    P_3_3 (R_kind hs hk _) lf_3_22 rfl rfl dX3_init_45 (R_ref (d := 7) (
    V_aload_n dX3_init_48 rfl (
    R_new (k := k + 7) (n := n + 46) (t := 7) (q := (RX7, TX7, 2)) (d := 9) rfl lc_3_7 ln_7 lini_7 df_7 dX3_init_49 hs (by decide +kernel) rfl rfl  (
    V_dup dX3_init_52 rfl (
    R_callIN (k := k + 6) (n := n + 36) (b := 9) (k' := 1) (n' := 10) (L' := op7) [] [r_ (a + 9), r_ a] okX7_init rfl rfl lmn_3_9 liX7_init (Nat.le_of_ble_eq_true rfl) (Nat.le_of_ble_eq_true rfl) (Nat.le_of_ble_eq_true rfl) (cat_of rfl) (Nat.le_of_ble_eq_true rfl) rfl dX3_init_53 rfl rfl (fun _ h9 => ci_7 (k := 0) (n := 0) (rn_nxo hs (d := 9 + 1) (by decide +kernel)) (rn_k hs (b := 9) (by decide +kernel)) h9) (
    P_3_4 (R_kind hs hk _) lf_3_25 rfl rfl dX3_init_56 (R_ref (d := 9) (
    V_aload_n dX3_init_59 rfl (
    R_new (k := k + 5) (n := n + 34) (t := 7) (q := (RX7, TX7, 2)) (d := 11) rfl lc_3_7 ln_7 lini_7 df_7 dX3_init_60 hs (by decide +kernel) rfl rfl  (
    V_dup dX3_init_63 rfl (
    R_callIN (k := k + 4) (n := n + 24) (b := 11) (k' := 1) (n' := 10) (L' := op7) [] [r_ (a + 11), r_ a] okX7_init rfl rfl lmn_3_9 liX7_init (Nat.le_of_ble_eq_true rfl) (Nat.le_of_ble_eq_true rfl) (Nat.le_of_ble_eq_true rfl) (cat_of rfl) (Nat.le_of_ble_eq_true rfl) rfl dX3_init_64 rfl rfl (fun _ h9 => ci_7 (k := 0) (n := 0) (rn_nxo hs (d := 11 + 1) (by decide +kernel)) (rn_k hs (b := 11) (by decide +kernel)) h9) (
    P_3_5 (R_kind hs hk _) lf_3_28 rfl rfl dX3_init_67 (R_ref (d := 11) (
    V_aload_n dX3_init_70 rfl (
    R_new (k := k + 3) (n := n + 22) (t := 7) (q := (RX7, TX7, 2)) (d := 13) rfl lc_3_7 ln_7 lini_7 df_7 dX3_init_71 hs (by decide +kernel) rfl rfl  (
    V_dup dX3_init_74 rfl (
    R_callIN (k := k + 2) (n := n + 12) (b := 13) (k' := 1) (n' := 10) (L' := op7) [] [r_ (a + 13), r_ a] okX7_init rfl rfl lmn_3_9 liX7_init (Nat.le_of_ble_eq_true rfl) (Nat.le_of_ble_eq_true rfl) (Nat.le_of_ble_eq_true rfl) (cat_of rfl) (Nat.le_of_ble_eq_true rfl) rfl dX3_init_75 rfl rfl (fun _ h9 => ci_7 (k := 0) (n := 0) (rn_nxo hs (d := 13 + 1) (by decide +kernel)) (rn_k hs (b := 13) (by decide +kernel)) h9) (
    P_3_6 (R_kind hs hk _) lf_3_31 rfl rfl dX3_init_78 (R_ref (d := 13) (
    V_aload_n dX3_init_81 rfl (
    R_new (k := k + 1) (n := n + 10) (t := 7) (q := (RX7, TX7, 2)) (d := 15) rfl lc_3_7 ln_7 lini_7 df_7 dX3_init_82 hs (by decide +kernel) rfl rfl  (
    V_dup dX3_init_85 rfl (
    R_callIN (k := k + 0) (n := n + 0) (b := 15) (k' := 1) (n' := 10) (L' := op7) [] [r_ (a + 15), r_ a] okX7_init rfl rfl lmn_3_9 liX7_init (Nat.le_of_ble_eq_true rfl) (Nat.le_of_ble_eq_true rfl) (Nat.le_of_ble_eq_true rfl) (cat_of rfl) (Nat.le_of_ble_eq_true rfl) rfl dX3_init_86 rfl rfl (fun _ h9 => ci_7 (k := 0) (n := 0) (rn_nxo hs (d := 15 + 1) (by decide +kernel)) (rn_k hs (b := 15) (by decide +kernel)) h9) (
    P_3_7 (R_kind hs hk _) lf_3_34 rfl rfl dX3_init_89 (R_ref (d := 15) (
    V_ret dX3_init_92 rfl h))))))))))))))))))))))))))))))))))))))))))))))))))
def op6 : List Mo := (2, 0, 1, ((3 : Nat) : Int)) :: shf 3 op7 ++ ((0, 7, 0, 0) :: (2, 0, 0, ((1 : Nat) : Int)) :: shf 1 op7 ++ ((0, 7, 0, 0) :: []))
theorem dX6_init_0 : decode cX6_init 0 = .ok (.aload_n 0, 1) := by decide +kernel
theorem dX6_init_1 : decode cX6_init 1 = .ok (.invokespecial 1, 3) := by decide +kernel
theorem dX6_init_4 : decode cX6_init 4 = .ok (.aload_n 0, 1) := by decide +kernel
theorem dX6_init_5 : decode cX6_init 5 = .ok (.new 7, 3) := by decide +kernel
theorem dX6_init_8 : decode cX6_init 8 = .ok (.dup, 1) := by decide +kernel
theorem dX6_init_9 : decode cX6_init 9 = .ok (.invokespecial 9, 3) := by decide +kernel
theorem dX6_init_12 : decode cX6_init 12 = .ok (.putfield 10, 3) := by decide +kernel
theorem dX6_init_15 : decode cX6_init 15 = .ok (.aload_n 0, 1) := by decide +kernel
theorem dX6_init_16 : decode cX6_init 16 = .ok (.new 7, 3) := by decide +kernel
theorem dX6_init_19 : decode cX6_init 19 = .ok (.dup, 1) := by decide +kernel
theorem dX6_init_20 : decode cX6_init 20 = .ok (.invokespecial 9, 3) := by decide +kernel
theorem dX6_init_23 : decode cX6_init 23 = .ok (.putfield 16, 3) := by decide +kernel
theorem dX6_init_26 : decode cX6_init 26 = .ok (.return_, 1) := by decide +kernel
theorem df_6 : ∀ j, j < 2 → defaultValue (fty 6 j) = vl (fty 6 j) 0 none := fun j _ => by
  show defaultValue (tyX6 j) = vl (tyX6 j) 0 none
  unfold tyX6
  split <;> rfl
set_option maxRecDepth 20000 in
theorem ci_6 {k n a : Nat} {s : Wx × Zt} {Q : Option Value → Wx → Zt → Prop} (hs : s.1.2.2.1 = a + 1) (hk : s.1.1 a = some (6, 0)) (h : Q none (rn a op6 s).1 (rn a op6 s).2) : V mX6_init (k + 4) (n + 24) 0 [some (r_ a)] [] s.1 s.2 Q :=
  show V mX6_init (k + 4) (n + 24) 0 [some (r_ a)] [] (rn a [] s).1 (rn a [] s).2 Q from
  V_aload_n dX6_init_0 rfl (
    V_objI lm_6_1 lobj lobjc (Nat.le_of_ble_eq_true rfl) (Nat.le_of_ble_eq_true rfl) dX6_init_1 (
    V_aload_n dX6_init_4 rfl (
    R_new (k := k + 3) (n := n + 22) (t := 7) (q := (RX7, TX7, 2)) (d := 1) rfl lc_6_7 ln_7 lini_7 df_7 dX6_init_5 hs (by decide +kernel) rfl rfl  (
    V_dup dX6_init_8 rfl (
    R_callIN (k := k + 2) (n := n + 12) (b := 1) (k' := 1) (n' := 10) (L' := op7) [] [r_ (a + 1), r_ a] okX7_init rfl rfl lmn_6_9 liX7_init (Nat.le_of_ble_eq_true rfl) (Nat.le_of_ble_eq_true rfl) (Nat.le_of_ble_eq_true rfl) (cat_of rfl) (Nat.le_of_ble_eq_true rfl) rfl dX6_init_9 rfl rfl (fun _ h9 => ci_7 (k := 0) (n := 0) (rn_nxo hs (d := 1 + 1) (by decide +kernel)) (rn_k hs (b := 1) (by decide +kernel)) h9) (
    P_6_0 (R_kind hs hk _) lf_6_10 rfl rfl dX6_init_12 (R_ref (d := 1) (
    V_aload_n dX6_init_15 rfl (
    R_new (k := k + 1) (n := n + 10) (t := 7) (q := (RX7, TX7, 2)) (d := 3) rfl lc_6_7 ln_7 lini_7 df_7 dX6_init_16 hs (by decide +kernel) rfl rfl  (
    V_dup dX6_init_19 rfl (
    R_callIN (k := k + 0) (n := n + 0) (b := 3) (k' := 1) (n' := 10) (L' := op7) [] [r_ (a + 3), r_ a] okX7_init rfl rfl lmn_6_9 liX7_init (Nat.le_of_ble_eq_true rfl) (Nat.le_of_ble_eq_true rfl) (Nat.le_of_ble_eq_true rfl) (cat_of rfl) (Nat.le_of_ble_eq_true rfl) rfl dX6_init_20 rfl rfl (fun _ h9 => ci_7 (k := 0) (n := 0) (rn_nxo hs (d := 3 + 1) (by decide +kernel)) (rn_k hs (b := 3) (by decide +kernel)) h9) (
    P_6_1 (R_kind hs hk _) lf_6_16 rfl rfl dX6_init_23 (R_ref (d := 3) (
    V_ret dX6_init_26 rfl h))))))))))))))
def op5 : List Mo := (2, 0, 5, ((11 : Nat) : Int)) :: (0, 100, 10, 0) :: (2, 0, 4, ((9 : Nat) : Int)) :: shf 9 op7 ++ ((0, 7, 0, 0) :: (2, 0, 3, ((7 : Nat) : Int)) :: shf 7 op7 ++ ((0, 7, 0, 0) :: (2, 0, 2, ((5 : Nat) : Int)) :: shf 5 op7 ++ ((0, 7, 0, 0) :: (2, 0, 1, ((3 : Nat) : Int)) :: shf 3 op7 ++ ((0, 7, 0, 0) :: (2, 0, 0, ((1 : Nat) : Int)) :: shf 1 op7 ++ ((0, 7, 0, 0) :: [])))))
theorem dX5_init_0 : decode cX5_init 0 = .ok (.aload_n 0, 1) := by decide +kernel
theorem dX5_init_1 : decode cX5_init 1 = .ok (.invokespecial 3, 3) := by decide +kernel
theorem dX5_init_4 : decode cX5_init 4 = .ok (.aload_n 0, 1) := by decide +kernel
theorem dX5_init_5 : decode cX5_init 5 = .ok (.new 9, 3) := by decide +kernel
theorem dX5_init_8 : decode cX5_init 8 = .ok (.dup, 1) := by decide +kernel
theorem dX5_init_9 : decode cX5_init 9 = .ok (.invokespecial 11, 3) := by decide +kernel
theorem dX5_init_12 : decode cX5_init 12 = .ok (.putfield 12, 3) := by decide +kernel
theorem dX5_init_15 : decode cX5_init 15 = .ok (.aload_n 0, 1) := by decide +kernel
theorem dX5_init_16 : decode cX5_init 16 = .ok (.new 9, 3) := by decide +kernel
theorem dX5_init_19 : decode cX5_init 19 = .ok (.dup, 1) := by decide +kernel
theorem dX5_init_20 : decode cX5_init 20 = .ok (.invokespecial 11, 3) := by decide +kernel
theorem dX5_init_23 : decode cX5_init 23 = .ok (.putfield 18, 3) := by decide +kernel
theorem dX5_init_26 : decode cX5_init 26 = .ok (.aload_n 0, 1) := by decide +kernel
theorem dX5_init_27 : decode cX5_init 27 = .ok (.new 9, 3) := by decide +kernel
theorem dX5_init_30 : decode cX5_init 30 = .ok (.dup, 1) := by decide +kernel
theorem dX5_init_31 : decode cX5_init 31 = .ok (.invokespecial 11, 3) := by decide +kernel
theorem dX5_init_34 : decode cX5_init 34 = .ok (.putfield 21, 3) := by decide +kernel
theorem dX5_init_37 : decode cX5_init 37 = .ok (.aload_n 0, 1) := by decide +kernel
theorem dX5_init_38 : decode cX5_init 38 = .ok (.new 9, 3) := by decide +kernel
theorem dX5_init_41 : decode cX5_init 41 = .ok (.dup, 1) := by decide +kernel
theorem dX5_init_42 : decode cX5_init 42 = .ok (.invokespecial 11, 3) := by decide +kernel
theorem dX5_init_45 : decode cX5_init 45 = .ok (.putfield 24, 3) := by decide +kernel
theorem dX5_init_48 : decode cX5_init 48 = .ok (.aload_n 0, 1) := by decide +kernel
theorem dX5_init_49 : decode cX5_init 49 = .ok (.new 9, 3) := by decide +kernel
theorem dX5_init_52 : decode cX5_init 52 = .ok (.dup, 1) := by decide +kernel
theorem dX5_init_53 : decode cX5_init 53 = .ok (.invokespecial 11, 3) := by decide +kernel
theorem dX5_init_56 : decode cX5_init 56 = .ok (.putfield 27, 3) := by decide +kernel
theorem dX5_init_59 : decode cX5_init 59 = .ok (.aload_n 0, 1) := by decide +kernel
theorem dX5_init_60 : decode cX5_init 60 = .ok (.bipush 10, 2) := by decide +kernel
theorem dX5_init_62 : decode cX5_init 62 = .ok (.newarray .int, 2) := by decide +kernel
theorem dX5_init_64 : decode cX5_init 64 = .ok (.putfield 30, 3) := by decide +kernel
theorem dX5_init_67 : decode cX5_init 67 = .ok (.return_, 1) := by decide +kernel
theorem df_5 : ∀ j, j < 6 → defaultValue (fty 5 j) = vl (fty 5 j) 0 none := fun j _ => by
  show defaultValue (tyX5 j) = vl (tyX5 j) 0 none
  unfold tyX5
  split <;> rfl
set_option maxRecDepth 20000 in
theorem ci_5 {k n a : Nat} {s : Wx × Zt} {Q : Option Value → Wx → Zt → Prop} (hs : s.1.2.2.1 = a + 1) (hk : s.1.1 a = some (5, 0)) (h : Q none (rn a op5 s).1 (rn a op5 s).2) : V mX5_init (k + 11) (n + 70) 0 [some (r_ a)] [] s.1 s.2 Q :=
  show V mX5_init (k + 11) (n + 70) 0 [some (r_ a)] [] (rn a [] s).1 (rn a [] s).2 Q from
  V_aload_n dX5_init_0 rfl (
    V_objI lm_5_3 lobj lobjc (Nat.le_of_ble_eq_true rfl) (Nat.le_of_ble_eq_true rfl) dX5_init_1 (
    V_aload_n dX5_init_4 rfl (
    R_new (k := k + 10) (n := n + 68) (t := 7) (q := (RX7, TX7, 2)) (d := 1) rfl lc_5_9 ln_7 lini_7 df_7 dX5_init_5 hs (by decide +kernel) rfl rfl  (
    V_dup dX5_init_8 rfl (
    R_callIN (k := k + 9) (n := n + 58) (b := 1) (k' := 1) (n' := 10) (L' := op7) [] [r_ (a + 1), r_ a] okX7_init rfl rfl lmn_5_11 liX7_init (Nat.le_of_ble_eq_true rfl) (Nat.le_of_ble_eq_true rfl) (Nat.le_of_ble_eq_true rfl) (cat_of rfl) (Nat.le_of_ble_eq_true rfl) rfl dX5_init_9 rfl rfl (fun _ h9 => ci_7 (k := 0) (n := 0) (rn_nxo hs (d := 1 + 1) (by decide +kernel)) (rn_k hs (b := 1) (by decide +kernel)) h9) (
    P_5_0 (R_kind hs hk _) lf_5_12 rfl rfl dX5_init_12 (R_ref (d := 1) (
    V_aload_n dX5_init_15 rfl (
    R_new (k := k + 8) (n := n + 56) (t := 7) (q := (RX7, TX7, 2)) (d := 3) rfl lc_5_9 ln_7 lini_7 df_7 dX5_init_16 hs (by decide +kernel) rfl rfl  (
    V_dup dX5_init_19 rfl (
    R_callIN (k := k + 7) (n := n + 46) (b := 3) (k' := 1) (n' := 10) (L' := op7) [] [r_ (a + 3), r_ a] okX7_init rfl rfl lmn_5_11 liX7_init (Nat.le_of_ble_eq_true rfl) (Nat.le_of_ble_eq_true rfl) (Nat.le_of_ble_eq_true rfl) (cat_of rfl) (Nat.le_of_ble_eq_true rfl) rfl dX5_init_20 rfl rfl (fun _ h9 => ci_7 (k := 0) (n := 0) (rn_nxo hs (d := 3 + 1) (by decide +kernel)) (rn_k hs (b := 3) (by decide +kernel)) h9) (
    P_5_1 (R_kind hs hk _) lf_5_18 rfl rfl dX5_init_23 (R_ref (d := 3) (
    V_aload_n dX5_init_26 rfl (
    R_new (k := k + 6) (n := n + 44) (t := 7) (q := (RX7, TX7, 2)) (d := 5) rfl lc_5_9 ln_7 lini_7 df_7 dX5_init_27 hs (by decide +kernel) rfl rfl  (
    V_dup dX5_init_30 rfl (
    R_callIN (k := k + 5) (n := n + 34) (b := 5) (k' := 1) (n' := 10) (L' := op7) [] [r_ (a + 5), r_ a] okX7_init rfl rfl lmn_5_11 liX7_init (Nat.le_of_ble_eq_true rfl) (Nat.le_of_ble_eq_true rfl) (Nat.le_of_ble_eq_true rfl) (cat_of rfl) (Nat.le_of_ble_eq_true rfl) rfl dX5_init_31 rfl rfl (fun _ h9 => ci_7 (k := 0) (n := 0) (rn_nxo hs (d := 5 + 1) (by decide +kernel)) (rn_k hs (b := 5) (by decide +kernel)) h9) (
    P_5_2 (R_kind hs hk _) lf_5_21 rfl rfl dX5_init_34 (R_ref (d := 5) (
    V_aload_n dX5_init_37 rfl (
    R_new (k := k + 4) (n := n + 32) (t := 7) (q := (RX7, TX7, 2)) (d := 7) rfl lc_5_9 ln_7 lini_7 df_7 dX5_init_38 hs (by decide +kernel) rfl rfl  (
    V_dup dX5_init_41 rfl (
    R_callIN (k := k + 3) (n := n + 22) (b := 7) (k' := 1) (n' := 10) (L' := op7) [] [r_ (a + 7), r_ a] okX7_init rfl rfl lmn_5_11 liX7_init (Nat.le_of_ble_eq_true rfl) (Nat.le_of_ble_eq_true rfl) (Nat.le_of_ble_eq_true rfl) (cat_of rfl) (Nat.le_of_ble_eq_true rfl) rfl dX5_init_42 rfl rfl (fun _ h9 => ci_7 (k := 0) (n := 0) (rn_nxo hs (d := 7 + 1) (by decide +kernel)) (rn_k hs (b := 7) (by decide +kernel)) h9) (
    P_5_3 (R_kind hs hk _) lf_5_24 rfl rfl dX5_init_45 (R_ref (d := 7) (
    V_aload_n dX5_init_48 rfl (
    R_new (k := k + 2) (n := n + 20) (t := 7) (q := (RX7, TX7, 2)) (d := 9) rfl lc_5_9 ln_7 lini_7 df_7 dX5_init_49 hs (by decide +kernel) rfl rfl  (
    V_dup dX5_init_52 rfl (
    R_callIN (k := k + 1) (n := n + 10) (b := 9) (k' := 1) (n' := 10) (L' := op7) [] [r_ (a + 9), r_ a] okX7_init rfl rfl lmn_5_11 liX7_init (Nat.le_of_ble_eq_true rfl) (Nat.le_of_ble_eq_true rfl) (Nat.le_of_ble_eq_true rfl) (cat_of rfl) (Nat.le_of_ble_eq_true rfl) rfl dX5_init_53 rfl rfl (fun _ h9 => ci_7 (k := 0) (n := 0) (rn_nxo hs (d := 9 + 1) (by decide +kernel)) (rn_k hs (b := 9) (by decide +kernel)) h9) (
    P_5_4 (R_kind hs hk _) lf_5_27 rfl rfl dX5_init_56 (R_ref (d := 9) (
    V_aload_n dX5_init_59 rfl (
    V_bipush dX5_init_60 rfl (
    R_arr (k := k + 0) (n := n + 0) (t := 100) (at_ := .int) (N := 10) (d := 11) (by decide) rfl (fun _ _ h9 => va_nm_int h9) rfl (Nat.le_of_ble_eq_true rfl) rfl (by decide) la_int dX5_init_62 hs (by decide +kernel) rfl rfl  (
    P_5_5 (R_kind hs hk _) lf_5_30 rfl rfl dX5_init_64 (R_ref (d := 11) (
    V_ret dX5_init_67 rfl h)))))))))))))))))))))))))))))))))))))
def op2 : List Mo := (2, 0, 13, ((15 : Nat) : Int)) :: (0, 100, 40, 0) :: (2, 0, 12, ((14 : Nat) : Int)) :: (0, 100, 40, 0) :: (2, 0, 11, ((13 : Nat) : Int)) :: (0, 100, 6, 0) :: (2, 0, 10, ((12 : Nat) : Int)) :: (0, 100, 3, 0) :: (2, 0, 9, ((11 : Nat) : Int)) :: (0, 103, 13, 0) :: (2, 0, 8, ((10 : Nat) : Int)) :: (0, 103, 13, 0) :: (2, 0, 7, ((9 : Nat) : Int)) :: (0, 103, 13, 0) :: (2, 0, 6, ((8 : Nat) : Int)) :: (0, 100, 5, 0) :: (2, 0, 5, ((7 : Nat) : Int)) :: (0, 100, 27, 0) :: (2, 0, 4, ((6 : Nat) : Int)) :: (0, 100, 27, 0) :: (2, 0, 1, ((4 : Nat) : Int)) :: shf 4 op7 ++ ((0, 7, 0, 0) :: (2, 0, 0, ((1 : Nat) : Int)) :: shf 1 op4 ++ ((0, 4, 0, 0) :: []))
theorem dX2_init_0 : decode cX2_init 0 = .ok (.aload_n 0, 1) := by decide +kernel
theorem dX2_init_1 : decode cX2_init 1 = .ok (.invokespecial 3, 3) := by decide +kernel
theorem dX2_init_4 : decode cX2_init 4 = .ok (.aload_n 0, 1) := by decide +kernel
theorem dX2_init_5 : decode cX2_init 5 = .ok (.new 9, 3) := by decide +kernel
theorem dX2_init_8 : decode cX2_init 8 = .ok (.dup, 1) := by decide +kernel
theorem dX2_init_9 : decode cX2_init 9 = .ok (.invokespecial 11, 3) := by decide +kernel
theorem dX2_init_12 : decode cX2_init 12 = .ok (.putfield 12, 3) := by decide +kernel
theorem dX2_init_15 : decode cX2_init 15 = .ok (.aload_n 0, 1) := by decide +kernel
theorem dX2_init_16 : decode cX2_init 16 = .ok (.new 18, 3) := by decide +kernel
theorem dX2_init_19 : decode cX2_init 19 = .ok (.dup, 1) := by decide +kernel
theorem dX2_init_20 : decode cX2_init 20 = .ok (.invokespecial 20, 3) := by decide +kernel
theorem dX2_init_23 : decode cX2_init 23 = .ok (.putfield 21, 3) := by decide +kernel
theorem dX2_init_26 : decode cX2_init 26 = .ok (.aload_n 0, 1) := by decide +kernel
theorem dX2_init_27 : decode cX2_init 27 = .ok (.bipush 27, 2) := by decide +kernel
theorem dX2_init_29 : decode cX2_init 29 = .ok (.newarray .int, 2) := by decide +kernel
theorem dX2_init_31 : decode cX2_init 31 = .ok (.putfield 25, 3) := by decide +kernel
theorem dX2_init_34 : decode cX2_init 34 = .ok (.aload_n 0, 1) := by decide +kernel
theorem dX2_init_35 : decode cX2_init 35 = .ok (.bipush 27, 2) := by decide +kernel
theorem dX2_init_37 : decode cX2_init 37 = .ok (.newarray .int, 2) := by decide +kernel
theorem dX2_init_39 : decode cX2_init 39 = .ok (.putfield 29, 3) := by decide +kernel
theorem dX2_init_42 : decode cX2_init 42 = .ok (.aload_n 0, 1) := by decide +kernel
theorem dX2_init_43 : decode cX2_init 43 = .ok (.iconst 5, 1) := by decide +kernel
theorem dX2_init_44 : decode cX2_init 44 = .ok (.newarray .int, 2) := by decide +kernel
theorem dX2_init_46 : decode cX2_init 46 = .ok (.putfield 32, 3) := by decide +kernel
theorem dX2_init_49 : decode cX2_init 49 = .ok (.aload_n 0, 1) := by decide +kernel
theorem dX2_init_50 : decode cX2_init 50 = .ok (.bipush 13, 2) := by decide +kernel
theorem dX2_init_52 : decode cX2_init 52 = .ok (.newarray .long, 2) := by decide +kernel
theorem dX2_init_54 : decode cX2_init 54 = .ok (.putfield 35, 3) := by decide +kernel
theorem dX2_init_57 : decode cX2_init 57 = .ok (.aload_n 0, 1) := by decide +kernel
theorem dX2_init_58 : decode cX2_init 58 = .ok (.bipush 13, 2) := by decide +kernel
theorem dX2_init_60 : decode cX2_init 60 = .ok (.newarray .long, 2) := by decide +kernel
theorem dX2_init_62 : decode cX2_init 62 = .ok (.putfield 39, 3) := by decide +kernel
theorem dX2_init_65 : decode cX2_init 65 = .ok (.aload_n 0, 1) := by decide +kernel
theorem dX2_init_66 : decode cX2_init 66 = .ok (.bipush 13, 2) := by decide +kernel
theorem dX2_init_68 : decode cX2_init 68 = .ok (.newarray .long, 2) := by decide +kernel
theorem dX2_init_70 : decode cX2_init 70 = .ok (.putfield 42, 3) := by decide +kernel
theorem dX2_init_73 : decode cX2_init 73 = .ok (.aload_n 0, 1) := by decide +kernel
theorem dX2_init_74 : decode cX2_init 74 = .ok (.iconst 3, 1) := by decide +kernel
theorem dX2_init_75 : decode cX2_init 75 = .ok (.newarray .int, 2) := by decide +kernel
theorem dX2_init_77 : decode cX2_init 77 = .ok (.putfield 45, 3) := by decide +kernel
theorem dX2_init_80 : decode cX2_init 80 = .ok (.aload_n 0, 1) := by decide +kernel
theorem dX2_init_81 : decode cX2_init 81 = .ok (.bipush 6, 2) := by decide +kernel
theorem dX2_init_83 : decode cX2_init 83 = .ok (.newarray .int, 2) := by decide +kernel
theorem dX2_init_85 : decode cX2_init 85 = .ok (.putfield 48, 3) := by decide +kernel
theorem dX2_init_88 : decode cX2_init 88 = .ok (.aload_n 0, 1) := by decide +kernel
theorem dX2_init_89 : decode cX2_init 89 = .ok (.bipush 40, 2) := by decide +kernel
theorem dX2_init_91 : decode cX2_init 91 = .ok (.newarray .int, 2) := by decide +kernel
theorem dX2_init_93 : decode cX2_init 93 = .ok (.putfield 51, 3) := by decide +kernel
theorem dX2_init_96 : decode cX2_init 96 = .ok (.aload_n 0, 1) := by decide +kernel
theorem dX2_init_97 : decode cX2_init 97 = .ok (.bipush 40, 2) := by decide +kernel
theorem dX2_init_99 : decode cX2_init 99 = .ok (.newarray .int, 2) := by decide +kernel
theorem dX2_init_101 : decode cX2_init 101 = .ok (.putfield 54, 3) := by decide +kernel
theorem dX2_init_104 : decode cX2_init 104 = .ok (.return_, 1) := by decide +kernel
theorem df_2 : ∀ j, j < 17 → defaultValue (fty 2 j) = vl (fty 2 j) 0 none := fun j _ => by
  show defaultValue (tyX2 j) = vl (tyX2 j) 0 none
  unfold tyX2
  split <;> rfl
set_option maxRecDepth 20000 in
theorem ci_2 {k n a : Nat} {s : Wx × Zt} {Q : Option Value → Wx → Zt → Prop} (hs : s.1.2.2.1 = a + 1) (hk : s.1.1 a = some (2, 0)) (h : Q none (rn a op2 s).1 (rn a op2 s).2) : V mX2_init (k + 15) (n + 229) 0 [some (r_ a)] [] s.1 s.2 Q :=
  show V mX2_init (k + 15) (n + 229) 0 [some (r_ a)] [] (rn a [] s).1 (rn a [] s).2 Q from
  V_aload_n dX2_init_0 rfl (
    V_objI lm_2_3 lobj lobjc (Nat.le_of_ble_eq_true rfl) (Nat.le_of_ble_eq_true rfl) dX2_init_1 (
    V_aload_n dX2_init_4 rfl (
    R_new (k := k + 14) (n := n + 225) (t := 4) (q := (RX4, TX4, 4)) (d := 1) rfl lc_2_9 ln_4 lini_4 df_4 dX2_init_5 hs (by decide +kernel) rfl rfl  (
    V_dup dX2_init_8 rfl (
    R_callIN (k := k + 12) (n := n + 199) (b := 1) (k' := 2) (n' := 26) (L' := op4) [] [r_ (a + 1), r_ a] okX4_init rfl rfl lmn_2_11 liX4_init (Nat.le_of_ble_eq_true rfl) (Nat.le_of_ble_eq_true rfl) (Nat.le_of_ble_eq_true rfl) (cat_of rfl) (Nat.le_of_ble_eq_true rfl) rfl dX2_init_9 rfl rfl (fun _ h9 => ci_4 (k := 0) (n := 0) (rn_nxo hs (d := 1 + 1) (by decide +kernel)) (rn_k hs (b := 1) (by decide +kernel)) h9) (
    P_2_0 (R_kind hs hk _) lf_2_12 rfl rfl dX2_init_12 (R_ref (d := 1) (
    V_aload_n dX2_init_15 rfl (
    R_new (k := k + 11) (n := n + 197) (t := 7) (q := (RX7, TX7, 2)) (d := 4) rfl lc_2_18 ln_7 lini_7 df_7 dX2_init_16 hs (by decide +kernel) rfl rfl  (
    V_dup dX2_init_19 rfl (
    R_callIN (k := k + 10) (n := n + 187) (b := 4) (k' := 1) (n' := 10) (L' := op7) [] [r_ (a + 4), r_ a] okX7_init rfl rfl lmn_2_20 liX7_init (Nat.le_of_ble_eq_true rfl) (Nat.le_of_ble_eq_true rfl) (Nat.le_of_ble_eq_true rfl) (cat_of rfl) (Nat.le_of_ble_eq_true rfl) rfl dX2_init_20 rfl rfl (fun _ h9 => ci_7 (k := 0) (n := 0) (rn_nxo hs (d := 4 + 1) (by decide +kernel)) (rn_k hs (b := 4) (by decide +kernel)) h9) (
    P_2_1 (R_kind hs hk _) lf_2_21 rfl rfl dX2_init_23 (R_ref (d := 4) (
    V_aload_n dX2_init_26 rfl (
    V_bipush dX2_init_27 rfl (
    R_arr (k := k + 9) (n := n + 160) (t := 100) (at_ := .int) (N := 27) (d := 6) (by decide) rfl (fun _ _ h9 => va_nm_int h9) rfl (Nat.le_of_ble_eq_true rfl) rfl (by decide) la_int dX2_init_29 hs (by decide +kernel) rfl rfl  (
    P_2_4 (R_kind hs hk _) lf_2_25 rfl rfl dX2_init_31 (R_ref (d := 6) (
    V_aload_n dX2_init_34 rfl (
    V_bipush dX2_init_35 rfl (
    R_arr (k := k + 8) (n := n + 133) (t := 100) (at_ := .int) (N := 27) (d := 7) (by decide) rfl (fun _ _ h9 => va_nm_int h9) rfl (Nat.le_of_ble_eq_true rfl) rfl (by decide) la_int dX2_init_37 hs (by decide +kernel) rfl rfl  (
    P_2_5 (R_kind hs hk _) lf_2_29 rfl rfl dX2_init_39 (R_ref (d := 7) (
    V_aload_n dX2_init_42 rfl (
    V_iconst dX2_init_43 (
    R_arr (k := k + 7) (n := n + 128) (t := 100) (at_ := .int) (N := 5) (d := 8) (by decide) rfl (fun _ _ h9 => va_nm_int h9) rfl (Nat.le_of_ble_eq_true rfl) rfl (by decide) la_int dX2_init_44 hs (by decide +kernel) rfl rfl  (
    P_2_6 (R_kind hs hk _) lf_2_32 rfl rfl dX2_init_46 (R_ref (d := 8) (
    V_aload_n dX2_init_49 rfl (
    V_bipush dX2_init_50 rfl (
    R_arr (k := k + 6) (n := n + 115) (t := 103) (at_ := .long) (N := 13) (d := 9) (by decide) rfl (fun _ _ h9 => va_nm_long h9) rfl (Nat.le_of_ble_eq_true rfl) rfl (by decide) la_long dX2_init_52 hs (by decide +kernel) rfl rfl  (
    P_2_7 (R_kind hs hk _) lf_2_35 rfl rfl dX2_init_54 (R_ref (d := 9) (
    V_aload_n dX2_init_57 rfl (
    V_bipush dX2_init_58 rfl (
    R_arr (k := k + 5) (n := n + 102) (t := 103) (at_ := .long) (N := 13) (d := 10) (by decide) rfl (fun _ _ h9 => va_nm_long h9) rfl (Nat.le_of_ble_eq_true rfl) rfl (by decide) la_long dX2_init_60 hs (by decide +kernel) rfl rfl  (
    P_2_8 (R_kind hs hk _) lf_2_39 rfl rfl dX2_init_62 (R_ref (d := 10) (
    V_aload_n dX2_init_65 rfl (
    V_bipush dX2_init_66 rfl (
    R_arr (k := k + 4) (n := n + 89) (t := 103) (at_ := .long) (N := 13) (d := 11) (by decide) rfl (fun _ _ h9 => va_nm_long h9) rfl (Nat.le_of_ble_eq_true rfl) rfl (by decide) la_long dX2_init_68 hs (by decide +kernel) rfl rfl  (
    P_2_9 (R_kind hs hk _) lf_2_42 rfl rfl dX2_init_70 (R_ref (d := 11) (
    V_aload_n dX2_init_73 rfl (
    V_iconst dX2_init_74 (
    R_arr (k := k + 3) (n := n + 86) (t := 100) (at_ := .int) (N := 3) (d := 12) (by decide) rfl (fun _ _ h9 => va_nm_int h9) rfl (Nat.le_of_ble_eq_true rfl) rfl (by decide) la_int dX2_init_75 hs (by decide +kernel) rfl rfl  (
    P_2_10 (R_kind hs hk _) lf_2_45 rfl rfl dX2_init_77 (R_ref (d := 12) (
    V_aload_n dX2_init_80 rfl (
    V_bipush dX2_init_81 rfl (
    R_arr (k := k + 2) (n := n + 80) (t := 100) (at_ := .int) (N := 6) (d := 13) (by decide) rfl (fun _ _ h9 => va_nm_int h9) rfl (Nat.le_of_ble_eq_true rfl) rfl (by decide) la_int dX2_init_83 hs (by decide +kernel) rfl rfl  (
    P_2_11 (R_kind hs hk _) lf_2_48 rfl rfl dX2_init_85 (R_ref (d := 13) (
    V_aload_n dX2_init_88 rfl (
    V_bipush dX2_init_89 rfl (
    R_arr (k := k + 1) (n := n + 40) (t := 100) (at_ := .int) (N := 40) (d := 14) (by decide) rfl (fun _ _ h9 => va_nm_int h9) rfl (Nat.le_of_ble_eq_true rfl) rfl (by decide) la_int dX2_init_91 hs (by decide +kernel) rfl rfl  (
    P_2_12 (R_kind hs hk _) lf_2_51 rfl rfl dX2_init_93 (R_ref (d := 14) (
    V_aload_n dX2_init_96 rfl (
    V_bipush dX2_init_97 rfl (
    R_arr (k := k + 0) (n := n + 0) (t := 100) (at_ := .int) (N := 40) (d := 15) (by decide) rfl (fun _ _ h9 => va_nm_int h9) rfl (Nat.le_of_ble_eq_true rfl) rfl (by decide) la_int dX2_init_99 hs (by decide +kernel) rfl rfl  (
    P_2_13 (R_kind hs hk _) lf_2_54 rfl rfl dX2_init_101 (R_ref (d := 15) (
    V_ret dX2_init_104 rfl h))))))))))))))))))))))))))))))))))))))))))))))))))))))))))))))))
def op9 : List Mo := (2, 0, 11, ((47 : Nat) : Int)) :: (0, 100, 90, 0) :: (2, 0, 10, ((46 : Nat) : Int)) :: (0, 100, 90, 0) :: (2, 0, 8, ((5 : Nat) : Int)) :: (1, 40, 90, 0) :: (2, 0, 7, ((4 : Nat) : Int)) :: (0, 100, 13, 0) :: (2, 0, 6, ((3 : Nat) : Int)) :: (0, 100, 27, 0) :: (2, 0, 5, ((2 : Nat) : Int)) :: (0, 102, 13, 0) :: (2, 0, 4, ((1 : Nat) : Int)) :: (0, 100, 41, 0) :: []
theorem dX9_init_0 : decode cX9_init 0 = .ok (.aload_n 0, 1) := by decide +kernel
theorem dX9_init_1 : decode cX9_init 1 = .ok (.invokespecial 3, 3) := by decide +kernel
theorem dX9_init_4 : decode cX9_init 4 = .ok (.aload_n 0, 1) := by decide +kernel
theorem dX9_init_5 : decode cX9_init 5 = .ok (.bipush 41, 2) := by decide +kernel
theorem dX9_init_7 : decode cX9_init 7 = .ok (.newarray .int, 2) := by decide +kernel
theorem dX9_init_9 : decode cX9_init 9 = .ok (.putfield 9, 3) := by decide +kernel
theorem dX9_init_12 : decode cX9_init 12 = .ok (.aload_n 0, 1) := by decide +kernel
theorem dX9_init_13 : decode cX9_init 13 = .ok (.bipush 13, 2) := by decide +kernel
theorem dX9_init_15 : decode cX9_init 15 = .ok (.newarray .boolean, 2) := by decide +kernel
theorem dX9_init_17 : decode cX9_init 17 = .ok (.putfield 15, 3) := by decide +kernel
theorem dX9_init_20 : decode cX9_init 20 = .ok (.aload_n 0, 1) := by decide +kernel
theorem dX9_init_21 : decode cX9_init 21 = .ok (.bipush 27, 2) := by decide +kernel
theorem dX9_init_23 : decode cX9_init 23 = .ok (.newarray .int, 2) := by decide +kernel
theorem dX9_init_25 : decode cX9_init 25 = .ok (.putfield 19, 3) := by decide +kernel
theorem dX9_init_28 : decode cX9_init 28 = .ok (.aload_n 0, 1) := by decide +kernel
theorem dX9_init_29 : decode cX9_init 29 = .ok (.bipush 13, 2) := by decide +kernel
theorem dX9_init_31 : decode cX9_init 31 = .ok (.newarray .int, 2) := by decide +kernel
theorem dX9_init_33 : decode cX9_init 33 = .ok (.putfield 22, 3) := by decide +kernel
theorem dX9_init_36 : decode cX9_init 36 = .ok (.aload_n 0, 1) := by decide +kernel
theorem dX9_init_37 : decode cX9_init 37 = .ok (.bipush 40, 2) := by decide +kernel
theorem dX9_init_39 : decode cX9_init 39 = .ok (.bipush 90, 2) := by decide +kernel
theorem dX9_init_41 : decode cX9_init 41 = .ok (.multianewarray 25 2, 4) := by decide +kernel
theorem dX9_init_45 : decode cX9_init 45 = .ok (.putfield 27, 3) := by decide +kernel
theorem dX9_init_48 : decode cX9_init 48 = .ok (.aload_n 0, 1) := by decide +kernel
theorem dX9_init_49 : decode cX9_init 49 = .ok (.bipush 90, 2) := by decide +kernel
theorem dX9_init_51 : decode cX9_init 51 = .ok (.newarray .int, 2) := by decide +kernel
theorem dX9_init_53 : decode cX9_init 53 = .ok (.putfield 30, 3) := by decide +kernel
theorem dX9_init_56 : decode cX9_init 56 = .ok (.aload_n 0, 1) := by decide +kernel
theorem dX9_init_57 : decode cX9_init 57 = .ok (.bipush 90, 2) := by decide +kernel
theorem dX9_init_59 : decode cX9_init 59 = .ok (.newarray .int, 2) := by decide +kernel
theorem dX9_init_61 : decode cX9_init 61 = .ok (.putfield 33, 3) := by decide +kernel
theorem dX9_init_64 : decode cX9_init 64 = .ok (.return_, 1) := by decide +kernel
theorem df_9 : ∀ j, j < 12 → defaultValue (fty 9 j) = vl (fty 9 j) 0 none := fun j _ => by
  show defaultValue (tyX9 j) = vl (tyX9 j) 0 none
  unfold tyX9
  split <;> rfl
set_option maxRecDepth 20000 in
theorem ci_9 {k n a : Nat} {s : Wx × Zt} {Q : Option Value → Wx → Zt → Prop} (hs : s.1.2.2.1 = a + 1) (hk : s.1.1 a = some (9, 0)) (h : Q none (rn a op9 s).1 (rn a op9 s).2) : V mX9_init (k + 47) (n + 3914) 0 [some (r_ a)] [] s.1 s.2 Q :=
  show V mX9_init (k + 47) (n + 3914) 0 [some (r_ a)] [] (rn a [] s).1 (rn a [] s).2 Q from
  V_aload_n dX9_init_0 rfl (
    V_objI lm_9_3 lobj lobjc (Nat.le_of_ble_eq_true rfl) (Nat.le_of_ble_eq_true rfl) dX9_init_1 (
    V_aload_n dX9_init_4 rfl (
    V_bipush dX9_init_5 rfl (
    R_arr (k := k + 46) (n := n + 3873) (t := 100) (at_ := .int) (N := 41) (d := 1) (by decide) rfl (fun _ _ h9 => va_nm_int h9) rfl (Nat.le_of_ble_eq_true rfl) rfl (by decide) la_int dX9_init_7 hs (by decide +kernel) rfl rfl  (
    P_9_4 (R_kind hs hk _) lf_9_9 rfl rfl dX9_init_9 (R_ref (d := 1) (
    V_aload_n dX9_init_12 rfl (
    V_bipush dX9_init_13 rfl (
    R_arr (k := k + 45) (n := n + 3860) (t := 102) (at_ := .boolean) (N := 13) (d := 2) (by decide) rfl (fun _ _ h9 => va_nm_boolean h9) rfl (Nat.le_of_ble_eq_true rfl) rfl (by decide) la_boolean dX9_init_15 hs (by decide +kernel) rfl rfl  (
    P_9_5 (R_kind hs hk _) lf_9_15 rfl rfl dX9_init_17 (R_ref (d := 2) (
    V_aload_n dX9_init_20 rfl (
    V_bipush dX9_init_21 rfl (
    R_arr (k := k + 44) (n := n + 3833) (t := 100) (at_ := .int) (N := 27) (d := 3) (by decide) rfl (fun _ _ h9 => va_nm_int h9) rfl (Nat.le_of_ble_eq_true rfl) rfl (by decide) la_int dX9_init_23 hs (by decide +kernel) rfl rfl  (
    P_9_6 (R_kind hs hk _) lf_9_19 rfl rfl dX9_init_25 (R_ref (d := 3) (
    V_aload_n dX9_init_28 rfl (
    V_bipush dX9_init_29 rfl (
    R_arr (k := k + 43) (n := n + 3820) (t := 100) (at_ := .int) (N := 13) (d := 4) (by decide) rfl (fun _ _ h9 => va_nm_int h9) rfl (Nat.le_of_ble_eq_true rfl) rfl (by decide) la_int dX9_init_31 hs (by decide +kernel) rfl rfl  (
    P_9_7 (R_kind hs hk _) lf_9_22 rfl rfl dX9_init_33 (R_ref (d := 4) (
    V_aload_n dX9_init_36 rfl (
    V_bipush dX9_init_37 rfl (
    V_bipush dX9_init_39 rfl (
    R_mna (k := k + 2) (n := n + 180) (N := 40) (K := 90) (d := 5) rfl rfl (Nat.le_of_ble_eq_true rfl) (Nat.le_of_ble_eq_true rfl) lc_9_25 dX9_init_41 hs (by decide +kernel) rfl rfl  (
    P_9_8 (R_kind hs hk _) lf_9_27 rfl rfl dX9_init_45 (R_ref (d := 5) (
    V_aload_n dX9_init_48 rfl (
    V_bipush dX9_init_49 rfl (
    R_arr (k := k + 1) (n := n + 90) (t := 100) (at_ := .int) (N := 90) (d := 46) (by decide) rfl (fun _ _ h9 => va_nm_int h9) rfl (Nat.le_of_ble_eq_true rfl) rfl (by decide) la_int dX9_init_51 hs (by decide +kernel) rfl rfl  (
    P_9_10 (R_kind hs hk _) lf_9_30 rfl rfl dX9_init_53 (R_ref (d := 46) (
    V_aload_n dX9_init_56 rfl (
    V_bipush dX9_init_57 rfl (
    R_arr (k := k + 0) (n := n + 0) (t := 100) (at_ := .int) (N := 90) (d := 47) (by decide) rfl (fun _ _ h9 => va_nm_int h9) rfl (Nat.le_of_ble_eq_true rfl) rfl (by decide) la_int dX9_init_59 hs (by decide +kernel) rfl rfl  (
    P_9_11 (R_kind hs hk _) lf_9_33 rfl rfl dX9_init_61 (R_ref (d := 47) (
    V_ret dX9_init_64 rfl h))))))))))))))))))))))))))))))))))))))
def op1 : List Mo := (2, 0, 16, ((112 : Nat) : Int)) :: (0, 100, 26, 0) :: (2, 0, 15, ((111 : Nat) : Int)) :: (0, 100, 26, 0) :: (2, 0, 14, ((110 : Nat) : Int)) :: (0, 100, 26, 0) :: (2, 0, 13, ((109 : Nat) : Int)) :: (0, 100, 26, 0) :: (2, 0, 12, ((82 : Nat) : Int)) :: (1, 26, 26, 0) :: (2, 0, 11, ((55 : Nat) : Int)) :: (1, 26, 90, 0) :: (2, 0, 10, ((4 : Nat) : Int)) :: (1, 50, 26, 0) :: (2, 0, 9, ((3 : Nat) : Int)) :: (0, 100, 26, 0) :: (2, 0, 6, ((2 : Nat) : Int)) :: (0, 100, 26, 0) :: (2, 0, 5, ((1 : Nat) : Int)) :: (0, 100, 27, 0) :: []
theorem dX1_init_0 : decode cX1_init 0 = .ok (.aload_n 0, 1) := by decide +kernel
theorem dX1_init_1 : decode cX1_init 1 = .ok (.invokespecial 3, 3) := by decide +kernel
theorem dX1_init_4 : decode cX1_init 4 = .ok (.aload_n 0, 1) := by decide +kernel
theorem dX1_init_5 : decode cX1_init 5 = .ok (.bipush 27, 2) := by decide +kernel
theorem dX1_init_7 : decode cX1_init 7 = .ok (.newarray .int, 2) := by decide +kernel
theorem dX1_init_9 : decode cX1_init 9 = .ok (.putfield 9, 3) := by decide +kernel
theorem dX1_init_12 : decode cX1_init 12 = .ok (.aload_n 0, 1) := by decide +kernel
theorem dX1_init_13 : decode cX1_init 13 = .ok (.bipush 26, 2) := by decide +kernel
theorem dX1_init_15 : decode cX1_init 15 = .ok (.newarray .int, 2) := by decide +kernel
theorem dX1_init_17 : decode cX1_init 17 = .ok (.putfield 15, 3) := by decide +kernel
theorem dX1_init_20 : decode cX1_init 20 = .ok (.aload_n 0, 1) := by decide +kernel
theorem dX1_init_21 : decode cX1_init 21 = .ok (.bipush 26, 2) := by decide +kernel
theorem dX1_init_23 : decode cX1_init 23 = .ok (.newarray .int, 2) := by decide +kernel
theorem dX1_init_25 : decode cX1_init 25 = .ok (.putfield 18, 3) := by decide +kernel
theorem dX1_init_28 : decode cX1_init 28 = .ok (.aload_n 0, 1) := by decide +kernel
theorem dX1_init_29 : decode cX1_init 29 = .ok (.bipush 50, 2) := by decide +kernel
theorem dX1_init_31 : decode cX1_init 31 = .ok (.bipush 26, 2) := by decide +kernel
theorem dX1_init_33 : decode cX1_init 33 = .ok (.multianewarray 21 2, 4) := by decide +kernel
theorem dX1_init_37 : decode cX1_init 37 = .ok (.putfield 23, 3) := by decide +kernel
theorem dX1_init_40 : decode cX1_init 40 = .ok (.aload_n 0, 1) := by decide +kernel
theorem dX1_init_41 : decode cX1_init 41 = .ok (.bipush 26, 2) := by decide +kernel
theorem dX1_init_43 : decode cX1_init 43 = .ok (.bipush 90, 2) := by decide +kernel
theorem dX1_init_45 : decode cX1_init 45 = .ok (.multianewarray 21 2, 4) := by decide +kernel
theorem dX1_init_49 : decode cX1_init 49 = .ok (.putfield 26, 3) := by decide +kernel
theorem dX1_init_52 : decode cX1_init 52 = .ok (.aload_n 0, 1) := by decide +kernel
theorem dX1_init_53 : decode cX1_init 53 = .ok (.bipush 26, 2) := by decide +kernel
theorem dX1_init_55 : decode cX1_init 55 = .ok (.bipush 26, 2) := by decide +kernel
theorem dX1_init_57 : decode cX1_init 57 = .ok (.multianewarray 21 2, 4) := by decide +kernel
theorem dX1_init_61 : decode cX1_init 61 = .ok (.putfield 29, 3) := by decide +kernel
theorem dX1_init_64 : decode cX1_init 64 = .ok (.aload_n 0, 1) := by decide +kernel
theorem dX1_init_65 : decode cX1_init 65 = .ok (.bipush 26, 2) := by decide +kernel
theorem dX1_init_67 : decode cX1_init 67 = .ok (.newarray .int, 2) := by decide +kernel
theorem dX1_init_69 : decode cX1_init 69 = .ok (.putfield 32, 3) := by decide +kernel
theorem dX1_init_72 : decode cX1_init 72 = .ok (.aload_n 0, 1) := by decide +kernel
theorem dX1_init_73 : decode cX1_init 73 = .ok (.bipush 26, 2) := by decide +kernel
theorem dX1_init_75 : decode cX1_init 75 = .ok (.newarray .int, 2) := by decide +kernel
theorem dX1_init_77 : decode cX1_init 77 = .ok (.putfield 35, 3) := by decide +kernel
theorem dX1_init_80 : decode cX1_init 80 = .ok (.aload_n 0, 1) := by decide +kernel
theorem dX1_init_81 : decode cX1_init 81 = .ok (.bipush 26, 2) := by decide +kernel
theorem dX1_init_83 : decode cX1_init 83 = .ok (.newarray .int, 2) := by decide +kernel
theorem dX1_init_85 : decode cX1_init 85 = .ok (.putfield 38, 3) := by decide +kernel
theorem dX1_init_88 : decode cX1_init 88 = .ok (.aload_n 0, 1) := by decide +kernel
theorem dX1_init_89 : decode cX1_init 89 = .ok (.bipush 26, 2) := by decide +kernel
theorem dX1_init_91 : decode cX1_init 91 = .ok (.newarray .int, 2) := by decide +kernel
theorem dX1_init_93 : decode cX1_init 93 = .ok (.putfield 41, 3) := by decide +kernel
theorem dX1_init_96 : decode cX1_init 96 = .ok (.return_, 1) := by decide +kernel
theorem df_1 : ∀ j, j < 17 → defaultValue (fty 1 j) = vl (fty 1 j) 0 none := fun j _ => by
  show defaultValue (tyX1 j) = vl (tyX1 j) 0 none
  unfold tyX1
  split <;> rfl
set_option maxRecDepth 20000 in
theorem ci_1 {k n a : Nat} {s : Wx × Zt} {Q : Option Value → Wx → Zt → Prop} (hs : s.1.2.2.1 = a + 1) (hk : s.1.1 a = some (1, 0)) (h : Q none (rn a op1 s).1 (rn a op1 s).2) : V mX1_init (k + 112) (n + 4601) 0 [some (r_ a)] [] s.1 s.2 Q :=
  show V mX1_init (k + 112) (n + 4601) 0 [some (r_ a)] [] (rn a [] s).1 (rn a [] s).2 Q from
  V_aload_n dX1_init_0 rfl (
    V_objI lm_1_3 lobj lobjc (Nat.le_of_ble_eq_true rfl) (Nat.le_of_ble_eq_true rfl) dX1_init_1 (
    V_aload_n dX1_init_4 rfl (
    V_bipush dX1_init_5 rfl (
    R_arr (k := k + 111) (n := n + 4574) (t := 100) (at_ := .int) (N := 27) (d := 1) (by decide) rfl (fun _ _ h9 => va_nm_int h9) rfl (Nat.le_of_ble_eq_true rfl) rfl (by decide) la_int dX1_init_7 hs (by decide +kernel) rfl rfl  (
    P_1_5 (R_kind hs hk _) lf_1_9 rfl rfl dX1_init_9 (R_ref (d := 1) (
    V_aload_n dX1_init_12 rfl (
    V_bipush dX1_init_13 rfl (
    R_arr (k := k + 110) (n := n + 4548) (t := 100) (at_ := .int) (N := 26) (d := 2) (by decide) rfl (fun _ _ h9 => va_nm_int h9) rfl (Nat.le_of_ble_eq_true rfl) rfl (by decide) la_int dX1_init_15 hs (by decide +kernel) rfl rfl  (
    P_1_6 (R_kind hs hk _) lf_1_15 rfl rfl dX1_init_17 (R_ref (d := 2) (
    V_aload_n dX1_init_20 rfl (
    V_bipush dX1_init_21 rfl (
    R_arr (k := k + 109) (n := n + 4522) (t := 100) (at_ := .int) (N := 26) (d := 3) (by decide) rfl (fun _ _ h9 => va_nm_int h9) rfl (Nat.le_of_ble_eq_true rfl) rfl (by decide) la_int dX1_init_23 hs (by decide +kernel) rfl rfl  (
    P_1_9 (R_kind hs hk _) lf_1_18 rfl rfl dX1_init_25 (R_ref (d := 3) (
    V_aload_n dX1_init_28 rfl (
    V_bipush dX1_init_29 rfl (
    V_bipush dX1_init_31 rfl (
    R_mna (k := k + 58) (n := n + 3172) (N := 50) (K := 26) (d := 4) rfl rfl (Nat.le_of_ble_eq_true rfl) (Nat.le_of_ble_eq_true rfl) lc_1_21 dX1_init_33 hs (by decide +kernel) rfl rfl  (
    P_1_10 (R_kind hs hk _) lf_1_23 rfl rfl dX1_init_37 (R_ref (d := 4) (
    V_aload_n dX1_init_40 rfl (
    V_bipush dX1_init_41 rfl (
    V_bipush dX1_init_43 rfl (
    R_mna (k := k + 31) (n := n + 806) (N := 26) (K := 90) (d := 55) rfl rfl (Nat.le_of_ble_eq_true rfl) (Nat.le_of_ble_eq_true rfl) lc_1_21 dX1_init_45 hs (by decide +kernel) rfl rfl  (
    P_1_11 (R_kind hs hk _) lf_1_26 rfl rfl dX1_init_49 (R_ref (d := 55) (
    V_aload_n dX1_init_52 rfl (
    V_bipush dX1_init_53 rfl (
    V_bipush dX1_init_55 rfl (
    R_mna (k := k + 4) (n := n + 104) (N := 26) (K := 26) (d := 82) rfl rfl (Nat.le_of_ble_eq_true rfl) (Nat.le_of_ble_eq_true rfl) lc_1_21 dX1_init_57 hs (by decide +kernel) rfl rfl  (
    P_1_12 (R_kind hs hk _) lf_1_29 rfl rfl dX1_init_61 (R_ref (d := 82) (
    V_aload_n dX1_init_64 rfl (
    V_bipush dX1_init_65 rfl (
    R_arr (k := k + 3) (n := n + 78) (t := 100) (at_ := .int) (N := 26) (d := 109) (by decide) rfl (fun _ _ h9 => va_nm_int h9) rfl (Nat.le_of_ble_eq_true rfl) rfl (by decide) la_int dX1_init_67 hs (by decide +kernel) rfl rfl  (
    P_1_13 (R_kind hs hk _) lf_1_32 rfl rfl dX1_init_69 (R_ref (d := 109) (
    V_aload_n dX1_init_72 rfl (
    V_bipush dX1_init_73 rfl (
    R_arr (k := k + 2) (n := n + 52) (t := 100) (at_ := .int) (N := 26) (d := 110) (by decide) rfl (fun _ _ h9 => va_nm_int h9) rfl (Nat.le_of_ble_eq_true rfl) rfl (by decide) la_int dX1_init_75 hs (by decide +kernel) rfl rfl  (
    P_1_14 (R_kind hs hk _) lf_1_35 rfl rfl dX1_init_77 (R_ref (d := 110) (
    V_aload_n dX1_init_80 rfl (
    V_bipush dX1_init_81 rfl (
    R_arr (k := k + 1) (n := n + 26) (t := 100) (at_ := .int) (N := 26) (d := 111) (by decide) rfl (fun _ _ h9 => va_nm_int h9) rfl (Nat.le_of_ble_eq_true rfl) rfl (by decide) la_int dX1_init_83 hs (by decide +kernel) rfl rfl  (
    P_1_15 (R_kind hs hk _) lf_1_38 rfl rfl dX1_init_85 (R_ref (d := 111) (
    V_aload_n dX1_init_88 rfl (
    V_bipush dX1_init_89 rfl (
    R_arr (k := k + 0) (n := n + 0) (t := 100) (at_ := .int) (N := 26) (d := 112) (by decide) rfl (fun _ _ h9 => va_nm_int h9) rfl (Nat.le_of_ble_eq_true rfl) rfl (by decide) la_int dX1_init_91 hs (by decide +kernel) rfl rfl  (
    P_1_16 (R_kind hs hk _) lf_1_41 rfl rfl dX1_init_93 (R_ref (d := 112) (
    V_ret dX1_init_96 rfl h)))))))))))))))))))))))))))))))))))))))))))))))))))))))
def op0 : List Mo := (2, 0, 17, ((52 : Nat) : Int)) :: (0, 100, 450, 0) :: (2, 0, 16, ((51 : Nat) : Int)) :: (0, 100, 450, 0) :: (2, 0, 15, ((50 : Nat) : Int)) :: (0, 100, 450, 0) :: (2, 0, 13, ((45 : Nat) : Int)) :: shf 45 op6 ++ ((0, 6, 0, 0) :: (2, 0, 12, ((40 : Nat) : Int)) :: shf 40 op6 ++ ((0, 6, 0, 0) :: (2, 0, 11, ((35 : Nat) : Int)) :: shf 35 op6 ++ ((0, 6, 0, 0) :: (2, 0, 10, ((33 : Nat) : Int)) :: shf 33 op7 ++ ((0, 7, 0, 0) :: (2, 0, 9, ((31 : Nat) : Int)) :: shf 31 op7 ++ ((0, 7, 0, 0) :: (2, 0, 8, ((29 : Nat) : Int)) :: shf 29 op7 ++ ((0, 7, 0, 0) :: (2, 0, 7, ((27 : Nat) : Int)) :: shf 27 op7 ++ ((0, 7, 0, 0) :: (2, 0, 6, ((25 : Nat) : Int)) :: shf 25 op7 ++ ((0, 7, 0, 0) :: (2, 0, 5, ((23 : Nat) : Int)) :: shf 23 op7 ++ ((0, 7, 0, 0) :: (2, 0, 4, ((6 : Nat) : Int)) :: shf 6 op3 ++ ((0, 3, 0, 0) :: (3, 0, 3, 1) :: (2, 0, 2, ((4 : Nat) : Int)) :: shf 4 op7 ++ ((0, 7, 0, 0) :: (2, 0, 1, ((1 : Nat) : Int)) :: shf 1 op4 ++ ((0, 4, 0, 0) :: []))))))))))))
theorem dX0_init_0 : decode cX0_init 0 = .ok (.aload_n 0, 1) := by decide +kernel
theorem dX0_init_1 : decode cX0_init 1 = .ok (.invokespecial 3, 3) := by decide +kernel
theorem dX0_init_4 : decode cX0_init 4 = .ok (.aload_n 0, 1) := by decide +kernel
theorem dX0_init_5 : decode cX0_init 5 = .ok (.new 9, 3) := by decide +kernel
theorem dX0_init_8 : decode cX0_init 8 = .ok (.dup, 1) := by decide +kernel
theorem dX0_init_9 : decode cX0_init 9 = .ok (.invokespecial 11, 3) := by decide +kernel
theorem dX0_init_12 : decode cX0_init 12 = .ok (.putfield 12, 3) := by decide +kernel
theorem dX0_init_15 : decode cX0_init 15 = .ok (.aload_n 0, 1) := by decide +kernel
theorem dX0_init_16 : decode cX0_init 16 = .ok (.new 18, 3) := by decide +kernel
theorem dX0_init_19 : decode cX0_init 19 = .ok (.dup, 1) := by decide +kernel
theorem dX0_init_20 : decode cX0_init 20 = .ok (.invokespecial 20, 3) := by decide +kernel
theorem dX0_init_23 : decode cX0_init 23 = .ok (.putfield 21, 3) := by decide +kernel
theorem dX0_init_26 : decode cX0_init 26 = .ok (.aload_n 0, 1) := by decide +kernel
theorem dX0_init_27 : decode cX0_init 27 = .ok (.iconst 1, 1) := by decide +kernel
theorem dX0_init_28 : decode cX0_init 28 = .ok (.putfield 25, 3) := by decide +kernel
theorem dX0_init_31 : decode cX0_init 31 = .ok (.aload_n 0, 1) := by decide +kernel
theorem dX0_init_32 : decode cX0_init 32 = .ok (.new 29, 3) := by decide +kernel
theorem dX0_init_35 : decode cX0_init 35 = .ok (.dup, 1) := by decide +kernel
theorem dX0_init_36 : decode cX0_init 36 = .ok (.invokespecial 31, 3) := by decide +kernel
theorem dX0_init_39 : decode cX0_init 39 = .ok (.putfield 32, 3) := by decide +kernel
theorem dX0_init_42 : decode cX0_init 42 = .ok (.aload_n 0, 1) := by decide +kernel
theorem dX0_init_43 : decode cX0_init 43 = .ok (.new 18, 3) := by decide +kernel
theorem dX0_init_46 : decode cX0_init 46 = .ok (.dup, 1) := by decide +kernel
theorem dX0_init_47 : decode cX0_init 47 = .ok (.invokespecial 20, 3) := by decide +kernel
theorem dX0_init_50 : decode cX0_init 50 = .ok (.putfield 36, 3) := by decide +kernel
theorem dX0_init_53 : decode cX0_init 53 = .ok (.aload_n 0, 1) := by decide +kernel
theorem dX0_init_54 : decode cX0_init 54 = .ok (.new 18, 3) := by decide +kernel
theorem dX0_init_57 : decode cX0_init 57 = .ok (.dup, 1) := by decide +kernel
theorem dX0_init_58 : decode cX0_init 58 = .ok (.invokespecial 20, 3) := by decide +kernel
theorem dX0_init_61 : decode cX0_init 61 = .ok (.putfield 39, 3) := by decide +kernel
theorem dX0_init_64 : decode cX0_init 64 = .ok (.aload_n 0, 1) := by decide +kernel
theorem dX0_init_65 : decode cX0_init 65 = .ok (.new 18, 3) := by decide +kernel
theorem dX0_init_68 : decode cX0_init 68 = .ok (.dup, 1) := by decide +kernel
theorem dX0_init_69 : decode cX0_init 69 = .ok (.invokespecial 20, 3) := by decide +kernel
theorem dX0_init_72 : decode cX0_init 72 = .ok (.putfield 42, 3) := by decide +kernel
theorem dX0_init_75 : decode cX0_init 75 = .ok (.aload_n 0, 1) := by decide +kernel
theorem dX0_init_76 : decode cX0_init 76 = .ok (.new 18, 3) := by decide +kernel
theorem dX0_init_79 : decode cX0_init 79 = .ok (.dup, 1) := by decide +kernel
theorem dX0_init_80 : decode cX0_init 80 = .ok (.invokespecial 20, 3) := by decide +kernel
theorem dX0_init_83 : decode cX0_init 83 = .ok (.putfield 45, 3) := by decide +kernel
theorem dX0_init_86 : decode cX0_init 86 = .ok (.aload_n 0, 1) := by decide +kernel
theorem dX0_init_87 : decode cX0_init 87 = .ok (.new 18, 3) := by decide +kernel
theorem dX0_init_90 : decode cX0_init 90 = .ok (.dup, 1) := by decide +kernel
theorem dX0_init_91 : decode cX0_init 91 = .ok (.invokespecial 20, 3) := by decide +kernel
theorem dX0_init_94 : decode cX0_init 94 = .ok (.putfield 48, 3) := by decide +kernel
theorem dX0_init_97 : decode cX0_init 97 = .ok (.aload_n 0, 1) := by decide +kernel
theorem dX0_init_98 : decode cX0_init 98 = .ok (.new 18, 3) := by decide +kernel
theorem dX0_init_101 : decode cX0_init 101 = .ok (.dup, 1) := by decide +kernel
theorem dX0_init_102 : decode cX0_init 102 = .ok (.invokespecial 20, 3) := by decide +kernel
theorem dX0_init_105 : decode cX0_init 105 = .ok (.putfield 51, 3) := by decide +kernel
theorem dX0_init_108 : decode cX0_init 108 = .ok (.aload_n 0, 1) := by decide +kernel
theorem dX0_init_109 : decode cX0_init 109 = .ok (.new 54, 3) := by decide +kernel
theorem dX0_init_112 : decode cX0_init 112 = .ok (.dup, 1) := by decide +kernel
theorem dX0_init_113 : decode cX0_init 113 = .ok (.invokespecial 56, 3) := by decide +kernel
theorem dX0_init_116 : decode cX0_init 116 = .ok (.putfield 57, 3) := by decide +kernel
theorem dX0_init_119 : decode cX0_init 119 = .ok (.aload_n 0, 1) := by decide +kernel
theorem dX0_init_120 : decode cX0_init 120 = .ok (.new 54, 3) := by decide +kernel
theorem dX0_init_123 : decode cX0_init 123 = .ok (.dup, 1) := by decide +kernel
theorem dX0_init_124 : decode cX0_init 124 = .ok (.invokespecial 56, 3) := by decide +kernel
theorem dX0_init_127 : decode cX0_init 127 = .ok (.putfield 61, 3) := by decide +kernel
theorem dX0_init_130 : decode cX0_init 130 = .ok (.aload_n 0, 1) := by decide +kernel
theorem dX0_init_131 : decode cX0_init 131 = .ok (.new 54, 3) := by decide +kernel
theorem dX0_init_134 : decode cX0_init 134 = .ok (.dup, 1) := by decide +kernel
theorem dX0_init_135 : decode cX0_init 135 = .ok (.invokespecial 56, 3) := by decide +kernel
theorem dX0_init_138 : decode cX0_init 138 = .ok (.putfield 64, 3) := by decide +kernel
theorem dX0_init_141 : decode cX0_init 141 = .ok (.aload_n 0, 1) := by decide +kernel
theorem dX0_init_142 : decode cX0_init 142 = .ok (.sipush 450, 3) := by decide +kernel
theorem dX0_init_145 : decode cX0_init 145 = .ok (.newarray .int, 2) := by decide +kernel
theorem dX0_init_147 : decode cX0_init 147 = .ok (.putfield 67, 3) := by decide +kernel
theorem dX0_init_150 : decode cX0_init 150 = .ok (.aload_n 0, 1) := by decide +kernel
theorem dX0_init_151 : decode cX0_init 151 = .ok (.sipush 450, 3) := by decide +kernel
theorem dX0_init_154 : decode cX0_init 154 = .ok (.newarray .int, 2) := by decide +kernel
theorem dX0_init_156 : decode cX0_init 156 = .ok (.putfield 71, 3) := by decide +kernel
theorem dX0_init_159 : decode cX0_init 159 = .ok (.aload_n 0, 1) := by decide +kernel
theorem dX0_init_160 : decode cX0_init 160 = .ok (.sipush 450, 3) := by decide +kernel
theorem dX0_init_163 : decode cX0_init 163 = .ok (.newarray .int, 2) := by decide +kernel
theorem dX0_init_165 : decode cX0_init 165 = .ok (.putfield 74, 3) := by decide +kernel
theorem dX0_init_168 : decode cX0_init 168 = .ok (.return_, 1) := by decide +kernel
theorem df_0 : ∀ j, j < 18 → defaultValue (fty 0 j) = vl (fty 0 j) 0 none := fun j _ => by
  show defaultValue (tyX0 j) = vl (tyX0 j) 0 none
  unfold tyX0
  split <;> rfl
set_option maxRecDepth 20000 in
theorem ci_0 {k n a : Nat} {s : Wx × Zt} {Q : Option Value → Wx → Zt → Prop} (hs : s.1.2.2.1 = a + 1) (hk : s.1.1 a = some (0, 0)) (h : Q none (rn a op0 s).1 (rn a op0 s).2) : V mX0_init (k + 52) (n + 1646) 0 [some (r_ a)] [] s.1 s.2 Q :=
  show V mX0_init (k + 52) (n + 1646) 0 [some (r_ a)] [] (rn a [] s).1 (rn a [] s).2 Q from
  V_aload_n dX0_init_0 rfl (
    V_objI lm_0_3 lobj lobjc (Nat.le_of_ble_eq_true rfl) (Nat.le_of_ble_eq_true rfl) dX0_init_1 (
    V_aload_n dX0_init_4 rfl (
    R_new (k := k + 51) (n := n + 1642) (t := 4) (q := (RX4, TX4, 4)) (d := 1) rfl lc_0_9 ln_4 lini_4 df_4 dX0_init_5 hs (by decide +kernel) rfl rfl  (
    V_dup dX0_init_8 rfl (
    R_callIN (k := k + 49) (n := n + 1616) (b := 1) (k' := 2) (n' := 26) (L' := op4) [] [r_ (a + 1), r_ a] okX4_init rfl rfl lmn_0_11 liX4_init (Nat.le_of_ble_eq_true rfl) (Nat.le_of_ble_eq_true rfl) (Nat.le_of_ble_eq_true rfl) (cat_of rfl) (Nat.le_of_ble_eq_true rfl) rfl dX0_init_9 rfl rfl (fun _ h9 => ci_4 (k := 0) (n := 0) (rn_nxo hs (d := 1 + 1) (by decide +kernel)) (rn_k hs (b := 1) (by decide +kernel)) h9) (
    P_0_1 (R_kind hs hk _) lf_0_12 dX0_init_12 (R_ref (d := 1) (
    V_aload_n dX0_init_15 rfl (
    R_new (k := k + 48) (n := n + 1614) (t := 7) (q := (RX7, TX7, 2)) (d := 4) rfl lc_0_18 ln_7 lini_7 df_7 dX0_init_16 hs (by decide +kernel) rfl rfl  (
    V_dup dX0_init_19 rfl (
    R_callIN (k := k + 47) (n := n + 1604) (b := 4) (k' := 1) (n' := 10) (L' := op7) [] [r_ (a + 4), r_ a] okX7_init rfl rfl lmn_0_20 liX7_init (Nat.le_of_ble_eq_true rfl) (Nat.le_of_ble_eq_true rfl) (Nat.le_of_ble_eq_true rfl) (cat_of rfl) (Nat.le_of_ble_eq_true rfl) rfl dX0_init_20 rfl rfl (fun _ h9 => ci_7 (k := 0) (n := 0) (rn_nxo hs (d := 4 + 1) (by decide +kernel)) (rn_k hs (b := 4) (by decide +kernel)) h9) (
    P_0_2 (R_kind hs hk _) lf_0_21 dX0_init_23 (R_ref (d := 4) (
    V_aload_n dX0_init_26 rfl (
    V_iconst dX0_init_27 (
    P_0_3 (R_kind hs hk _) lf_0_25 dX0_init_28 (R_put (
    V_aload_n dX0_init_31 rfl (
    R_new (k := k + 46) (n := n + 1596) (t := 3) (q := (RX3, TX3, 8)) (d := 6) rfl lc_0_29 ln_3 lini_3 df_3 dX0_init_32 hs (by decide +kernel) rfl rfl  (
    V_dup dX0_init_35 rfl (
    R_callIN (k := k + 30) (n := n + 1500) (b := 6) (k' := 16) (n' := 96) (L' := op3) [] [r_ (a + 6), r_ a] okX3_init rfl rfl lmn_0_31 liX3_init (Nat.le_of_ble_eq_true rfl) (Nat.le_of_ble_eq_true rfl) (Nat.le_of_ble_eq_true rfl) (cat_of rfl) (Nat.le_of_ble_eq_true rfl) rfl dX0_init_36 rfl rfl (fun _ h9 => ci_3 (k := 0) (n := 0) (rn_nxo hs (d := 6 + 1) (by decide +kernel)) (rn_k hs (b := 6) (by decide +kernel)) h9) (
    P_0_4 (R_kind hs hk _) lf_0_32 rfl rfl dX0_init_39 (R_ref (d := 6) (
    V_aload_n dX0_init_42 rfl (
    R_new (k := k + 29) (n := n + 1498) (t := 7) (q := (RX7, TX7, 2)) (d := 23) rfl lc_0_18 ln_7 lini_7 df_7 dX0_init_43 hs (by decide +kernel) rfl rfl  (
    V_dup dX0_init_46 rfl (
    R_callIN (k := k + 28) (n := n + 1488) (b := 23) (k' := 1) (n' := 10) (L' := op7) [] [r_ (a + 23), r_ a] okX7_init rfl rfl lmn_0_20 liX7_init (Nat.le_of_ble_eq_true rfl) (Nat.le_of_ble_eq_true rfl) (Nat.le_of_ble_eq_true rfl) (cat_of rfl) (Nat.le_of_ble_eq_true rfl) rfl dX0_init_47 rfl rfl (fun _ h9 => ci_7 (k := 0) (n := 0) (rn_nxo hs (d := 23 + 1) (by decide +kernel)) (rn_k hs (b := 23) (by decide +kernel)) h9) (
    P_0_5 (R_kind hs hk _) lf_0_36 rfl rfl dX0_init_50 (R_ref (d := 23) (
    V_aload_n dX0_init_53 rfl (
    R_new (k := k + 27) (n := n + 1486) (t := 7) (q := (RX7, TX7, 2)) (d := 25) rfl lc_0_18 ln_7 lini_7 df_7 dX0_init_54 hs (by decide +kernel) rfl rfl  (
    V_dup dX0_init_57 rfl (
    R_callIN (k := k + 26) (n := n + 1476) (b := 25) (k' := 1) (n' := 10) (L' := op7) [] [r_ (a + 25), r_ a] okX7_init rfl rfl lmn_0_20 liX7_init (Nat.le_of_ble_eq_true rfl) (Nat.le_of_ble_eq_true rfl) (Nat.le_of_ble_eq_true rfl) (cat_of rfl) (Nat.le_of_ble_eq_true rfl) rfl dX0_init_58 rfl rfl (fun _ h9 => ci_7 (k := 0) (n := 0) (rn_nxo hs (d := 25 + 1) (by decide +kernel)) (rn_k hs (b := 25) (by decide +kernel)) h9) (
    P_0_6 (R_kind hs hk _) lf_0_39 rfl rfl dX0_init_61 (R_ref (d := 25) (
    V_aload_n dX0_init_64 rfl (
    R_new (k := k + 25) (n := n + 1474) (t := 7) (q := (RX7, TX7, 2)) (d := 27) rfl lc_0_18 ln_7 lini_7 df_7 dX0_init_65 hs (by decide +kernel) rfl rfl  (
    V_dup dX0_init_68 rfl (
    R_callIN (k := k + 24) (n := n + 1464) (b := 27) (k' := 1) (n' := 10) (L' := op7) [] [r_ (a + 27), r_ a] okX7_init rfl rfl lmn_0_20 liX7_init (Nat.le_of_ble_eq_true rfl) (Nat.le_of_ble_eq_true rfl) (Nat.le_of_ble_eq_true rfl) (cat_of rfl) (Nat.le_of_ble_eq_true rfl) rfl dX0_init_69 rfl rfl (fun _ h9 => ci_7 (k := 0) (n := 0) (rn_nxo hs (d := 27 + 1) (by decide +kernel)) (rn_k hs (b := 27) (by decide +kernel)) h9) (
    P_0_7 (R_kind hs hk _) lf_0_42 rfl rfl dX0_init_72 (R_ref (d := 27) (
    V_aload_n dX0_init_75 rfl (
    R_new (k := k + 23) (n := n + 1462) (t := 7) (q := (RX7, TX7, 2)) (d := 29) rfl lc_0_18 ln_7 lini_7 df_7 dX0_init_76 hs (by decide +kernel) rfl rfl  (
    V_dup dX0_init_79 rfl (
    R_callIN (k := k + 22) (n := n + 1452) (b := 29) (k' := 1) (n' := 10) (L' := op7) [] [r_ (a + 29), r_ a] okX7_init rfl rfl lmn_0_20 liX7_init (Nat.le_of_ble_eq_true rfl) (Nat.le_of_ble_eq_true rfl) (Nat.le_of_ble_eq_true rfl) (cat_of rfl) (Nat.le_of_ble_eq_true rfl) rfl dX0_init_80 rfl rfl (fun _ h9 => ci_7 (k := 0) (n := 0) (rn_nxo hs (d := 29 + 1) (by decide +kernel)) (rn_k hs (b := 29) (by decide +kernel)) h9) (
    P_0_8 (R_kind hs hk _) lf_0_45 rfl rfl dX0_init_83 (R_ref (d := 29) (
    V_aload_n dX0_init_86 rfl (
    R_new (k := k + 21) (n := n + 1450) (t := 7) (q := (RX7, TX7, 2)) (d := 31) rfl lc_0_18 ln_7 lini_7 df_7 dX0_init_87 hs (by decide +kernel) rfl rfl  (
    V_dup dX0_init_90 rfl (
    R_callIN (k := k + 20) (n := n + 1440) (b := 31) (k' := 1) (n' := 10) (L' := op7) [] [r_ (a + 31), r_ a] okX7_init rfl rfl lmn_0_20 liX7_init (Nat.le_of_ble_eq_true rfl) (Nat.le_of_ble_eq_true rfl) (Nat.le_of_ble_eq_true rfl) (cat_of rfl) (Nat.le_of_ble_eq_true rfl) rfl dX0_init_91 rfl rfl (fun _ h9 => ci_7 (k := 0) (n := 0) (rn_nxo hs (d := 31 + 1) (by decide +kernel)) (rn_k hs (b := 31) (by decide +kernel)) h9) (
    P_0_9 (R_kind hs hk _) lf_0_48 rfl rfl dX0_init_94 (R_ref (d := 31) (
    V_aload_n dX0_init_97 rfl (
    R_new (k := k + 19) (n := n + 1438) (t := 7) (q := (RX7, TX7, 2)) (d := 33) rfl lc_0_18 ln_7 lini_7 df_7 dX0_init_98 hs (by decide +kernel) rfl rfl  (
    V_dup dX0_init_101 rfl (
    R_callIN (k := k + 18) (n := n + 1428) (b := 33) (k' := 1) (n' := 10) (L' := op7) [] [r_ (a + 33), r_ a] okX7_init rfl rfl lmn_0_20 liX7_init (Nat.le_of_ble_eq_true rfl) (Nat.le_of_ble_eq_true rfl) (Nat.le_of_ble_eq_true rfl) (cat_of rfl) (Nat.le_of_ble_eq_true rfl) rfl dX0_init_102 rfl rfl (fun _ h9 => ci_7 (k := 0) (n := 0) (rn_nxo hs (d := 33 + 1) (by decide +kernel)) (rn_k hs (b := 33) (by decide +kernel)) h9) (
    P_0_10 (R_kind hs hk _) lf_0_51 rfl rfl dX0_init_105 (R_ref (d := 33) (
    V_aload_n dX0_init_108 rfl (
    R_new (k := k + 17) (n := n + 1426) (t := 6) (q := (RX6, TX6, 2)) (d := 35) rfl lc_0_54 ln_6 lini_6 df_6 dX0_init_109 hs (by decide +kernel) rfl rfl  (
    V_dup dX0_init_112 rfl (
    R_callIN (k := k + 13) (n := n + 1402) (b := 35) (k' := 4) (n' := 24) (L' := op6) [] [r_ (a + 35), r_ a] okX6_init rfl rfl lmn_0_56 liX6_init (Nat.le_of_ble_eq_true rfl) (Nat.le_of_ble_eq_true rfl) (Nat.le_of_ble_eq_true rfl) (cat_of rfl) (Nat.le_of_ble_eq_true rfl) rfl dX0_init_113 rfl rfl (fun _ h9 => ci_6 (k := 0) (n := 0) (rn_nxo hs (d := 35 + 1) (by decide +kernel)) (rn_k hs (b := 35) (by decide +kernel)) h9) (
    P_0_11 (R_kind hs hk _) lf_0_57 rfl rfl dX0_init_116 (R_ref (d := 35) (
    V_aload_n dX0_init_119 rfl (
    R_new (k := k + 12) (n := n + 1400) (t := 6) (q := (RX6, TX6, 2)) (d := 40) rfl lc_0_54 ln_6 lini_6 df_6 dX0_init_120 hs (by decide +kernel) rfl rfl  (
    V_dup dX0_init_123 rfl (
    R_callIN (k := k + 8) (n := n + 1376) (b := 40) (k' := 4) (n' := 24) (L' := op6) [] [r_ (a + 40), r_ a] okX6_init rfl rfl lmn_0_56 liX6_init (Nat.le_of_ble_eq_true rfl) (Nat.le_of_ble_eq_true rfl) (Nat.le_of_ble_eq_true rfl) (cat_of rfl) (Nat.le_of_ble_eq_true rfl) rfl dX0_init_124 rfl rfl (fun _ h9 => ci_6 (k := 0) (n := 0) (rn_nxo hs (d := 40 + 1) (by decide +kernel)) (rn_k hs (b := 40) (by decide +kernel)) h9) (
    P_0_12 (R_kind hs hk _) lf_0_61 rfl rfl dX0_init_127 (R_ref (d := 40) (
    V_aload_n dX0_init_130 rfl (
    R_new (k := k + 7) (n := n + 1374) (t := 6) (q := (RX6, TX6, 2)) (d := 45) rfl lc_0_54 ln_6 lini_6 df_6 dX0_init_131 hs (by decide +kernel) rfl rfl  (
    V_dup dX0_init_134 rfl (
    R_callIN (k := k + 3) (n := n + 1350) (b := 45) (k' := 4) (n' := 24) (L' := op6) [] [r_ (a + 45), r_ a] okX6_init rfl rfl lmn_0_56 liX6_init (Nat.le_of_ble_eq_true rfl) (Nat.le_of_ble_eq_true rfl) (Nat.le_of_ble_eq_true rfl) (cat_of rfl) (Nat.le_of_ble_eq_true rfl) rfl dX0_init_135 rfl rfl (fun _ h9 => ci_6 (k := 0) (n := 0) (rn_nxo hs (d := 45 + 1) (by decide +kernel)) (rn_k hs (b := 45) (by decide +kernel)) h9) (
    P_0_13 (R_kind hs hk _) lf_0_64 rfl rfl dX0_init_138 (R_ref (d := 45) (
    V_aload_n dX0_init_141 rfl (
    V_sipush dX0_init_142 rfl (
    R_arr (k := k + 2) (n := n + 900) (t := 100) (at_ := .int) (N := 450) (d := 50) (by decide) rfl (fun _ _ h9 => va_nm_int h9) rfl (Nat.le_of_ble_eq_true rfl) rfl (by decide) la_int dX0_init_145 hs (by decide +kernel) rfl rfl  (
    P_0_15 (R_kind hs hk _) lf_0_67 rfl rfl dX0_init_147 (R_ref (d := 50) (
    V_aload_n dX0_init_150 rfl (
    V_sipush dX0_init_151 rfl (
    R_arr (k := k + 1) (n := n + 450) (t := 100) (at_ := .int) (N := 450) (d := 51) (by decide) rfl (fun _ _ h9 => va_nm_int h9) rfl (Nat.le_of_ble_eq_true rfl) rfl (by decide) la_int dX0_init_154 hs (by decide +kernel) rfl rfl  (
    P_0_16 (R_kind hs hk _) lf_0_71 rfl rfl dX0_init_156 (R_ref (d := 51) (
    V_aload_n dX0_init_159 rfl (
    V_sipush dX0_init_160 rfl (
    R_arr (k := k + 0) (n := n + 0) (t := 100) (at_ := .int) (N := 450) (d := 52) (by decide) rfl (fun _ _ h9 => va_nm_int h9) rfl (Nat.le_of_ble_eq_true rfl) rfl (by decide) la_int dX0_init_163 hs (by decide +kernel) rfl rfl  (
    P_0_17 (R_kind hs hk _) lf_0_74 rfl rfl dX0_init_165 (R_ref (d := 52) (
    V_ret dX0_init_168 rfl h)))))))))))))))))))))))))))))))))))))))))))))))))))))))))))))))))))))))))))))))))))))))))))))
def op11 : List Mo := (3, 0, 15, (-1)) :: (3, 0, 14, (-1)) :: (2, 0, 13, ((287 : Nat) : Int)) :: shf 287 op6 ++ ((0, 6, 0, 0) :: (2, 0, 12, ((282 : Nat) : Int)) :: shf 282 op6 ++ ((0, 6, 0, 0) :: (2, 0, 11, ((229 : Nat) : Int)) :: shf 229 op0 ++ ((0, 0, 0, 0) :: (2, 0, 10, ((116 : Nat) : Int)) :: shf 116 op1 ++ ((0, 1, 0, 0) :: (2, 0, 9, ((68 : Nat) : Int)) :: shf 68 op9 ++ ((0, 9, 0, 0) :: (2, 0, 8, ((56 : Nat) : Int)) :: shf 56 op5 ++ ((0, 5, 0, 0) :: (2, 0, 7, ((40 : Nat) : Int)) :: shf 40 op2 ++ ((0, 2, 0, 0) :: (2, 0, 6, ((38 : Nat) : Int)) :: shf 38 op7 ++ ((0, 7, 0, 0) :: (2, 0, 5, ((36 : Nat) : Int)) :: shf 36 op7 ++ ((0, 7, 0, 0) :: (2, 0, 4, ((19 : Nat) : Int)) :: shf 19 op3 ++ ((0, 3, 0, 0) :: (2, 0, 3, ((16 : Nat) : Int)) :: shf 16 op4 ++ ((0, 4, 0, 0) :: (2, 0, 2, ((14 : Nat) : Int)) :: (2, 14, 3, ((2 : Nat) : Int)) :: shf 14 op8 ++ ((0, 8, 0, 0) :: (2, 0, 1, ((13 : Nat) : Int)) :: (0, 105, 3, 0) :: (2, 0, 0, ((1 : Nat) : Int)) :: shf 1 op10 ++ ((0, 10, 0, 0) :: [])))))))))))))
theorem dX11_init_0 : decode cX11_init 0 = .ok (.aload_n 0, 1) := by decide +kernel
theorem dX11_init_1 : decode cX11_init 1 = .ok (.invokespecial 1, 3) := by decide +kernel
theorem dX11_init_4 : decode cX11_init 4 = .ok (.aload_n 0, 1) := by decide +kernel
theorem dX11_init_5 : decode cX11_init 5 = .ok (.new 7, 3) := by decide +kernel
theorem dX11_init_8 : decode cX11_init 8 = .ok (.dup, 1) := by decide +kernel
theorem dX11_init_9 : decode cX11_init 9 = .ok (.invokespecial 9, 3) := by decide +kernel
theorem dX11_init_12 : decode cX11_init 12 = .ok (.putfield 10, 3) := by decide +kernel
theorem dX11_init_15 : decode cX11_init 15 = .ok (.aload_n 0, 1) := by decide +kernel
theorem dX11_init_16 : decode cX11_init 16 = .ok (.iconst 3, 1) := by decide +kernel
theorem dX11_init_17 : decode cX11_init 17 = .ok (.anewarray 7, 3) := by decide +kernel
theorem dX11_init_20 : decode cX11_init 20 = .ok (.putfield 16, 3) := by decide +kernel
theorem dX11_init_23 : decode cX11_init 23 = .ok (.aload_n 0, 1) := by decide +kernel
theorem dX11_init_24 : decode cX11_init 24 = .ok (.new 20, 3) := by decide +kernel
theorem dX11_init_27 : decode cX11_init 27 = .ok (.dup, 1) := by decide +kernel
theorem dX11_init_28 : decode cX11_init 28 = .ok (.aload_n 0, 1) := by decide +kernel
theorem dX11_init_29 : decode cX11_init 29 = .ok (.getfield 10, 3) := by decide +kernel
theorem dX11_init_32 : decode cX11_init 32 = .ok (.getfield 22, 3) := by decide +kernel
theorem dX11_init_35 : decode cX11_init 35 = .ok (.invokespecial 26, 3) := by decide +kernel
theorem dX11_init_38 : decode cX11_init 38 = .ok (.putfield 29, 3) := by decide +kernel
theorem dX11_init_41 : decode cX11_init 41 = .ok (.aload_n 0, 1) := by decide +kernel
theorem dX11_init_42 : decode cX11_init 42 = .ok (.new 33, 3) := by decide +kernel
theorem dX11_init_45 : decode cX11_init 45 = .ok (.dup, 1) := by decide +kernel
theorem dX11_init_46 : decode cX11_init 46 = .ok (.invokespecial 35, 3) := by decide +kernel
theorem dX11_init_49 : decode cX11_init 49 = .ok (.putfield 36, 3) := by decide +kernel
theorem dX11_init_52 : decode cX11_init 52 = .ok (.aload_n 0, 1) := by decide +kernel
theorem dX11_init_53 : decode cX11_init 53 = .ok (.new 40, 3) := by decide +kernel
theorem dX11_init_56 : decode cX11_init 56 = .ok (.dup, 1) := by decide +kernel
theorem dX11_init_57 : decode cX11_init 57 = .ok (.invokespecial 42, 3) := by decide +kernel
theorem dX11_init_60 : decode cX11_init 60 = .ok (.putfield 43, 3) := by decide +kernel
theorem dX11_init_63 : decode cX11_init 63 = .ok (.aload_n 0, 1) := by decide +kernel
theorem dX11_init_64 : decode cX11_init 64 = .ok (.new 47, 3) := by decide +kernel
theorem dX11_init_67 : decode cX11_init 67 = .ok (.dup, 1) := by decide +kernel
theorem dX11_init_68 : decode cX11_init 68 = .ok (.invokespecial 49, 3) := by decide +kernel
theorem dX11_init_71 : decode cX11_init 71 = .ok (.putfield 50, 3) := by decide +kernel
theorem dX11_init_74 : decode cX11_init 74 = .ok (.aload_n 0, 1) := by decide +kernel
theorem dX11_init_75 : decode cX11_init 75 = .ok (.new 47, 3) := by decide +kernel
theorem dX11_init_78 : decode cX11_init 78 = .ok (.dup, 1) := by decide +kernel
theorem dX11_init_79 : decode cX11_init 79 = .ok (.invokespecial 49, 3) := by decide +kernel
theorem dX11_init_82 : decode cX11_init 82 = .ok (.putfield 54, 3) := by decide +kernel
theorem dX11_init_85 : decode cX11_init 85 = .ok (.aload_n 0, 1) := by decide +kernel
theorem dX11_init_86 : decode cX11_init 86 = .ok (.new 57, 3) := by decide +kernel
theorem dX11_init_89 : decode cX11_init 89 = .ok (.dup, 1) := by decide +kernel
theorem dX11_init_90 : decode cX11_init 90 = .ok (.invokespecial 59, 3) := by decide +kernel
theorem dX11_init_93 : decode cX11_init 93 = .ok (.putfield 60, 3) := by decide +kernel
theorem dX11_init_96 : decode cX11_init 96 = .ok (.aload_n 0, 1) := by decide +kernel
theorem dX11_init_97 : decode cX11_init 97 = .ok (.new 64, 3) := by decide +kernel
theorem dX11_init_100 : decode cX11_init 100 = .ok (.dup, 1) := by decide +kernel
theorem dX11_init_101 : decode cX11_init 101 = .ok (.invokespecial 66, 3) := by decide +kernel
theorem dX11_init_104 : decode cX11_init 104 = .ok (.putfield 67, 3) := by decide +kernel
theorem dX11_init_107 : decode cX11_init 107 = .ok (.aload_n 0, 1) := by decide +kernel
theorem dX11_init_108 : decode cX11_init 108 = .ok (.new 71, 3) := by decide +kernel
theorem dX11_init_111 : decode cX11_init 111 = .ok (.dup, 1) := by decide +kernel
theorem dX11_init_112 : decode cX11_init 112 = .ok (.invokespecial 73, 3) := by decide +kernel
theorem dX11_init_115 : decode cX11_init 115 = .ok (.putfield 74, 3) := by decide +kernel
theorem dX11_init_118 : decode cX11_init 118 = .ok (.aload_n 0, 1) := by decide +kernel
theorem dX11_init_119 : decode cX11_init 119 = .ok (.new 78, 3) := by decide +kernel
theorem dX11_init_122 : decode cX11_init 122 = .ok (.dup, 1) := by decide +kernel
theorem dX11_init_123 : decode cX11_init 123 = .ok (.invokespecial 80, 3) := by decide +kernel
theorem dX11_init_126 : decode cX11_init 126 = .ok (.putfield 81, 3) := by decide +kernel
theorem dX11_init_129 : decode cX11_init 129 = .ok (.aload_n 0, 1) := by decide +kernel
theorem dX11_init_130 : decode cX11_init 130 = .ok (.new 85, 3) := by decide +kernel
theorem dX11_init_133 : decode cX11_init 133 = .ok (.dup, 1) := by decide +kernel
theorem dX11_init_134 : decode cX11_init 134 = .ok (.invokespecial 87, 3) := by decide +kernel
theorem dX11_init_137 : decode cX11_init 137 = .ok (.putfield 88, 3) := by decide +kernel
theorem dX11_init_140 : decode cX11_init 140 = .ok (.aload_n 0, 1) := by decide +kernel
theorem dX11_init_141 : decode cX11_init 141 = .ok (.new 92, 3) := by decide +kernel
theorem dX11_init_144 : decode cX11_init 144 = .ok (.dup, 1) := by decide +kernel
theorem dX11_init_145 : decode cX11_init 145 = .ok (.invokespecial 94, 3) := by decide +kernel
theorem dX11_init_148 : decode cX11_init 148 = .ok (.putfield 95, 3) := by decide +kernel
theorem dX11_init_151 : decode cX11_init 151 = .ok (.aload_n 0, 1) := by decide +kernel
theorem dX11_init_152 : decode cX11_init 152 = .ok (.new 92, 3) := by decide +kernel
theorem dX11_init_155 : decode cX11_init 155 = .ok (.dup, 1) := by decide +kernel
theorem dX11_init_156 : decode cX11_init 156 = .ok (.invokespecial 94, 3) := by decide +kernel
theorem dX11_init_159 : decode cX11_init 159 = .ok (.putfield 99, 3) := by decide +kernel
theorem dX11_init_162 : decode cX11_init 162 = .ok (.aload_n 0, 1) := by decide +kernel
theorem dX11_init_163 : decode cX11_init 163 = .ok (.iconst (-1), 1) := by decide +kernel
theorem dX11_init_164 : decode cX11_init 164 = .ok (.putfield 102, 3) := by decide +kernel
theorem dX11_init_167 : decode cX11_init 167 = .ok (.aload_n 0, 1) := by decide +kernel
theorem dX11_init_168 : decode cX11_init 168 = .ok (.iconst (-1), 1) := by decide +kernel
theorem dX11_init_169 : decode cX11_init 169 = .ok (.putfield 106, 3) := by decide +kernel
theorem dX11_init_172 : decode cX11_init 172 = .ok (.return_, 1) := by decide +kernel
theorem df_11 : ∀ j, j < 17 → defaultValue (fty 11 j) = vl (fty 11 j) 0 none := fun j _ => by
  show defaultValue (tyX11 j) = vl (tyX11 j) 0 none
  unfold tyX11
  split <;> rfl
set_option maxRecDepth 20000 in
theorem ci_11 {k n a : Nat} {s : Wx × Zt} {Q : Option Value → Wx → Zt → Prop} (hs : s.1.2.2.1 = a + 1) (hk : s.1.1 a = some (11, 0)) (h : Q none (rn a op11 s).1 (rn a op11 s).2) : V mX11_init (k + 291) (n + 11602) 0 [some (r_ a)] [] s.1 s.2 Q :=
  show V mX11_init (k + 291) (n + 11602) 0 [some (r_ a)] [] (rn a [] s).1 (rn a [] s).2 Q from
  V_aload_n dX11_init_0 rfl (
    V_objI lm_11_1 lobj lobjc (Nat.le_of_ble_eq_true rfl) (Nat.le_of_ble_eq_true rfl) dX11_init_1 (
    V_aload_n dX11_init_4 rfl (
    R_new (k := k + 290) (n := n + 11596) (t := 10) (q := (RX10, TX10, 6)) (d := 1) rfl lc_11_7 ln_10 lini_10 df_10 dX11_init_5 hs (by decide +kernel) rfl rfl  (
    V_dup dX11_init_8 rfl (
    R_callIN (k := k + 279) (n := n + 10777) (b := 1) (k' := 11) (n' := 819) (L' := op10) [] [r_ (a + 1), r_ a] okX10_init rfl rfl lmn_11_9 liX10_init (Nat.le_of_ble_eq_true rfl) (Nat.le_of_ble_eq_true rfl) (Nat.le_of_ble_eq_true rfl) (cat_of rfl) (Nat.le_of_ble_eq_true rfl) rfl dX11_init_9 rfl rfl (fun _ h9 => ci_10 (k := 0) (n := 0) (rn_nxo hs (d := 1 + 1) (by decide +kernel)) (rn_k hs (b := 1) (by decide +kernel)) h9) (
    P_11_0 (R_kind hs hk _) lf_11_10 rfl rfl dX11_init_12 (R_ref (d := 1) (
    V_aload_n dX11_init_15 rfl (
    V_iconst dX11_init_16 (
    R_anew (k := k + 278) (n := n + 10774) (N := 3) (d := 13) rfl (Nat.le_of_ble_eq_true rfl) lc_11_7 dX11_init_17 hs (by decide +kernel) rfl rfl  (
    P_11_1 (R_kind hs hk _) lf_11_16 rfl rfl dX11_init_20 (R_ref (d := 13) (
    V_aload_n dX11_init_23 rfl (
    R_new (k := k + 277) (n := n + 10766) (t := 8) (q := (RX8, TX8, 8)) (d := 14) rfl lc_11_20 ln_8 lini_8 df_8 dX11_init_24 hs (by decide +kernel) rfl rfl  (
    V_dup dX11_init_27 rfl (
    V_aload_n dX11_init_28 rfl (
    G_11_0 (b := a + 1) (R_kind hs hk _) (rn_r hs (b := 0) (d := 1) (by decide +kernel)) lf_11_10 dX11_init_29 (
    G_10_0 (b := a + 2) (rn_k hs (b := 1) (by decide +kernel)) (rn_r hs (b := 1) (d := 2) (by decide +kernel)) lf_11_22 dX11_init_32 (
    R_callI8 (k := k + 276) (n := n + 10740) (b := 14) (c := 2) [r_ (a + 14), r_ a] okX8_init rfl rfl lm_11_26 liX8_init (Nat.le_of_ble_eq_true rfl) (Nat.le_of_ble_eq_true rfl) (Nat.le_of_ble_eq_true rfl) (cat_of rfl) (Nat.le_of_ble_eq_true rfl) rfl dX11_init_35 rfl rfl (fun _ h9 => ci_8 (k := 0) (n := 0) (rn_nxo hs (d := 14 + 1) (by decide +kernel)) (rn_k hs (b := 14) (by decide +kernel)) h9) (
    P_11_2 (R_kind hs hk _) lf_11_29 rfl rfl dX11_init_38 (R_ref (d := 14) (
    V_aload_n dX11_init_41 rfl (
    R_new (k := k + 275) (n := n + 10736) (t := 4) (q := (RX4, TX4, 4)) (d := 16) rfl lc_11_33 ln_4 lini_4 df_4 dX11_init_42 hs (by decide +kernel) rfl rfl  (
    V_dup dX11_init_45 rfl (
    R_callIN (k := k + 273) (n := n + 10710) (b := 16) (k' := 2) (n' := 26) (L' := op4) [] [r_ (a + 16), r_ a] okX4_init rfl rfl lmn_11_35 liX4_init (Nat.le_of_ble_eq_true rfl) (Nat.le_of_ble_eq_true rfl) (Nat.le_of_ble_eq_true rfl) (cat_of rfl) (Nat.le_of_ble_eq_true rfl) rfl dX11_init_46 rfl rfl (fun _ h9 => ci_4 (k := 0) (n := 0) (rn_nxo hs (d := 16 + 1) (by decide +kernel)) (rn_k hs (b := 16) (by decide +kernel)) h9) (
    P_11_3 (R_kind hs hk _) lf_11_36 rfl rfl dX11_init_49 (R_ref (d := 16) (
    V_aload_n dX11_init_52 rfl (
    R_new (k := k + 272) (n := n + 10702) (t := 3) (q := (RX3, TX3, 8)) (d := 19) rfl lc_11_40 ln_3 lini_3 df_3 dX11_init_53 hs (by decide +kernel) rfl rfl  (
    V_dup dX11_init_56 rfl (
    R_callIN (k := k + 256) (n := n + 10606) (b := 19) (k' := 16) (n' := 96) (L' := op3) [] [r_ (a + 19), r_ a] okX3_init rfl rfl lmn_11_42 liX3_init (Nat.le_of_ble_eq_true rfl) (Nat.le_of_ble_eq_true rfl) (Nat.le_of_ble_eq_true rfl) (cat_of rfl) (Nat.le_of_ble_eq_true rfl) rfl dX11_init_57 rfl rfl (fun _ h9 => ci_3 (k := 0) (n := 0) (rn_nxo hs (d := 19 + 1) (by decide +kernel)) (rn_k hs (b := 19) (by decide +kernel)) h9) (
    P_11_4 (R_kind hs hk _) lf_11_43 rfl rfl dX11_init_60 (R_ref (d := 19) (
    V_aload_n dX11_init_63 rfl (
    R_new (k := k + 255) (n := n + 10604) (t := 7) (q := (RX7, TX7, 2)) (d := 36) rfl lc_11_47 ln_7 lini_7 df_7 dX11_init_64 hs (by decide +kernel) rfl rfl  (
    V_dup dX11_init_67 rfl (
    R_callIN (k := k + 254) (n := n + 10594) (b := 36) (k' := 1) (n' := 10) (L' := op7) [] [r_ (a + 36), r_ a] okX7_init rfl rfl lmn_11_49 liX7_init (Nat.le_of_ble_eq_true rfl) (Nat.le_of_ble_eq_true rfl) (Nat.le_of_ble_eq_true rfl) (cat_of rfl) (Nat.le_of_ble_eq_true rfl) rfl dX11_init_68 rfl rfl (fun _ h9 => ci_7 (k := 0) (n := 0) (rn_nxo hs (d := 36 + 1) (by decide +kernel)) (rn_k hs (b := 36) (by decide +kernel)) h9) (
    P_11_5 (R_kind hs hk _) lf_11_50 rfl rfl dX11_init_71 (R_ref (d := 36) (
    V_aload_n dX11_init_74 rfl (
    R_new (k := k + 253) (n := n + 10592) (t := 7) (q := (RX7, TX7, 2)) (d := 38) rfl lc_11_47 ln_7 lini_7 df_7 dX11_init_75 hs (by decide +kernel) rfl rfl  (
    V_dup dX11_init_78 rfl (
    R_callIN (k := k + 252) (n := n + 10582) (b := 38) (k' := 1) (n' := 10) (L' := op7) [] [r_ (a + 38), r_ a] okX7_init rfl rfl lmn_11_49 liX7_init (Nat.le_of_ble_eq_true rfl) (Nat.le_of_ble_eq_true rfl) (Nat.le_of_ble_eq_true rfl) (cat_of rfl) (Nat.le_of_ble_eq_true rfl) rfl dX11_init_79 rfl rfl (fun _ h9 => ci_7 (k := 0) (n := 0) (rn_nxo hs (d := 38 + 1) (by decide +kernel)) (rn_k hs (b := 38) (by decide +kernel)) h9) (
    P_11_6 (R_kind hs hk _) lf_11_54 rfl rfl dX11_init_82 (R_ref (d := 38) (
    V_aload_n dX11_init_85 rfl (
    R_new (k := k + 251) (n := n + 10565) (t := 2) (q := (RX2, TX2, 17)) (d := 40) rfl lc_11_57 ln_2 lini_2 df_2 dX11_init_86 hs (by decide +kernel) rfl rfl  (
    V_dup dX11_init_89 rfl (
    R_callIN (k := k + 236) (n := n + 10336) (b := 40) (k' := 15) (n' := 229) (L' := op2) [] [r_ (a + 40), r_ a] okX2_init rfl rfl lmn_11_59 liX2_init (Nat.le_of_ble_eq_true rfl) (Nat.le_of_ble_eq_true rfl) (Nat.le_of_ble_eq_true rfl) (cat_of rfl) (Nat.le_of_ble_eq_true rfl) rfl dX11_init_90 rfl rfl (fun _ h9 => ci_2 (k := 0) (n := 0) (rn_nxo hs (d := 40 + 1) (by decide +kernel)) (rn_k hs (b := 40) (by decide +kernel)) h9) (
    P_11_7 (R_kind hs hk _) lf_11_60 rfl rfl dX11_init_93 (R_ref (d := 40) (
    V_aload_n dX11_init_96 rfl (
    R_new (k := k + 235) (n := n + 10330) (t := 5) (q := (RX5, TX5, 6)) (d := 56) rfl lc_11_64 ln_5 lini_5 df_5 dX11_init_97 hs (by decide +kernel) rfl rfl  (
    V_dup dX11_init_100 rfl (
    R_callIN (k := k + 224) (n := n + 10260) (b := 56) (k' := 11) (n' := 70) (L' := op5) [] [r_ (a + 56), r_ a] okX5_init rfl rfl lmn_11_66 liX5_init (Nat.le_of_ble_eq_true rfl) (Nat.le_of_ble_eq_true rfl) (Nat.le_of_ble_eq_true rfl) (cat_of rfl) (Nat.le_of_ble_eq_true rfl) rfl dX11_init_101 rfl rfl (fun _ h9 => ci_5 (k := 0) (n := 0) (rn_nxo hs (d := 56 + 1) (by decide +kernel)) (rn_k hs (b := 56) (by decide +kernel)) h9) (
    P_11_8 (R_kind hs hk _) lf_11_67 rfl rfl dX11_init_104 (R_ref (d := 56) (
    V_aload_n dX11_init_107 rfl (
    R_new (k := k + 223) (n := n + 10248) (t := 9) (q := (RX9, TX9, 12)) (d := 68) rfl lc_11_71 ln_9 lini_9 df_9 dX11_init_108 hs (by decide +kernel) rfl rfl  (
    V_dup dX11_init_111 rfl (
    R_callIN (k := k + 176) (n := n + 6334) (b := 68) (k' := 47) (n' := 3914) (L' := op9) [] [r_ (a + 68), r_ a] okX9_init rfl rfl lmn_11_73 liX9_init (Nat.le_of_ble_eq_true rfl) (Nat.le_of_ble_eq_true rfl) (Nat.le_of_ble_eq_true rfl) (cat_of rfl) (Nat.le_of_ble_eq_true rfl) rfl dX11_init_112 rfl rfl (fun _ h9 => ci_9 (k := 0) (n := 0) (rn_nxo hs (d := 68 + 1) (by decide +kernel)) (rn_k hs (b := 68) (by decide +kernel)) h9) (
    P_11_9 (R_kind hs hk _) lf_11_74 rfl rfl dX11_init_115 (R_ref (d := 68) (
    V_aload_n dX11_init_118 rfl (
    R_new (k := k + 175) (n := n + 6317) (t := 1) (q := (RX1, TX1, 17)) (d := 116) rfl lc_11_78 ln_1 lini_1 df_1 dX11_init_119 hs (by decide +kernel) rfl rfl  (
    V_dup dX11_init_122 rfl (
    R_callIN (k := k + 63) (n := n + 1716) (b := 116) (k' := 112) (n' := 4601) (L' := op1) [] [r_ (a + 116), r_ a] okX1_init rfl rfl lmn_11_80 liX1_init (Nat.le_of_ble_eq_true rfl) (Nat.le_of_ble_eq_true rfl) (Nat.le_of_ble_eq_true rfl) (cat_of rfl) (Nat.le_of_ble_eq_true rfl) rfl dX11_init_123 rfl rfl (fun _ h9 => ci_1 (k := 0) (n := 0) (rn_nxo hs (d := 116 + 1) (by decide +kernel)) (rn_k hs (b := 116) (by decide +kernel)) h9) (
    P_11_10 (R_kind hs hk _) lf_11_81 rfl rfl dX11_init_126 (R_ref (d := 116) (
    V_aload_n dX11_init_129 rfl (
    R_new (k := k + 62) (n := n + 1698) (t := 0) (q := (RX0, TX0, 18)) (d := 229) rfl lc_11_85 ln_0 lini_0 df_0 dX11_init_130 hs (by decide +kernel) rfl rfl  (
    V_dup dX11_init_133 rfl (
    R_callIN (k := k + 10) (n := n + 52) (b := 229) (k' := 52) (n' := 1646) (L' := op0) [] [r_ (a + 229), r_ a] okX0_init rfl rfl lmn_11_87 liX0_init (Nat.le_of_ble_eq_true rfl) (Nat.le_of_ble_eq_true rfl) (Nat.le_of_ble_eq_true rfl) (cat_of rfl) (Nat.le_of_ble_eq_true rfl) rfl dX11_init_134 rfl rfl (fun _ h9 => ci_0 (k := 0) (n := 0) (rn_nxo hs (d := 229 + 1) (by decide +kernel)) (rn_k hs (b := 229) (by decide +kernel)) h9) (
    P_11_11 (R_kind hs hk _) lf_11_88 rfl rfl dX11_init_137 (R_ref (d := 229) (
    V_aload_n dX11_init_140 rfl (
    R_new (k := k + 9) (n := n + 50) (t := 6) (q := (RX6, TX6, 2)) (d := 282) rfl lc_11_92 ln_6 lini_6 df_6 dX11_init_141 hs (by decide +kernel) rfl rfl  (
    V_dup dX11_init_144 rfl (
    R_callIN (k := k + 5) (n := n + 26) (b := 282) (k' := 4) (n' := 24) (L' := op6) [] [r_ (a + 282), r_ a] okX6_init rfl rfl lmn_11_94 liX6_init (Nat.le_of_ble_eq_true rfl) (Nat.le_of_ble_eq_true rfl) (Nat.le_of_ble_eq_true rfl) (cat_of rfl) (Nat.le_of_ble_eq_true rfl) rfl dX11_init_145 rfl rfl (fun _ h9 => ci_6 (k := 0) (n := 0) (rn_nxo hs (d := 282 + 1) (by decide +kernel)) (rn_k hs (b := 282) (by decide +kernel)) h9) (
    P_11_12 (R_kind hs hk _) lf_11_95 rfl rfl dX11_init_148 (R_ref (d := 282) (
    V_aload_n dX11_init_151 rfl (
    R_new (k := k + 4) (n := n + 24) (t := 6) (q := (RX6, TX6, 2)) (d := 287) rfl lc_11_92 ln_6 lini_6 df_6 dX11_init_152 hs (by decide +kernel) rfl rfl  (
    V_dup dX11_init_155 rfl (
    R_callIN (k := k + 0) (n := n + 0) (b := 287) (k' := 4) (n' := 24) (L' := op6) [] [r_ (a + 287), r_ a] okX6_init rfl rfl lmn_11_94 liX6_init (Nat.le_of_ble_eq_true rfl) (Nat.le_of_ble_eq_true rfl) (Nat.le_of_ble_eq_true rfl) (cat_of rfl) (Nat.le_of_ble_eq_true rfl) rfl dX11_init_156 rfl rfl (fun _ h9 => ci_6 (k := 0) (n := 0) (rn_nxo hs (d := 287 + 1) (by decide +kernel)) (rn_k hs (b := 287) (by decide +kernel)) h9) (
    P_11_13 (R_kind hs hk _) lf_11_99 rfl rfl dX11_init_159 (R_ref (d := 287) (
    V_aload_n dX11_init_162 rfl (
    V_iconst dX11_init_163 (
    P_11_14 (R_kind hs hk _) lf_11_102 dX11_init_164 (R_put (
    V_aload_n dX11_init_167 rfl (
    V_iconst dX11_init_168 (
    P_11_15 (R_kind hs hk _) lf_11_106 dX11_init_169 (R_put (
    V_ret dX11_init_172 rfl h))))))))))))))))))))))))))))))))))))))))))))))))))))))))))))))))))))))))))))))))))))))))))))))))
def op12 : List Mo := (3, 1, 5, (-1)) :: (2, 0, 45, ((25 : Nat) : Int)) :: (0, 100, 32, 0) :: (2, 0, 43, ((24 : Nat) : Int)) :: (0, 100, 32, 0) :: (2, 0, 42, ((23 : Nat) : Int)) :: (0, 100, 32, 0) :: (2, 0, 38, ((22 : Nat) : Int)) :: (0, 100, 3072, 0) :: (2, 0, 37, ((21 : Nat) : Int)) :: (0, 100, 3072, 0) :: (2, 0, 34, ((20 : Nat) : Int)) :: (0, 100, 3000, 0) :: (2, 0, 33, ((19 : Nat) : Int)) :: (0, 100, 96, 0) :: (2, 0, 32, ((18 : Nat) : Int)) :: (0, 100, 96, 0) :: (2, 0, 31, ((17 : Nat) : Int)) :: (0, 100, 96, 0) :: (2, 0, 30, ((16 : Nat) : Int)) :: (0, 100, 96, 0) :: (2, 0, 29, ((15 : Nat) : Int)) :: (0, 100, 96, 0) :: (2, 0, 27, ((14 : Nat) : Int)) :: (0, 100, 96, 0) :: (2, 0, 25, ((13 : Nat) : Int)) :: (0, 100, 9600, 0) :: (2, 0, 22, ((12 : Nat) : Int)) :: (0, 100, 96, 0) :: (2, 0, 20, ((11 : Nat) : Int)) :: (0, 102, 13, 0) :: (2, 0, 19, ((10 : Nat) : Int)) :: (0, 100, 169, 0) :: (2, 0, 18, ((9 : Nat) : Int)) :: (0, 103, 13, 0) :: (2, 0, 17, ((8 : Nat) : Int)) :: (0, 103, 13, 0) :: (2, 0, 16, ((7 : Nat) : Int)) :: (0, 103, 13, 0) :: (2, 0, 14, ((6 : Nat) : Int)) :: (0, 100, 32, 0) :: (2, 0, 13, ((5 : Nat) : Int)) :: (0, 100, 32, 0) :: (2, 0, 10, ((4 : Nat) : Int)) :: (0, 100, 648, 0) :: (2, 0, 9, ((3 : Nat) : Int)) :: (0, 100, 26, 0) :: (2, 0, 1, ((2 : Nat) : Int)) :: (0, 102, 3, 0) :: (2, 0, 0, ((1 : Nat) : Int)) :: (0, 100, 2912, 0) :: []
theorem dX12_init_0 : decode cX12_init 0 = .ok (.aload_n 0, 1) := by decide +kernel
theorem dX12_init_1 : decode cX12_init 1 = .ok (.invokespecial 1, 3) := by decide +kernel
theorem dX12_init_4 : decode cX12_init 4 = .ok (.aload_n 0, 1) := by decide +kernel
theorem dX12_init_5 : decode cX12_init 5 = .ok (.sipush 2912, 3) := by decide +kernel
theorem dX12_init_8 : decode cX12_init 8 = .ok (.newarray .int, 2) := by decide +kernel
theorem dX12_init_10 : decode cX12_init 10 = .ok (.putfield 7, 3) := by decide +kernel
theorem dX12_init_13 : decode cX12_init 13 = .ok (.aload_n 0, 1) := by decide +kernel
theorem dX12_init_14 : decode cX12_init 14 = .ok (.iconst 3, 1) := by decide +kernel
theorem dX12_init_15 : decode cX12_init 15 = .ok (.newarray .boolean, 2) := by decide +kernel
theorem dX12_init_17 : decode cX12_init 17 = .ok (.putfield 13, 3) := by decide +kernel
theorem dX12_init_20 : decode cX12_init 20 = .ok (.aload_n 0, 1) := by decide +kernel
theorem dX12_init_21 : decode cX12_init 21 = .ok (.bipush 26, 2) := by decide +kernel
theorem dX12_init_23 : decode cX12_init 23 = .ok (.newarray .int, 2) := by decide +kernel
theorem dX12_init_25 : decode cX12_init 25 = .ok (.putfield 17, 3) := by decide +kernel
theorem dX12_init_28 : decode cX12_init 28 = .ok (.aload_n 0, 1) := by decide +kernel
theorem dX12_init_29 : decode cX12_init 29 = .ok (.sipush 648, 3) := by decide +kernel
theorem dX12_init_32 : decode cX12_init 32 = .ok (.newarray .int, 2) := by decide +kernel
theorem dX12_init_34 : decode cX12_init 34 = .ok (.putfield 20, 3) := by decide +kernel
theorem dX12_init_37 : decode cX12_init 37 = .ok (.aload_n 0, 1) := by decide +kernel
theorem dX12_init_38 : decode cX12_init 38 = .ok (.bipush 32, 2) := by decide +kernel
theorem dX12_init_40 : decode cX12_init 40 = .ok (.newarray .int, 2) := by decide +kernel
theorem dX12_init_42 : decode cX12_init 42 = .ok (.putfield 23, 3) := by decide +kernel
theorem dX12_init_45 : decode cX12_init 45 = .ok (.aload_n 0, 1) := by decide +kernel
theorem dX12_init_46 : decode cX12_init 46 = .ok (.bipush 32, 2) := by decide +kernel
theorem dX12_init_48 : decode cX12_init 48 = .ok (.newarray .int, 2) := by decide +kernel
theorem dX12_init_50 : decode cX12_init 50 = .ok (.putfield 26, 3) := by decide +kernel
theorem dX12_init_53 : decode cX12_init 53 = .ok (.aload_n 0, 1) := by decide +kernel
theorem dX12_init_54 : decode cX12_init 54 = .ok (.bipush 13, 2) := by decide +kernel
theorem dX12_init_56 : decode cX12_init 56 = .ok (.newarray .long, 2) := by decide +kernel
theorem dX12_init_58 : decode cX12_init 58 = .ok (.putfield 29, 3) := by decide +kernel
theorem dX12_init_61 : decode cX12_init 61 = .ok (.aload_n 0, 1) := by decide +kernel
theorem dX12_init_62 : decode cX12_init 62 = .ok (.bipush 13, 2) := by decide +kernel
theorem dX12_init_64 : decode cX12_init 64 = .ok (.newarray .long, 2) := by decide +kernel
theorem dX12_init_66 : decode cX12_init 66 = .ok (.putfield 33, 3) := by decide +kernel
theorem dX12_init_69 : decode cX12_init 69 = .ok (.aload_n 0, 1) := by decide +kernel
theorem dX12_init_70 : decode cX12_init 70 = .ok (.bipush 13, 2) := by decide +kernel
theorem dX12_init_72 : decode cX12_init 72 = .ok (.newarray .long, 2) := by decide +kernel
theorem dX12_init_74 : decode cX12_init 74 = .ok (.putfield 36, 3) := by decide +kernel
theorem dX12_init_77 : decode cX12_init 77 = .ok (.aload_n 0, 1) := by decide +kernel
theorem dX12_init_78 : decode cX12_init 78 = .ok (.sipush 169, 3) := by decide +kernel
theorem dX12_init_81 : decode cX12_init 81 = .ok (.newarray .int, 2) := by decide +kernel
theorem dX12_init_83 : decode cX12_init 83 = .ok (.putfield 39, 3) := by decide +kernel
theorem dX12_init_86 : decode cX12_init 86 = .ok (.aload_n 0, 1) := by decide +kernel
theorem dX12_init_87 : decode cX12_init 87 = .ok (.bipush 13, 2) := by decide +kernel
theorem dX12_init_89 : decode cX12_init 89 = .ok (.newarray .boolean, 2) := by decide +kernel
theorem dX12_init_91 : decode cX12_init 91 = .ok (.putfield 42, 3) := by decide +kernel
theorem dX12_init_94 : decode cX12_init 94 = .ok (.aload_n 0, 1) := by decide +kernel
theorem dX12_init_95 : decode cX12_init 95 = .ok (.bipush 96, 2) := by decide +kernel
theorem dX12_init_97 : decode cX12_init 97 = .ok (.newarray .int, 2) := by decide +kernel
theorem dX12_init_99 : decode cX12_init 99 = .ok (.putfield 45, 3) := by decide +kernel
theorem dX12_init_102 : decode cX12_init 102 = .ok (.aload_n 0, 1) := by decide +kernel
theorem dX12_init_103 : decode cX12_init 103 = .ok (.sipush 9600, 3) := by decide +kernel
theorem dX12_init_106 : decode cX12_init 106 = .ok (.newarray .int, 2) := by decide +kernel
theorem dX12_init_108 : decode cX12_init 108 = .ok (.putfield 48, 3) := by decide +kernel
theorem dX12_init_111 : decode cX12_init 111 = .ok (.aload_n 0, 1) := by decide +kernel
theorem dX12_init_112 : decode cX12_init 112 = .ok (.bipush 96, 2) := by decide +kernel
theorem dX12_init_114 : decode cX12_init 114 = .ok (.newarray .int, 2) := by decide +kernel
theorem dX12_init_116 : decode cX12_init 116 = .ok (.putfield 51, 3) := by decide +kernel
theorem dX12_init_119 : decode cX12_init 119 = .ok (.aload_n 0, 1) := by decide +kernel
theorem dX12_init_120 : decode cX12_init 120 = .ok (.bipush 96, 2) := by decide +kernel
theorem dX12_init_122 : decode cX12_init 122 = .ok (.newarray .int, 2) := by decide +kernel
theorem dX12_init_124 : decode cX12_init 124 = .ok (.putfield 54, 3) := by decide +kernel
theorem dX12_init_127 : decode cX12_init 127 = .ok (.aload_n 0, 1) := by decide +kernel
theorem dX12_init_128 : decode cX12_init 128 = .ok (.bipush 96, 2) := by decide +kernel
theorem dX12_init_130 : decode cX12_init 130 = .ok (.newarray .int, 2) := by decide +kernel
theorem dX12_init_132 : decode cX12_init 132 = .ok (.putfield 57, 3) := by decide +kernel
theorem dX12_init_135 : decode cX12_init 135 = .ok (.aload_n 0, 1) := by decide +kernel
theorem dX12_init_136 : decode cX12_init 136 = .ok (.bipush 96, 2) := by decide +kernel
theorem dX12_init_138 : decode cX12_init 138 = .ok (.newarray .int, 2) := by decide +kernel
theorem dX12_init_140 : decode cX12_init 140 = .ok (.putfield 60, 3) := by decide +kernel
theorem dX12_init_143 : decode cX12_init 143 = .ok (.aload_n 0, 1) := by decide +kernel
theorem dX12_init_144 : decode cX12_init 144 = .ok (.bipush 96, 2) := by decide +kernel
theorem dX12_init_146 : decode cX12_init 146 = .ok (.newarray .int, 2) := by decide +kernel
theorem dX12_init_148 : decode cX12_init 148 = .ok (.putfield 63, 3) := by decide +kernel
theorem dX12_init_151 : decode cX12_init 151 = .ok (.aload_n 0, 1) := by decide +kernel
theorem dX12_init_152 : decode cX12_init 152 = .ok (.bipush 96, 2) := by decide +kernel
theorem dX12_init_154 : decode cX12_init 154 = .ok (.newarray .int, 2) := by decide +kernel
theorem dX12_init_156 : decode cX12_init 156 = .ok (.putfield 66, 3) := by decide +kernel
theorem dX12_init_159 : decode cX12_init 159 = .ok (.aload_n 0, 1) := by decide +kernel
theorem dX12_init_160 : decode cX12_init 160 = .ok (.sipush 3000, 3) := by decide +kernel
theorem dX12_init_163 : decode cX12_init 163 = .ok (.newarray .int, 2) := by decide +kernel
theorem dX12_init_165 : decode cX12_init 165 = .ok (.putfield 69, 3) := by decide +kernel
theorem dX12_init_168 : decode cX12_init 168 = .ok (.aload_n 0, 1) := by decide +kernel
theorem dX12_init_169 : decode cX12_init 169 = .ok (.sipush 3072, 3) := by decide +kernel
theorem dX12_init_172 : decode cX12_init 172 = .ok (.newarray .int, 2) := by decide +kernel
theorem dX12_init_174 : decode cX12_init 174 = .ok (.putfield 72, 3) := by decide +kernel
theorem dX12_init_177 : decode cX12_init 177 = .ok (.aload_n 0, 1) := by decide +kernel
theorem dX12_init_178 : decode cX12_init 178 = .ok (.sipush 3072, 3) := by decide +kernel
theorem dX12_init_181 : decode cX12_init 181 = .ok (.newarray .int, 2) := by decide +kernel
theorem dX12_init_183 : decode cX12_init 183 = .ok (.putfield 75, 3) := by decide +kernel
theorem dX12_init_186 : decode cX12_init 186 = .ok (.aload_n 0, 1) := by decide +kernel
theorem dX12_init_187 : decode cX12_init 187 = .ok (.bipush 32, 2) := by decide +kernel
theorem dX12_init_189 : decode cX12_init 189 = .ok (.newarray .int, 2) := by decide +kernel
theorem dX12_init_191 : decode cX12_init 191 = .ok (.putfield 78, 3) := by decide +kernel
theorem dX12_init_194 : decode cX12_init 194 = .ok (.aload_n 0, 1) := by decide +kernel
theorem dX12_init_195 : decode cX12_init 195 = .ok (.bipush 32, 2) := by decide +kernel
theorem dX12_init_197 : decode cX12_init 197 = .ok (.newarray .int, 2) := by decide +kernel
theorem dX12_init_199 : decode cX12_init 199 = .ok (.putfield 81, 3) := by decide +kernel
theorem dX12_init_202 : decode cX12_init 202 = .ok (.aload_n 0, 1) := by decide +kernel
theorem dX12_init_203 : decode cX12_init 203 = .ok (.bipush 32, 2) := by decide +kernel
theorem dX12_init_205 : decode cX12_init 205 = .ok (.newarray .int, 2) := by decide +kernel
theorem dX12_init_207 : decode cX12_init 207 = .ok (.putfield 84, 3) := by decide +kernel
theorem dX12_init_210 : decode cX12_init 210 = .ok (.aload_n 0, 1) := by decide +kernel
theorem dX12_init_211 : decode cX12_init 211 = .ok (.getfield 7, 3) := by decide +kernel
theorem dX12_init_214 : decode cX12_init 214 = .ok (.iconst 5, 1) := by decide +kernel
theorem dX12_init_215 : decode cX12_init 215 = .ok (.iconst (-1), 1) := by decide +kernel
theorem dX12_init_216 : decode cX12_init 216 = .ok (.iastore, 1) := by decide +kernel
theorem dX12_init_217 : decode cX12_init 217 = .ok (.return_, 1) := by decide +kernel
theorem df_12 : ∀ j, j < 46 → defaultValue (fty 12 j) = vl (fty 12 j) 0 none := fun j _ => by
  show defaultValue (tyX12 j) = vl (tyX12 j) 0 none
  unfold tyX12
  split <;> rfl
set_option maxRecDepth 20000 in
theorem ci_12 {k n a : Nat} {s : Wx × Zt} {Q : Option Value → Wx → Zt → Prop} (hs : s.1.2.2.1 = a + 1) (hk : s.1.1 a = some (12, 0)) (h : Q none (rn a op12 s).1 (rn a op12 s).2) : V mX12_init (k + 25) (n + 23386) 0 [some (r_ a)] [] s.1 s.2 Q :=
  show V mX12_init (k + 25) (n + 23386) 0 [some (r_ a)] [] (rn a [] s).1 (rn a [] s).2 Q from
  V_aload_n dX12_init_0 rfl (
    V_objI lm_12_1 lobj lobjc (Nat.le_of_ble_eq_true rfl) (Nat.le_of_ble_eq_true rfl) dX12_init_1 (
    V_aload_n dX12_init_4 rfl (
    V_sipush dX12_init_5 rfl (
    R_arr (k := k + 24) (n := n + 20474) (t := 100) (at_ := .int) (N := 2912) (d := 1) (by decide) rfl (fun _ _ h9 => va_nm_int h9) rfl (Nat.le_of_ble_eq_true rfl) rfl (by decide) la_int dX12_init_8 hs (by decide +kernel) rfl rfl  (
    P_12_0 (R_kind hs hk _) lf_12_7 rfl rfl dX12_init_10 (R_ref (d := 1) (
    V_aload_n dX12_init_13 rfl (
    V_iconst dX12_init_14 (
    R_arr (k := k + 23) (n := n + 20471) (t := 102) (at_ := .boolean) (N := 3) (d := 2) (by decide) rfl (fun _ _ h9 => va_nm_boolean h9) rfl (Nat.le_of_ble_eq_true rfl) rfl (by decide) la_boolean dX12_init_15 hs (by decide +kernel) rfl rfl  (
    P_12_1 (R_kind hs hk _) lf_12_13 rfl rfl dX12_init_17 (R_ref (d := 2) (
    V_aload_n dX12_init_20 rfl (
    V_bipush dX12_init_21 rfl (
    R_arr (k := k + 22) (n := n + 20445) (t := 100) (at_ := .int) (N := 26) (d := 3) (by decide) rfl (fun _ _ h9 => va_nm_int h9) rfl (Nat.le_of_ble_eq_true rfl) rfl (by decide) la_int dX12_init_23 hs (by decide +kernel) rfl rfl  (
    P_12_9 (R_kind hs hk _) lf_12_17 rfl rfl dX12_init_25 (R_ref (d := 3) (
    V_aload_n dX12_init_28 rfl (
    V_sipush dX12_init_29 rfl (
    R_arr (k := k + 21) (n := n + 19797) (t := 100) (at_ := .int) (N := 648) (d := 4) (by decide) rfl (fun _ _ h9 => va_nm_int h9) rfl (Nat.le_of_ble_eq_true rfl) rfl (by decide) la_int dX12_init_32 hs (by decide +kernel) rfl rfl  (
    P_12_10 (R_kind hs hk _) lf_12_20 rfl rfl dX12_init_34 (R_ref (d := 4) (
    V_aload_n dX12_init_37 rfl (
    V_bipush dX12_init_38 rfl (
    R_arr (k := k + 20) (n := n + 19765) (t := 100) (at_ := .int) (N := 32) (d := 5) (by decide) rfl (fun _ _ h9 => va_nm_int h9) rfl (Nat.le_of_ble_eq_true rfl) rfl (by decide) la_int dX12_init_40 hs (by decide +kernel) rfl rfl  (
    P_12_13 (R_kind hs hk _) lf_12_23 rfl rfl dX12_init_42 (R_ref (d := 5) (
    V_aload_n dX12_init_45 rfl (
    V_bipush dX12_init_46 rfl (
    R_arr (k := k + 19) (n := n + 19733) (t := 100) (at_ := .int) (N := 32) (d := 6) (by decide) rfl (fun _ _ h9 => va_nm_int h9) rfl (Nat.le_of_ble_eq_true rfl) rfl (by decide) la_int dX12_init_48 hs (by decide +kernel) rfl rfl  (
    P_12_14 (R_kind hs hk _) lf_12_26 rfl rfl dX12_init_50 (R_ref (d := 6) (
    V_aload_n dX12_init_53 rfl (
    V_bipush dX12_init_54 rfl (
    R_arr (k := k + 18) (n := n + 19720) (t := 103) (at_ := .long) (N := 13) (d := 7) (by decide) rfl (fun _ _ h9 => va_nm_long h9) rfl (Nat.le_of_ble_eq_true rfl) rfl (by decide) la_long dX12_init_56 hs (by decide +kernel) rfl rfl  (
    P_12_16 (R_kind hs hk _) lf_12_29 rfl rfl dX12_init_58 (R_ref (d := 7) (
    V_aload_n dX12_init_61 rfl (
    V_bipush dX12_init_62 rfl (
    R_arr (k := k + 17) (n := n + 19707) (t := 103) (at_ := .long) (N := 13) (d := 8) (by decide) rfl (fun _ _ h9 => va_nm_long h9) rfl (Nat.le_of_ble_eq_true rfl) rfl (by decide) la_long dX12_init_64 hs (by decide +kernel) rfl rfl  (
    P_12_17 (R_kind hs hk _) lf_12_33 rfl rfl dX12_init_66 (R_ref (d := 8) (
    V_aload_n dX12_init_69 rfl (
    V_bipush dX12_init_70 rfl (
    R_arr (k := k + 16) (n := n + 19694) (t := 103) (at_ := .long) (N := 13) (d := 9) (by decide) rfl (fun _ _ h9 => va_nm_long h9) rfl (Nat.le_of_ble_eq_true rfl) rfl (by decide) la_long dX12_init_72 hs (by decide +kernel) rfl rfl  (
    P_12_18 (R_kind hs hk _) lf_12_36 rfl rfl dX12_init_74 (R_ref (d := 9) (
    V_aload_n dX12_init_77 rfl (
    V_sipush dX12_init_78 rfl (
    R_arr (k := k + 15) (n := n + 19525) (t := 100) (at_ := .int) (N := 169) (d := 10) (by decide) rfl (fun _ _ h9 => va_nm_int h9) rfl (Nat.le_of_ble_eq_true rfl) rfl (by decide) la_int dX12_init_81 hs (by decide +kernel) rfl rfl  (
    P_12_19 (R_kind hs hk _) lf_12_39 rfl rfl dX12_init_83 (R_ref (d := 10) (
    V_aload_n dX12_init_86 rfl (
    V_bipush dX12_init_87 rfl (
    R_arr (k := k + 14) (n := n + 19512) (t := 102) (at_ := .boolean) (N := 13) (d := 11) (by decide) rfl (fun _ _ h9 => va_nm_boolean h9) rfl (Nat.le_of_ble_eq_true rfl) rfl (by decide) la_boolean dX12_init_89 hs (by decide +kernel) rfl rfl  (
    P_12_20 (R_kind hs hk _) lf_12_42 rfl rfl dX12_init_91 (R_ref (d := 11) (
    V_aload_n dX12_init_94 rfl (
    V_bipush dX12_init_95 rfl (
    R_arr (k := k + 13) (n := n + 19416) (t := 100) (at_ := .int) (N := 96) (d := 12) (by decide) rfl (fun _ _ h9 => va_nm_int h9) rfl (Nat.le_of_ble_eq_true rfl) rfl (by decide) la_int dX12_init_97 hs (by decide +kernel) rfl rfl  (
    P_12_22 (R_kind hs hk _) lf_12_45 rfl rfl dX12_init_99 (R_ref (d := 12) (
    V_aload_n dX12_init_102 rfl (
    V_sipush dX12_init_103 rfl (
    R_arr (k := k + 12) (n := n + 9816) (t := 100) (at_ := .int) (N := 9600) (d := 13) (by decide) rfl (fun _ _ h9 => va_nm_int h9) rfl (Nat.le_of_ble_eq_true rfl) rfl (by decide) la_int dX12_init_106 hs (by decide +kernel) rfl rfl  (
    P_12_25 (R_kind hs hk _) lf_12_48 rfl rfl dX12_init_108 (R_ref (d := 13) (
    V_aload_n dX12_init_111 rfl (
    V_bipush dX12_init_112 rfl (
    R_arr (k := k + 11) (n := n + 9720) (t := 100) (at_ := .int) (N := 96) (d := 14) (by decide) rfl (fun _ _ h9 => va_nm_int h9) rfl (Nat.le_of_ble_eq_true rfl) rfl (by decide) la_int dX12_init_114 hs (by decide +kernel) rfl rfl  (
    P_12_27 (R_kind hs hk _) lf_12_51 rfl rfl dX12_init_116 (R_ref (d := 14) (
    V_aload_n dX12_init_119 rfl (
    V_bipush dX12_init_120 rfl (
    R_arr (k := k + 10) (n := n + 9624) (t := 100) (at_ := .int) (N := 96) (d := 15) (by decide) rfl (fun _ _ h9 => va_nm_int h9) rfl (Nat.le_of_ble_eq_true rfl) rfl (by decide) la_int dX12_init_122 hs (by decide +kernel) rfl rfl  (
    P_12_29 (R_kind hs hk _) lf_12_54 rfl rfl dX12_init_124 (R_ref (d := 15) (
    V_aload_n dX12_init_127 rfl (
    V_bipush dX12_init_128 rfl (
    R_arr (k := k + 9) (n := n + 9528) (t := 100) (at_ := .int) (N := 96) (d := 16) (by decide) rfl (fun _ _ h9 => va_nm_int h9) rfl (Nat.le_of_ble_eq_true rfl) rfl (by decide) la_int dX12_init_130 hs (by decide +kernel) rfl rfl  (
    P_12_30 (R_kind hs hk _) lf_12_57 rfl rfl dX12_init_132 (R_ref (d := 16) (
    V_aload_n dX12_init_135 rfl (
    V_bipush dX12_init_136 rfl (
    R_arr (k := k + 8) (n := n + 9432) (t := 100) (at_ := .int) (N := 96) (d := 17) (by decide) rfl (fun _ _ h9 => va_nm_int h9) rfl (Nat.le_of_ble_eq_true rfl) rfl (by decide) la_int dX12_init_138 hs (by decide +kernel) rfl rfl  (
    P_12_31 (R_kind hs hk _) lf_12_60 rfl rfl dX12_init_140 (R_ref (d := 17) (
    V_aload_n dX12_init_143 rfl (
    V_bipush dX12_init_144 rfl (
    R_arr (k := k + 7) (n := n + 9336) (t := 100) (at_ := .int) (N := 96) (d := 18) (by decide) rfl (fun _ _ h9 => va_nm_int h9) rfl (Nat.le_of_ble_eq_true rfl) rfl (by decide) la_int dX12_init_146 hs (by decide +kernel) rfl rfl  (
    P_12_32 (R_kind hs hk _) lf_12_63 rfl rfl dX12_init_148 (R_ref (d := 18) (
    V_aload_n dX12_init_151 rfl (
    V_bipush dX12_init_152 rfl (
    R_arr (k := k + 6) (n := n + 9240) (t := 100) (at_ := .int) (N := 96) (d := 19) (by decide) rfl (fun _ _ h9 => va_nm_int h9) rfl (Nat.le_of_ble_eq_true rfl) rfl (by decide) la_int dX12_init_154 hs (by decide +kernel) rfl rfl  (
    P_12_33 (R_kind hs hk _) lf_12_66 rfl rfl dX12_init_156 (R_ref (d := 19) (
    V_aload_n dX12_init_159 rfl (
    V_sipush dX12_init_160 rfl (
    R_arr (k := k + 5) (n := n + 6240) (t := 100) (at_ := .int) (N := 3000) (d := 20) (by decide) rfl (fun _ _ h9 => va_nm_int h9) rfl (Nat.le_of_ble_eq_true rfl) rfl (by decide) la_int dX12_init_163 hs (by decide +kernel) rfl rfl  (
    P_12_34 (R_kind hs hk _) lf_12_69 rfl rfl dX12_init_165 (R_ref (d := 20) (
    V_aload_n dX12_init_168 rfl (
    V_sipush dX12_init_169 rfl (
    R_arr (k := k + 4) (n := n + 3168) (t := 100) (at_ := .int) (N := 3072) (d := 21) (by decide) rfl (fun _ _ h9 => va_nm_int h9) rfl (Nat.le_of_ble_eq_true rfl) rfl (by decide) la_int dX12_init_172 hs (by decide +kernel) rfl rfl  (
    P_12_37 (R_kind hs hk _) lf_12_72 rfl rfl dX12_init_174 (R_ref (d := 21) (
    V_aload_n dX12_init_177 rfl (
    V_sipush dX12_init_178 rfl (
    R_arr (k := k + 3) (n := n + 96) (t := 100) (at_ := .int) (N := 3072) (d := 22) (by decide) rfl (fun _ _ h9 => va_nm_int h9) rfl (Nat.le_of_ble_eq_true rfl) rfl (by decide) la_int dX12_init_181 hs (by decide +kernel) rfl rfl  (
    P_12_38 (R_kind hs hk _) lf_12_75 rfl rfl dX12_init_183 (R_ref (d := 22) (
    V_aload_n dX12_init_186 rfl (
    V_bipush dX12_init_187 rfl (
    R_arr (k := k + 2) (n := n + 64) (t := 100) (at_ := .int) (N := 32) (d := 23) (by decide) rfl (fun _ _ h9 => va_nm_int h9) rfl (Nat.le_of_ble_eq_true rfl) rfl (by decide) la_int dX12_init_189 hs (by decide +kernel) rfl rfl  (
    P_12_42 (R_kind hs hk _) lf_12_78 rfl rfl dX12_init_191 (R_ref (d := 23) (
    V_aload_n dX12_init_194 rfl (
    V_bipush dX12_init_195 rfl (
    R_arr (k := k + 1) (n := n + 32) (t := 100) (at_ := .int) (N := 32) (d := 24) (by decide) rfl (fun _ _ h9 => va_nm_int h9) rfl (Nat.le_of_ble_eq_true rfl) rfl (by decide) la_int dX12_init_197 hs (by decide +kernel) rfl rfl  (
    P_12_43 (R_kind hs hk _) lf_12_81 rfl rfl dX12_init_199 (R_ref (d := 24) (
    V_aload_n dX12_init_202 rfl (
    V_bipush dX12_init_203 rfl (
    R_arr (k := k + 0) (n := n + 0) (t := 100) (at_ := .int) (N := 32) (d := 25) (by decide) rfl (fun _ _ h9 => va_nm_int h9) rfl (Nat.le_of_ble_eq_true rfl) rfl (by decide) la_int dX12_init_205 hs (by decide +kernel) rfl rfl  (
    P_12_45 (R_kind hs hk _) lf_12_84 rfl rfl dX12_init_207 (R_ref (d := 25) (
    V_aload_n dX12_init_210 rfl (
    G_12_0 (b := a + 1) (R_kind hs hk _) (rn_r hs (b := 0) (d := 1) (by decide +kernel)) lf_12_7 dX12_init_211 (
    V_iconst dX12_init_214 (
    V_iconst dX12_init_215 (
    V_iast (t := 100) (rn_k hs (b := 1) (q := (100, 2912)) (by decide +kernel)) (by decide) (by decide) rfl (by decide) (by decide) (Nat.le_of_ble_eq_true rfl) dX12_init_216 (R_putc (c := 1) (
    V_ret dX12_init_217 rfl h)))))))))))))))))))))))))))))))))))))))))))))))))))))))))))))))))))))))))))))))))))))))))))))))))))))))))))))))))))))))))))))))))))))
