/-! ===== the constructors ===== -/
def op7 : List Mo := (2, 0, 1, ((1 : Nat) : Int)) :: (0, 100, 10, 0) :: (3, 0, 0, (-1)) :: []
theorem dX7_init_0 : decode cX7_init 0 = .ok (.aload_n 0, 1) := by decide +kernel
theorem dX7_init_1 : decode cX7_init 1 = .ok (.invokespecial 3, 3) := by decide +kernel
theorem dX7_init_4 : decode cX7_init 4 = .ok (.aload_n 0, 1) := by decide +kernel
theorem dX7_init_5 : decode cX7_init 5 = .ok (.iconst (-1), 1) := by decide +kernel
theorem dX7_init_6 : decode cX7_init 6 = .ok (.putfield 9, 3) := by decide +kernel
theorem dX7_init_9 : decode cX7_init 9 = .ok (.aload_n 0, 1) := by decide +kernel
theorem dX7_init_10 : decode cX7_init 10 = .ok (.bipush 10, 2) := by decide +kernel
theorem dX7_init_12 : decode cX7_init 12 = .ok (.newarray .int, 2) := by decide +kernel
theorem dX7_init_14 : decode cX7_init 14 = .ok (.putfield 15, 3) := by decide +kernel
theorem dX7_init_17 : decode cX7_init 17 = .ok (.return_, 1) := by decide +kernel
theorem df_7 : ∀ j, j < 2 → defaultValue (fty 7 j) = vl (fty 7 j) 0 none := fun j _ => by
  show defaultValue (tyX7 j) = vl (tyX7 j) 0 none
  unfold tyX7
  split <;> rfl
set_option maxRecDepth 20000 in
theorem ci_7 {k n a : Nat} {s : Wx × Zt} {Q : Option Value → Wx → Zt → Prop} (hs : s.1.2.2.1 = a + 1) (hk : s.1.1 a = some (7, 0)) (h : Q none (rn a op7 s).1 (rn a op7 s).2) : V mX7_init (k + 1) (n + 10) 0 [some (r_ a)] [] s.1 s.2 Q :=
  show V mX7_init (k + 1) (n + 10) 0 [some (r_ a)] [] (rn a [] s).1 (rn a [] s).2 Q from
  V_aload_n dX7_init_0 rfl (
    V_objI lm_7_3 lobj lobjc (Nat.le_of_ble_eq_true rfl) (Nat.le_of_ble_eq_true rfl) dX7_init_1 (
    V_aload_n dX7_init_4 rfl (
    V_iconst dX7_init_5 (
    P_7_0 (R_kind hs hk _) lf_7_9 dX7_init_6 (R_put (
    V_aload_n dX7_init_9 rfl (
    V_bipush dX7_init_10 rfl (
    R_arr (k := k + 0) (n := n + 0) (t := 100) (at_ := .int) (N := 10) (d := 1) (by decide) rfl (fun _ _ h9 => va_nm_int h9) rfl (Nat.le_of_ble_eq_true rfl) rfl (by decide) la_int dX7_init_12 hs (by decide +kernel) rfl rfl  (
    P_7_1 (R_kind hs hk _) lf_7_15 rfl rfl dX7_init_14 (R_ref (d := 1) (
    V_ret dX7_init_17 rfl h)))))))))))
def op10 : List Mo := (2, 0, 5, ((3 : Nat) : Int)) :: (1, 8, 26, 0) :: (2, 0, 4, ((2 : Nat) : Int)) :: (0, 100, 3, 0) :: (3, 0, 3, (-1)) :: (2, 0, 0, ((1 : Nat) : Int)) :: (0, 101, 600, 0) :: []
theorem dX10_init_0 : decode cX10_init 0 = .ok (.aload_n 0, 1) := by decide +kernel
theorem dX10_init_1 : decode cX10_init 1 = .ok (.invokespecial 3, 3) := by decide +kernel
theorem dX10_init_4 : decode cX10_init 4 = .ok (.aload_n 0, 1) := by decide +kernel
theorem dX10_init_5 : decode cX10_init 5 = .ok (.sipush 600, 3) := by decide +kernel
theorem dX10_init_8 : decode cX10_init 8 = .ok (.newarray .byte, 2) := by decide +kernel
theorem dX10_init_10 : decode cX10_init 10 = .ok (.putfield 9, 3) := by decide +kernel
theorem dX10_init_13 : decode cX10_init 13 = .ok (.aload_n 0, 1) := by decide +kernel
theorem dX10_init_14 : decode cX10_init 14 = .ok (.iconst (-1), 1) := by decide +kernel
theorem dX10_init_15 : decode cX10_init 15 = .ok (.putfield 15, 3) := by decide +kernel
theorem dX10_init_18 : decode cX10_init 18 = .ok (.aload_n 0, 1) := by decide +kernel
theorem dX10_init_19 : decode cX10_init 19 = .ok (.iconst 3, 1) := by decide +kernel
theorem dX10_init_20 : decode cX10_init 20 = .ok (.newarray .int, 2) := by decide +kernel
theorem dX10_init_22 : decode cX10_init 22 = .ok (.putfield 19, 3) := by decide +kernel
theorem dX10_init_25 : decode cX10_init 25 = .ok (.aload_n 0, 1) := by decide +kernel
theorem dX10_init_26 : decode cX10_init 26 = .ok (.bipush 8, 2) := by decide +kernel
theorem dX10_init_28 : decode cX10_init 28 = .ok (.bipush 26, 2) := by decide +kernel
theorem dX10_init_30 : decode cX10_init 30 = .ok (.multianewarray 23 2, 4) := by decide +kernel
theorem dX10_init_34 : decode cX10_init 34 = .ok (.putfield 25, 3) := by decide +kernel
theorem dX10_init_37 : decode cX10_init 37 = .ok (.return_, 1) := by decide +kernel
theorem df_10 : ∀ j, j < 6 → defaultValue (fty 10 j) = vl (fty 10 j) 0 none := fun j _ => by
  show defaultValue (tyX10 j) = vl (tyX10 j) 0 none
  unfold tyX10
  split <;> rfl
set_option maxRecDepth 20000 in
theorem ci_10 {k n a : Nat} {s : Wx × Zt} {Q : Option Value → Wx → Zt → Prop} (hs : s.1.2.2.1 = a + 1) (hk : s.1.1 a = some (10, 0)) (h : Q none (rn a op10 s).1 (rn a op10 s).2) : V mX10_init (k + 11) (n + 819) 0 [some (r_ a)] [] s.1 s.2 Q :=
  show V mX10_init (k + 11) (n + 819) 0 [some (r_ a)] [] (rn a [] s).1 (rn a [] s).2 Q from
  V_aload_n dX10_init_0 rfl (
    V_objI lm_10_3 lobj lobjc (Nat.le_of_ble_eq_true rfl) (Nat.le_of_ble_eq_true rfl) dX10_init_1 (
    V_aload_n dX10_init_4 rfl (
    V_sipush dX10_init_5 rfl (
    R_arr (k := k + 10) (n := n + 219) (t := 101) (at_ := .byte) (N := 600) (d := 1) (by decide) rfl (fun _ _ h9 => va_nm_byte h9) rfl (Nat.le_of_ble_eq_true rfl) rfl (by decide) la_byte dX10_init_8 hs (by decide +kernel) rfl rfl  (
    P_10_0 (R_kind hs hk _) lf_10_9 rfl rfl dX10_init_10 (R_ref (d := 1) (
    V_aload_n dX10_init_13 rfl (
    V_iconst dX10_init_14 (
    P_10_3 (R_kind hs hk _) lf_10_15 dX10_init_15 (R_put (
    V_aload_n dX10_init_18 rfl (
    V_iconst dX10_init_19 (
    R_arr (k := k + 9) (n := n + 216) (t := 100) (at_ := .int) (N := 3) (d := 2) (by decide) rfl (fun _ _ h9 => va_nm_int h9) rfl (Nat.le_of_ble_eq_true rfl) rfl (by decide) la_int dX10_init_20 hs (by decide +kernel) rfl rfl  (
    P_10_4 (R_kind hs hk _) lf_10_19 rfl rfl dX10_init_22 (R_ref (d := 2) (
    V_aload_n dX10_init_25 rfl (
    V_bipush dX10_init_26 rfl (
    V_bipush dX10_init_28 rfl (
    R_mna (k := k + 0) (n := n + 0) (N := 8) (K := 26) (d := 3) rfl rfl (Nat.le_of_ble_eq_true rfl) (Nat.le_of_ble_eq_true rfl) lc_10_23 dX10_init_30 hs (by decide +kernel) rfl rfl  (
    P_10_5 (R_kind hs hk _) lf_10_25 rfl rfl dX10_init_34 (R_ref (d := 3) (
    V_ret dX10_init_37 rfl h))))))))))))))))))))))
def op8 : List Mo := (2, 0, 0, ((1 : Nat) : Int)) :: (0, 100, 26, 0) :: []
theorem dX8_init_0 : decode cX8_init 0 = .ok (.aload_n 0, 1) := by decide +kernel
theorem dX8_init_1 : decode cX8_init 1 = .ok (.invokespecial 3, 3) := by decide +kernel
theorem dX8_init_4 : decode cX8_init 4 = .ok (.aload_n 0, 1) := by decide +kernel
theorem dX8_init_5 : decode cX8_init 5 = .ok (.bipush 26, 2) := by decide +kernel
theorem dX8_init_7 : decode cX8_init 7 = .ok (.newarray .int, 2) := by decide +kernel
theorem dX8_init_9 : decode cX8_init 9 = .ok (.putfield 9, 3) := by decide +kernel
theorem dX8_init_12 : decode cX8_init 12 = .ok (.aload_n 0, 1) := by decide +kernel
theorem dX8_init_13 : decode cX8_init 13 = .ok (.aload_n 1, 1) := by decide +kernel
theorem dX8_init_14 : decode cX8_init 14 = .ok (.putfield 15, 3) := by decide +kernel
theorem dX8_init_17 : decode cX8_init 17 = .ok (.return_, 1) := by decide +kernel
theorem df_8 : ∀ j, j < 8 → defaultValue (fty 8 j) = vl (fty 8 j) 0 none := fun j _ => by
  show defaultValue (tyX8 j) = vl (tyX8 j) 0 none
  unfold tyX8
  split <;> rfl
theorem ci_8 {k n a tp : Nat} {s : Wx × Zt} {Q : Option Value → Wx → Zt → Prop} (hs : s.1.2.2.1 = a + 1) (hk : s.1.1 a = some (8, 0)) (h : Q none ((rn a op8 s).1.1, upR (rn a op8 s).1.2.1 a 3 (some tp), (rn a op8 s).1.2.2) (rn a op8 s).2) : V mX8_init (k + 1) (n + 26) 0 [some (r_ a), some (r_ tp)] [] s.1 s.2 Q :=
  show V mX8_init (k + 1) (n + 26) 0 [some (r_ a), some (r_ tp)] [] (rn a [] s).1 (rn a [] s).2 Q from
  V_aload_n dX8_init_0 rfl (
    V_objI lm_8_3 lobj lobjc (Nat.le_of_ble_eq_true rfl) (Nat.le_of_ble_eq_true rfl) dX8_init_1 (
    V_aload_n dX8_init_4 rfl (
    V_bipush dX8_init_5 rfl (
    R_arr (k := k + 0) (n := n + 0) (t := 100) (at_ := .int) (N := 26) (d := 1) (by decide) rfl (fun _ _ h9 => va_nm_int h9) rfl (Nat.le_of_ble_eq_true rfl) rfl (by decide) la_int dX8_init_7 hs (by decide +kernel) rfl rfl  (
    P_8_0 (R_kind hs hk _) lf_8_9 rfl rfl dX8_init_9 (R_ref (d := 1) (
    V_aload_n dX8_init_12 rfl (
    V_aload_n dX8_init_13 rfl (
    P_8_3 (R_kind hs hk _) lf_8_15 rfl rfl dX8_init_14 (
    V_ret dX8_init_17 rfl h))))))))))
theorem R_callI8 {y : MD} {k n k0 n0 pc : Nat} {lv : List (Option Value)} {st : List Value} {a b c : Nat} {s : Wx × Zt} {L : List Mo} {Q : Option Value → Wx → Zt → Prop} {idx : Nat} (rest : List Value) (hM : MOk mX8_init 1) (hname : yX8_init.name = "<init>") (hrt : mX8_init.2.2.2.1 = none) (hlk : Cond.methodLink y.1.cls idx yX8_init ∈ lw_tbl) (hin : Cond.instanceMethod yX8_init ∈ lw_tbl)
    (hfr : mX8_init.2.2.2.2.1 + 1 ≤ y.2.2.2.2.1) (hlo : 8 + (mX8_init.2.2.1 + 11) + mX8_init.2.2.2.2.2 ≤ y.2.2.2.2.2) (hrest : (rest.map fun v => v.category).sum ≤ 8) (hcat : ∀ v ∈ (r_ (a + b) :: [r_ (a + c)]), v.category = 1) (hlen : (r_ (a + b) :: [r_ (a + c)]).length ≤ mX8_init.2.2.1) (hst : st = [r_ (a + c)].reverse ++ r_ (a + b) :: rest) (hd : decode y.2.1 pc = .ok (.invokespecial idx, 3)) (ek : k0 = k + 1) (en : n0 = n + 26)
    (sp : ∀ Q' : Option Value → Wx → Zt → Prop, Q' none ((rn (a + b) op8 (rn a L s)).1.1, upR (rn (a + b) op8 (rn a L s)).1.2.1 (a + b) 3 (some (a + c)), (rn (a + b) op8 (rn a L s)).1.2.2) (rn (a + b) op8 (rn a L s)).2 → V mX8_init 1 26 0 (ent 2 (r_ (a + b) :: [r_ (a + c)])) [] (rn a L s).1 (rn a L s).2 Q')
    (kk : V y k n (pc + 3) lv rest (rn a ((2, b, 3, (c : Int)) :: (shf b op8 ++ L)) s).1 (rn a ((2, b, 3, (c : Int)) :: (shf b op8 ++ L)) s).2 Q) : V y k0 n0 pc lv st (rn a L s).1 (rn a L s).2 Q := by
  subst ek en
  refine V_callI (k' := 1) (n' := 26) [r_ (a + c)] rest hM hname hrt hlk hin hfr hlo hrest hcat hlen (by omega) (by omega) hst hd (sp _ ?_)
  have e : rn a ((2, b, 3, (c : Int)) :: (shf b op8 ++ L)) s = stp a (2, b, 3, (c : Int)) (rn (a + b) op8 (rn a L s)) := by show stp a _ (rn a (shf b op8 ++ L) s) = _; rw [rn_app, rn_shf]
  rw [e] at kk
  rw [Nat.add_sub_cancel, Nat.add_sub_cancel]
  exact kk
def op4 : List Mo := (2, 0, 3, ((2 : Nat) : Int)) :: (0, 102, 13, 0) :: (2, 0, 2, ((1 : Nat) : Int)) :: (0, 100, 13, 0) :: (3, 0, 1, 3) :: (3, 0, 0, 7) :: []
theorem dX4_init_0 : decode cX4_init 0 = .ok (.aload_n 0, 1) := by decide +kernel
theorem dX4_init_1 : decode cX4_init 1 = .ok (.invokespecial 3, 3) := by decide +kernel
theorem dX4_init_4 : decode cX4_init 4 = .ok (.aload_n 0, 1) := by decide +kernel
theorem dX4_init_5 : decode cX4_init 5 = .ok (.bipush 7, 2) := by decide +kernel
theorem dX4_init_7 : decode cX4_init 7 = .ok (.putfield 9, 3) := by decide +kernel
theorem dX4_init_10 : decode cX4_init 10 = .ok (.aload_n 0, 1) := by decide +kernel
theorem dX4_init_11 : decode cX4_init 11 = .ok (.iconst 3, 1) := by decide +kernel
theorem dX4_init_12 : decode cX4_init 12 = .ok (.putfield 15, 3) := by decide +kernel
theorem dX4_init_15 : decode cX4_init 15 = .ok (.aload_n 0, 1) := by decide +kernel
theorem dX4_init_16 : decode cX4_init 16 = .ok (.bipush 13, 2) := by decide +kernel
theorem dX4_init_18 : decode cX4_init 18 = .ok (.newarray .int, 2) := by decide +kernel
theorem dX4_init_20 : decode cX4_init 20 = .ok (.putfield 18, 3) := by decide +kernel
theorem dX4_init_23 : decode cX4_init 23 = .ok (.aload_n 0, 1) := by decide +kernel
theorem dX4_init_24 : decode cX4_init 24 = .ok (.bipush 13, 2) := by decide +kernel
theorem dX4_init_26 : decode cX4_init 26 = .ok (.newarray .boolean, 2) := by decide +kernel
theorem dX4_init_28 : decode cX4_init 28 = .ok (.putfield 22, 3) := by decide +kernel
theorem dX4_init_31 : decode cX4_init 31 = .ok (.return_, 1) := by decide +kernel
theorem df_4 : ∀ j, j < 4 → defaultValue (fty 4 j) = vl (fty 4 j) 0 none := fun j _ => by
  show defaultValue (tyX4 j) = vl (tyX4 j) 0 none
  unfold tyX4
  split <;> rfl
set_option maxRecDepth 20000 in
theorem ci_4 {k n a : Nat} {s : Wx × Zt} {Q : Option Value → Wx → Zt → Prop} (hs : s.1.2.2.1 = a + 1) (hk : s.1.1 a = some (4, 0)) (h : Q none (rn a op4 s).1 (rn a op4 s).2) : V mX4_init (k + 2) (n + 26) 0 [some (r_ a)] [] s.1 s.2 Q :=
  show V mX4_init (k + 2) (n + 26) 0 [some (r_ a)] [] (rn a [] s).1 (rn a [] s).2 Q from
  V_aload_n dX4_init_0 rfl (
    V_objI lm_4_3 lobj lobjc (Nat.le_of_ble_eq_true rfl) (Nat.le_of_ble_eq_true rfl) dX4_init_1 (
    V_aload_n dX4_init_4 rfl (
    V_bipush dX4_init_5 rfl (
    P_4_0 (R_kind hs hk _) lf_4_9 dX4_init_7 (R_put (
    V_aload_n dX4_init_10 rfl (
    V_iconst dX4_init_11 (
    P_4_1 (R_kind hs hk _) lf_4_15 dX4_init_12 (R_put (
    V_aload_n dX4_init_15 rfl (
    V_bipush dX4_init_16 rfl (
    R_arr (k := k + 1) (n := n + 13) (t := 100) (at_ := .int) (N := 13) (d := 1) (by decide) rfl (fun _ _ h9 => va_nm_int h9) rfl (Nat.le_of_ble_eq_true rfl) rfl (by decide) la_int dX4_init_18 hs (by decide +kernel) rfl rfl  (
    P_4_2 (R_kind hs hk _) lf_4_18 rfl rfl dX4_init_20 (R_ref (d := 1) (
    V_aload_n dX4_init_23 rfl (
    V_bipush dX4_init_24 rfl (
    R_arr (k := k + 0) (n := n + 0) (t := 102) (at_ := .boolean) (N := 13) (d := 2) (by decide) rfl (fun _ _ h9 => va_nm_boolean h9) rfl (Nat.le_of_ble_eq_true rfl) rfl (by decide) la_boolean dX4_init_26 hs (by decide +kernel) rfl rfl  (
    P_4_3 (R_kind hs hk _) lf_4_22 rfl rfl dX4_init_28 (R_ref (d := 2) (
    V_ret dX4_init_31 rfl h))))))))))))))))))))
def op3 : List Mo := (2, 0, 7, ((15 : Nat) : Int)) :: shf 15 op7 ++ ((0, 7, 0, 0) :: (2, 0, 6, ((13 : Nat) : Int)) :: shf 13 op7 ++ ((0, 7, 0, 0) :: (2, 0, 5, ((11 : Nat) : Int)) :: shf 11 op7 ++ ((0, 7, 0, 0) :: (2, 0, 4, ((9 : Nat) : Int)) :: shf 9 op7 ++ ((0, 7, 0, 0) :: (2, 0, 3, ((7 : Nat) : Int)) :: shf 7 op7 ++ ((0, 7, 0, 0) :: (2, 0, 2, ((5 : Nat) : Int)) :: shf 5 op7 ++ ((0, 7, 0, 0) :: (2, 0, 1, ((3 : Nat) : Int)) :: shf 3 op7 ++ ((0, 7, 0, 0) :: (2, 0, 0, ((1 : Nat) : Int)) :: shf 1 op7 ++ ((0, 7, 0, 0) :: []))))))))
theorem dX3_init_0 : decode cX3_init 0 = .ok (.aload_n 0, 1) := by decide +kernel
theorem dX3_init_1 : decode cX3_init 1 = .ok (.invokespecial 1, 3) := by decide +kernel
theorem dX3_init_4 : decode cX3_init 4 = .ok (.aload_n 0, 1) := by decide +kernel
theorem dX3_init_5 : decode cX3_init 5 = .ok (.new 7, 3) := by decide +kernel
theorem dX3_init_8 : decode cX3_init 8 = .ok (.dup, 1) := by decide +kernel
theorem dX3_init_9 : decode cX3_init 9 = .ok (.invokespecial 9, 3) := by decide +kernel
theorem dX3_init_12 : decode cX3_init 12 = .ok (.putfield 10, 3) := by decide +kernel
theorem dX3_init_15 : decode cX3_init 15 = .ok (.aload_n 0, 1) := by decide +kernel
theorem dX3_init_16 : decode cX3_init 16 = .ok (.new 7, 3) := by decide +kernel
theorem dX3_init_19 : decode cX3_init 19 = .ok (.dup, 1) := by decide +kernel
theorem dX3_init_20 : decode cX3_init 20 = .ok (.invokespecial 9, 3) := by decide +kernel
theorem dX3_init_23 : decode cX3_init 23 = .ok (.putfield 16, 3) := by decide +kernel
theorem dX3_init_26 : decode cX3_init 26 = .ok (.aload_n 0, 1) := by decide +kernel
theorem dX3_init_27 : decode cX3_init 27 = .ok (.new 7, 3) := by decide +kernel
theorem dX3_init_30 : decode cX3_init 30 = .ok (.dup, 1) := by decide +kernel
theorem dX3_init_31 : decode cX3_init 31 = .ok (.invokespecial 9, 3) := by decide +kernel
theorem dX3_init_34 : decode cX3_init 34 = .ok (.putfield 19, 3) := by decide +kernel
theorem dX3_init_37 : decode cX3_init 37 = .ok (.aload_n 0, 1) := by decide +kernel
theorem dX3_init_38 : decode cX3_init 38 = .ok (.new 7, 3) := by decide +kernel
theorem dX3_init_41 : decode cX3_init 41 = .ok (.dup, 1) := by decide +kernel
theorem dX3_init_42 : decode cX3_init 42 = .ok (.invokespecial 9, 3) := by decide +kernel
theorem dX3_init_45 : decode cX3_init 45 = .ok (.putfield 22, 3) := by decide +kernel
theorem dX3_init_48 : decode cX3_init 48 = .ok (.aload_n 0, 1) := by decide +kernel
theorem dX3_init_49 : decode cX3_init 49 = .ok (.new 7, 3) := by decide +kernel
theorem dX3_init_52 : decode cX3_init 52 = .ok (.dup, 1) := by decide +kernel
theorem dX3_init_53 : decode cX3_init 53 = .ok (.invokespecial 9, 3) := by decide +kernel
theorem dX3_init_56 : decode cX3_init 56 = .ok (.putfield 25, 3) := by decide +kernel
theorem dX3_init_59 : decode cX3_init 59 = .ok (.aload_n 0, 1) := by decide +kernel
theorem dX3_init_60 : decode cX3_init 60 = .ok (.new 7, 3) := by decide +kernel
theorem dX3_init_63 : decode cX3_init 63 = .ok (.dup, 1) := by decide +kernel
theorem dX3_init_64 : decode cX3_init 64 = .ok (.invokespecial 9, 3) := by decide +kernel
theorem dX3_init_67 : decode cX3_init 67 = .ok (.putfield 28, 3) := by decide +kernel
theorem dX3_init_70 : decode cX3_init 70 = .ok (.aload_n 0, 1) := by decide +kernel
theorem dX3_init_71 : decode cX3_init 71 = .ok (.new 7, 3) := by decide +kernel
theorem dX3_init_74 : decode cX3_init 74 = .ok (.dup, 1) := by decide +kernel
theorem dX3_init_75 : decode cX3_init 75 = .ok (.invokespecial 9, 3) := by decide +kernel
theorem dX3_init_78 : decode cX3_init 78 = .ok (.putfield 31, 3) := by decide +kernel
theorem dX3_init_81 : decode cX3_init 81 = .ok (.aload_n 0, 1) := by decide +kernel
theorem dX3_init_82 : decode cX3_init 82 = .ok (.new 7, 3) := by decide +kernel
theorem dX3_init_85 : decode cX3_init 85 = .ok (.dup, 1) := by decide +kernel
theorem dX3_init_86 : decode cX3_init 86 = .ok (.invokespecial 9, 3) := by decide +kernel
theorem dX3_init_89 : decode cX3_init 89 = .ok (.putfield 34, 3) := by decide +kernel
theorem dX3_init_92 : decode cX3_init 92 = .ok (.return_, 1) := by decide +kernel
theorem df_3 : ∀ j, j < 8 → defaultValue (fty 3 j) = vl (fty 3 j) 0 none := fun j _ => by
  show defaultValue (tyX3 j) = vl (tyX3 j) 0 none
  unfold tyX3
  split <;> rfl
set_option maxRecDepth 20000 in
theorem ci_3 {k n a : Nat} {s : Wx × Zt} {Q : Option Value → Wx → Zt → Prop} (hs : s.1.2.2.1 = a + 1) (hk : s.1.1 a = some (3, 0)) (h : Q none (rn a op3 s).1 (rn a op3 s).2) : V mX3_init (k + 16) (n + 96) 0 [some (r_ a)] [] s.1 s.2 Q :=
  show V mX3_init (k + 16) (n + 96) 0 [some (r_ a)] [] (rn a [] s).1 (rn a [] s).2 Q from
  V_aload_n dX3_init_0 rfl (
    V_objI lm_3_1 lobj lobjc (Nat.le_of_ble_eq_true rfl) (Nat.le_of_ble_eq_true rfl) dX3_init_1 (
    V_aload_n dX3_init_4 rfl (
    R_new (k := k + 15) (n := n + 94) (t := 7) (q := (RX7, TX7, 2)) (d := 1) rfl lc_3_7 ln_7 lini_7 df_7 dX3_init_5 hs (by decide +kernel) rfl rfl  (
    V_dup dX3_init_8 rfl (
    R_callIN (k := k + 14) (n := n + 84) (b := 1) (k' := 1) (n' := 10) (L' := op7) [] [r_ (a + 1), r_ a] okX7_init rfl rfl lmn_3_9 liX7_init (Nat.le_of_ble_eq_true rfl) (Nat.le_of_ble_eq_true rfl) (Nat.le_of_ble_eq_true rfl) (cat_of rfl) (Nat.le_of_ble_eq_true rfl) rfl dX3_init_9 rfl rfl (fun _ h9 => ci_7 (k := 0) (n := 0) (rn_nxo hs (d := 1 + 1) (by decide +kernel)) (rn_k hs (b := 1) (by decide +kernel)) h9) (
    P_3_0 (R_kind hs hk _) lf_3_10 rfl rfl dX3_init_12 (R_ref (d := 1) (
    V_aload_n dX3_init_15 rfl (
    R_new (k := k + 13) (n := n + 82) (t := 7) (q := (RX7, TX7, 2)) (d := 3) rfl lc_3_7 ln_7 lini_7 df_7 dX3_init_16 hs (by decide +kernel) rfl rfl  (
    V_dup dX3_init_19 rfl (
    R_callIN (k := k + 12) (n := n + 72) (b := 3) (k' := 1) (n' := 10) (L' := op7) [] [r_ (a + 3), r_ a] okX7_init rfl rfl lmn_3_9 liX7_init (Nat.le_of_ble_eq_true rfl) (Nat.le_of_ble_eq_true rfl) (Nat.le_of_ble_eq_true rfl) (cat_of rfl) (Nat.le_of_ble_eq_true rfl) rfl dX3_init_20 rfl rfl (fun _ h9 => ci_7 (k := 0) (n := 0) (rn_nxo hs (d := 3 + 1) (by decide +kernel)) (rn_k hs (b := 3) (by decide +kernel)) h9) (
    P_3_1 (R_kind hs hk _) lf_3_16 rfl rfl dX3_init_23 (R_ref (d := 3) (
    V_aload_n dX3_init_26 rfl (
    R_new (k := k + 11) (n := n + 70) (t := 7) (q := (RX7, TX7, 2)) (d := 5) rfl lc_3_7 ln_7 lini_7 df_7 dX3_init_27 hs (by decide +kernel) rfl rfl  (
    V_dup dX3_init_30 rfl (
    R_callIN (k := k + 10) (n := n + 60) (b := 5) (k' := 1) (n' := 10) (L' := op7) [] [r_ (a + 5), r_ a] okX7_init rfl rfl lmn_3_9 liX7_init (Nat.le_of_ble_eq_true rfl) (Nat.le_of_ble_eq_true rfl) (Nat.le_of_ble_eq_true rfl) (cat_of rfl) (Nat.le_of_ble_eq_true rfl) rfl dX3_init_31 rfl rfl (fun _ h9 => ci_7 (k := 0) (n := 0) (rn_nxo hs (d := 5 + 1) (by decide +kernel)) (rn_k hs (b := 5) (by decide +kernel)) h9) (
    P_3_2 (R_kind hs hk _) lf_3_19 rfl rfl dX3_init_34 (R_ref (d := 5) (
    V_aload_n dX3_init_37 rfl (
    R_new (k := k + 9) (n := n + 58) (t := 7) (q := (RX7, TX7, 2)) (d := 7) rfl lc_3_7 ln_7 lini_7 df_7 dX3_init_38 hs (by decide +kernel) rfl rfl  (
    V_dup dX3_init_41 rfl (
    R_callIN (k := k + 8) (n := n + 48) (b := 7) (k' := 1) (n' := 10) (L' := op7) [] [r_ (a + 7), r_ a] okX7_init rfl rfl lmn_3_9 liX7_init (Nat.le_of_ble_eq_true rfl) (Nat.le_of_ble_eq_true rfl) (Nat.le_of_ble_eq_true rfl) (cat_of rfl) (Nat.le_of_ble_eq_true rfl) rfl dX3_init_42 rfl rfl (fun _ h9 => ci_7 (k := 0) (n := 0) (rn_nxo hs (d := 7 + 1) (by decide +kernel)) (rn_k hs (b := 7) (by decide +kernel)) h9) (
    P_3_3 (R_kind hs hk _) lf_3_22 rfl rfl dX3_init_45 (R_ref (d := 7) (
    V_aload_n dX3_init_48 rfl (
    R_new (k := k + 7) (n := n + 46) (t := 7) (q := (RX7, TX7, 2)) (d := 9) rfl lc_3_7 ln_7 lini_7 df_7 dX3_init_49 hs (by decide +kernel) rfl rfl  (
    V_dup dX3_init_52 rfl (
    R_callIN (k := k + 6) (n := n + 36) (b := 9) (k' := 1) (n' := 10) (L' := op7) [] [r_ (a + 9), r_ a] okX7_init rfl rfl lmn_3_9 liX7_init (Nat.le_of_ble_eq_true rfl) (Nat.le_of_ble_eq_true rfl) (Nat.le_of_ble_eq_true rfl) (cat_of rfl) (Nat.le_of_ble_eq_true rfl) rfl dX3_init_53 rfl rfl (fun _ h9 => ci_7 (k := 0) (n := 0) (rn_nxo hs (d := 9 + 1) (by decide +kernel)) (rn_k hs (b := 9) (by decide +kernel)) h9) (
    P_3_4 (R_kind hs hk _) lf_3_25 rfl rfl dX3_init_56 (R_ref (d := 9) (
    V_aload_n dX3_init_59 rfl (
    R_new (k := k + 5) (n := n + 34) (t := 7) (q := (RX7, TX7, 2)) (d := 11) rfl lc_3_7 ln_7 lini_7 df_7 dX3_init_60 hs (by decide +kernel) rfl rfl  (
    V_dup dX3_init_63 rfl (
    R_callIN (k := k + 4) (n := n + 24) (b := 11) (k' := 1) (n' := 10) (L' := op7) [] [r_ (a + 11), r_ a] okX7_init rfl rfl lmn_3_9 liX7_init (Nat.le_of_ble_eq_true rfl) (Nat.le_of_ble_eq_true rfl) (Nat.le_of_ble_eq_true rfl) (cat_of rfl) (Nat.le_of_ble_eq_true rfl) rfl dX3_init_64 rfl rfl (fun _ h9 => ci_7 (k := 0) (n := 0) (rn_nxo hs (d := 11 + 1) (by decide +kernel)) (rn_k hs (b := 11) (by decide +kernel)) h9) (
    P_3_5 (R_kind hs hk _) lf_3_28 rfl rfl dX3_init_67 (R_ref (d := 11) (
    V_aload_n dX3_init_70 rfl (
    R_new (k := k + 3) (n := n + 22) (t := 7) (q := (RX7, TX7, 2)) (d := 13) rfl lc_3_7 ln_7 lini_7 df_7 dX3_init_71 hs (by decide +kernel) rfl rfl  (
    V_dup dX3_init_74 rfl (
    R_callIN (k := k + 2) (n := n + 12) (b := 13) (k' := 1) (n' := 10) (L' := op7) [] [r_ (a + 13), r_ a] okX7_init rfl rfl lmn_3_9 liX7_init (Nat.le_of_ble_eq_true rfl) (Nat.le_of_ble_eq_true rfl) (Nat.le_of_ble_eq_true rfl) (cat_of rfl) (Nat.le_of_ble_eq_true rfl) rfl dX3_init_75 rfl rfl (fun _ h9 => ci_7 (k := 0) (n := 0) (rn_nxo hs (d := 13 + 1) (by decide +kernel)) (rn_k hs (b := 13) (by decide +kernel)) h9) (
    P_3_6 (R_kind hs hk _) lf_3_31 rfl rfl dX3_init_78 (R_ref (d := 13) (
    V_aload_n dX3_init_81 rfl (
    R_new (k := k + 1) (n := n + 10) (t := 7) (q := (RX7, TX7, 2)) (d := 15) rfl lc_3_7 ln_7 lini_7 df_7 dX3_init_82 hs (by decide +kernel) rfl rfl  (
    V_dup dX3_init_85 rfl (
    R_callIN (k := k + 0) (n := n + 0) (b := 15) (k' := 1) (n' := 10) (L' := op7) [] [r_ (a + 15), r_ a] okX7_init rfl rfl lmn_3_9 liX7_init (Nat.le_of_ble_eq_true rfl) (Nat.le_of_ble_eq_true rfl) (Nat.le_of_ble_eq_true rfl) (cat_of rfl) (Nat.le_of_ble_eq_true rfl) rfl dX3_init_86 rfl rfl (fun _ h9 => ci_7 (k := 0) (n := 0) (rn_nxo hs (d := 15 + 1) (by decide +kernel)) (rn_k hs (b := 15) (by decide +kernel)) h9) (
    P_3_7 (R_kind hs hk _) lf_3_34 rfl rfl dX3_init_89 (R_ref (d := 15) (
    V_ret dX3_init_92 rfl h))))))))))))))))))))))))))))))))))))))))))))))))))
def op6 : List Mo := (2, 0, 1, ((3 : Nat) : Int)) :: shf 3 op7 ++ ((0, 7, 0, 0) :: (2, 0, 0, ((1 : Nat) : Int)) :: shf 1 op7 ++ ((0, 7, 0, 0) :: []))
theorem dX6_init_0 : decode cX6_init 0 = .ok (.aload_n 0, 1) := by decide +kernel
theorem dX6_init_1 : decode cX6_init 1 = .ok (.invokespecial 1, 3) := by decide +kernel
theorem dX6_init_4 : decode cX6_init 4 = .ok (.aload_n 0, 1) := by decide +kernel
theorem dX6_init_5 : decode cX6_init 5 = .ok (.new 7, 3) := by decide +kernel
theorem dX6_init_8 : decode cX6_init 8 = .ok (.dup, 1) := by decide +kernel
theorem dX6_init_9 : decode cX6_init 9 = .ok (.invokespecial 9, 3) := by decide +kernel
theorem dX6_init_12 : decode cX6_init 12 = .ok (.putfield 10, 3) := by decide +kernel
theorem dX6_init_15 : decode cX6_init 15 = .ok (.aload_n 0, 1) := by decide +kernel
theorem dX6_init_16 : decode cX6_init 16 = .ok (.new 7, 3) := by decide +kernel
theorem dX6_init_19 : decode cX6_init 19 = .ok (.dup, 1) := by decide +kernel
theorem dX6_init_20 : decode cX6_init 20 = .ok (.invokespecial 9, 3) := by decide +kernel
theorem dX6_init_23 : decode cX6_init 23 = .ok (.putfield 16, 3) := by decide +kernel
theorem dX6_init_26 : decode cX6_init 26 = .ok (.return_, 1) := by decide +kernel
theorem df_6 : ∀ j, j < 2 → defaultValue (fty 6 j) = vl (fty 6 j) 0 none := fun j _ => by
  show defaultValue (tyX6 j) = vl (tyX6 j) 0 none
  unfold tyX6
  split <;> rfl
set_option maxRecDepth 20000 in
theorem ci_6 {k n a : Nat} {s : Wx × Zt} {Q : Option Value → Wx → Zt → Prop} (hs : s.1.2.2.1 = a + 1) (hk : s.1.1 a = some (6, 0)) (h : Q none (rn a op6 s).1 (rn a op6 s).2) : V mX6_init (k + 4) (n + 24) 0 [some (r_ a)] [] s.1 s.2 Q :=
  show V mX6_init (k + 4) (n + 24) 0 [some (r_ a)] [] (rn a [] s).1 (rn a [] s).2 Q from
  V_aload_n dX6_init_0 rfl (
    V_objI lm_6_1 lobj lobjc (Nat.le_of_ble_eq_true rfl) (Nat.le_of_ble_eq_true rfl) dX6_init_1 (
    V_aload_n dX6_init_4 rfl (
    R_new (k := k + 3) (n := n + 22) (t := 7) (q := (RX7, TX7, 2)) (d := 1) rfl lc_6_7 ln_7 lini_7 df_7 dX6_init_5 hs (by decide +kernel) rfl rfl  (
    V_dup dX6_init_8 rfl (
    R_callIN (k := k + 2) (n := n + 12) (b := 1) (k' := 1) (n' := 10) (L' := op7) [] [r_ (a + 1), r_ a] okX7_init rfl rfl lmn_6_9 liX7_init (Nat.le_of_ble_eq_true rfl) (Nat.le_of_ble_eq_true rfl) (Nat.le_of_ble_eq_true rfl) (cat_of rfl) (Nat.le_of_ble_eq_true rfl) rfl dX6_init_9 rfl rfl (fun _ h9 => ci_7 (k := 0) (n := 0) (rn_nxo hs (d := 1 + 1) (by decide +kernel)) (rn_k hs (b := 1) (by decide +kernel)) h9) (
    P_6_0 (R_kind hs hk _) lf_6_10 rfl rfl dX6_init_12 (R_ref (d := 1) (
    V_aload_n dX6_init_15 rfl (
    R_new (k := k + 1) (n := n + 10) (t := 7) (q := (RX7, TX7, 2)) (d := 3) rfl lc_6_7 ln_7 lini_7 df_7 dX6_init_16 hs (by decide +kernel) rfl rfl  (
    V_dup dX6_init_19 rfl (
    R_callIN (k := k + 0) (n := n + 0) (b := 3) (k' := 1) (n' := 10) (L' := op7) [] [r_ (a + 3), r_ a] okX7_init rfl rfl lmn_6_9 liX7_init (Nat.le_of_ble_eq_true rfl) (Nat.le_of_ble_eq_true rfl) (Nat.le_of_ble_eq_true rfl) (cat_of rfl) (Nat.le_of_ble_eq_true rfl) rfl dX6_init_20 rfl rfl (fun _ h9 => ci_7 (k := 0) (n := 0) (rn_nxo hs (d := 3 + 1) (by decide +kernel)) (rn_k hs (b := 3) (by decide +kernel)) h9) (
    P_6_1 (R_kind hs hk _) lf_6_16 rfl rfl dX6_init_23 (R_ref (d := 3) (
    V_ret dX6_init_26 rfl h))))))))))))))
def op5 : List Mo := (2, 0, 5, ((11 : Nat) : Int)) :: (0, 100, 10, 0) :: (2, 0, 4, ((9 : Nat) : Int)) :: shf 9 op7 ++ ((0, 7, 0, 0) :: (2, 0, 3, ((7 : Nat) : Int)) :: shf 7 op7 ++ ((0, 7, 0, 0) :: (2, 0, 2, ((5 : Nat) : Int)) :: shf 5 op7 ++ ((0, 7, 0, 0) :: (2, 0, 1, ((3 : Nat) : Int)) :: shf 3 op7 ++ ((0, 7, 0, 0) :: (2, 0, 0, ((1 : Nat) : Int)) :: shf 1 op7 ++ ((0, 7, 0, 0) :: [])))))
theorem dX5_init_0 : decode cX5_init 0 = .ok (.aload_n 0, 1) := by decide +kernel
theorem dX5_init_1 : decode cX5_init 1 = .ok (.invokespecial 3, 3) := by decide +kernel
theorem dX5_init_4 : decode cX5_init 4 = .ok (.aload_n 0, 1) := by decide +kernel
theorem dX5_init_5 : decode cX5_init 5 = .ok (.new 9, 3) := by decide +kernel
theorem dX5_init_8 : decode cX5_init 8 = .ok (.dup, 1) := by decide +kernel
theorem dX5_init_9 : decode cX5_init 9 = .ok (.invokespecial 11, 3) := by decide +kernel
theorem dX5_init_12 : decode cX5_init 12 = .ok (.putfield 12, 3) := by decide +kernel
theorem dX5_init_15 : decode cX5_init 15 = .ok (.aload_n 0, 1) := by decide +kernel
theorem dX5_init_16 : decode cX5_init 16 = .ok (.new 9, 3) := by decide +kernel
theorem dX5_init_19 : decode cX5_init 19 = .ok (.dup, 1) := by decide +kernel
theorem dX5_init_20 : decode cX5_init 20 = .ok (.invokespecial 11, 3) := by decide +kernel
theorem dX5_init_23 : decode cX5_init 23 = .ok (.putfield 18, 3) := by decide +kernel
theorem dX5_init_26 : decode cX5_init 26 = .ok (.aload_n 0, 1) := by decide +kernel
theorem dX5_init_27 : decode cX5_init 27 = .ok (.new 9, 3) := by decide +kernel
theorem dX5_init_30 : decode cX5_init 30 = .ok (.dup, 1) := by decide +kernel
theorem dX5_init_31 : decode cX5_init 31 = .ok (.invokespecial 11, 3) := by decide +kernel
theorem dX5_init_34 : decode cX5_init 34 = .ok (.putfield 21, 3) := by decide +kernel
theorem dX5_init_37 : decode cX5_init 37 = .ok (.aload_n 0, 1) := by decide +kernel
theorem dX5_init_38 : decode cX5_init 38 = .ok (.new 9, 3) := by decide +kernel
theorem dX5_init_41 : decode cX5_init 41 = .ok (.dup, 1) := by decide +kernel
theorem dX5_init_42 : decode cX5_init 42 = .ok (.invokespecial 11, 3) := by decide +kernel
theorem dX5_init_45 : decode cX5_init 45 = .ok (.putfield 24, 3) := by decide +kernel
theorem dX5_init_48 : decode cX5_init 48 = .ok (.aload_n 0, 1) := by decide +kernel
theorem dX5_init_49 : decode cX5_init 49 = .ok (.new 9, 3) := by decide +kernel
theorem dX5_init_52 : decode cX5_init 52 = .ok (.dup, 1) := by decide +kernel
theorem dX5_init_53 : decode cX5_init 53 = .ok (.invokespecial 11, 3) := by decide +kernel
theorem dX5_init_56 : decode cX5_init 56 = .ok (.putfield 27, 3) := by decide +kernel
theorem dX5_init_59 : decode cX5_init 59 = .ok (.aload_n 0, 1) := by decide +kernel
theorem dX5_init_60 : decode cX5_init 60 = .ok (.bipush 10, 2) := by decide +kernel
theorem dX5_init_62 : decode cX5_init 62 = .ok (.newarray .int, 2) := by decide +kernel
theorem dX5_init_64 : decode cX5_init 64 = .ok (.putfield 30, 3) := by decide +kernel
theorem dX5_init_67 : decode cX5_init 67 = .ok (.return_, 1) := by decide +kernel
theorem df_5 : ∀ j, j < 6 → defaultValue (fty 5 j) = vl (fty 5 j) 0 none := fun j _ => by
  show defaultValue (tyX5 j) = vl (tyX5 j) 0 none
  unfold tyX5
  split <;> rfl
set_option maxRecDepth 20000 in
theorem ci_5 {k n a : Nat} {s : Wx × Zt} {Q : Option Value → Wx → Zt → Prop} (hs : s.1.2.2.1 = a + 1) (hk : s.1.1 a = some (5, 0)) (h : Q none (rn a op5 s).1 (rn a op5 s).2) : V mX5_init (k + 11) (n + 70) 0 [some (r_ a)] [] s.1 s.2 Q :=
  show V mX5_init (k + 11) (n + 70) 0 [some (r_ a)] [] (rn a [] s).1 (rn a [] s).2 Q from
  V_aload_n dX5_init_0 rfl (
    V_objI lm_5_3 lobj lobjc (Nat.le_of_ble_eq_true rfl) (Nat.le_of_ble_eq_true rfl) dX5_init_1 (
    V_aload_n dX5_init_4 rfl (
    R_new (k := k + 10) (n := n + 68) (t := 7) (q := (RX7, TX7, 2)) (d := 1) rfl lc_5_9 ln_7 lini_7 df_7 dX5_init_5 hs (by decide +kernel) rfl rfl  (
    V_dup dX5_init_8 rfl (
    R_callIN (k := k + 9) (n := n + 58) (b := 1) (k' := 1) (n' := 10) (L' := op7) [] [r_ (a + 1), r_ a] okX7_init rfl rfl lmn_5_11 liX7_init (Nat.le_of_ble_eq_true rfl) (Nat.le_of_ble_eq_true rfl) (Nat.le_of_ble_eq_true rfl) (cat_of rfl) (Nat.le_of_ble_eq_true rfl) rfl dX5_init_9 rfl rfl (fun _ h9 => ci_7 (k := 0) (n := 0) (rn_nxo hs (d := 1 + 1) (by decide +kernel)) (rn_k hs (b := 1) (by decide +kernel)) h9) (
    P_5_0 (R_kind hs hk _) lf_5_12 rfl rfl dX5_init_12 (R_ref (d := 1) (
    V_aload_n dX5_init_15 rfl (
    R_new (k := k + 8) (n := n + 56) (t := 7) (q := (RX7, TX7, 2)) (d := 3) rfl lc_5_9 ln_7 lini_7 df_7 dX5_init_16 hs (by decide +kernel) rfl rfl  (
    V_dup dX5_init_19 rfl (
    R_callIN (k := k + 7) (n := n + 46) (b := 3) (k' := 1) (n' := 10) (L' := op7) [] [r_ (a + 3), r_ a] okX7_init rfl rfl lmn_5_11 liX7_init (Nat.le_of_ble_eq_true rfl) (Nat.le_of_ble_eq_true rfl) (Nat.le_of_ble_eq_true rfl) (cat_of rfl) (Nat.le_of_ble_eq_true rfl) rfl dX5_init_20 rfl rfl (fun _ h9 => ci_7 (k := 0) (n := 0) (rn_nxo hs (d := 3 + 1) (by decide +kernel)) (rn_k hs (b := 3) (by decide +kernel)) h9) (
    P_5_1 (R_kind hs hk _) lf_5_18 rfl rfl dX5_init_23 (R_ref (d := 3) (
    V_aload_n dX5_init_26 rfl (
    R_new (k := k + 6) (n := n + 44) (t := 7) (q := (RX7, TX7, 2)) (d := 5) rfl lc_5_9 ln_7 lini_7 df_7 dX5_init_27 hs (by decide +kernel) rfl rfl  (
    V_dup dX5_init_30 rfl (
    R_callIN (k := k + 5) (n := n + 34) (b := 5) (k' := 1) (n' := 10) (L' := op7) [] [r_ (a + 5), r_ a] okX7_init rfl rfl lmn_5_11 liX7_init (Nat.le_of_ble_eq_true rfl) (Nat.le_of_ble_eq_true rfl) (Nat.le_of_ble_eq_true rfl) (cat_of rfl) (Nat.le_of_ble_eq_true rfl) rfl dX5_init_31 rfl rfl (fun _ h9 => ci_7 (k := 0) (n := 0) (rn_nxo hs (d := 5 + 1) (by decide +kernel)) (rn_k hs (b := 5) (by decide +kernel)) h9) (
    P_5_2 (R_kind hs hk _) lf_5_21 rfl rfl dX5_init_34 (R_ref (d := 5) (
    V_aload_n dX5_init_37 rfl (
    R_new (k := k + 4) (n := n + 32) (t := 7) (q := (RX7, TX7, 2)) (d := 7) rfl lc_5_9 ln_7 lini_7 df_7 dX5_init_38 hs (by decide +kernel) rfl rfl  (
    V_dup dX5_init_41 rfl (
    R_callIN (k := k + 3) (n := n + 22) (b := 7) (k' := 1) (n' := 10) (L' := op7) [] [r_ (a + 7), r_ a] okX7_init rfl rfl lmn_5_11 liX7_init (Nat.le_of_ble_eq_true rfl) (Nat.le_of_ble_eq_true rfl) (Nat.le_of_ble_eq_true rfl) (cat_of rfl) (Nat.le_of_ble_eq_true rfl) rfl dX5_init_42 rfl rfl (fun _ h9 => ci_7 (k := 0) (n := 0) (rn_nxo hs (d := 7 + 1) (by decide +kernel)) (rn_k hs (b := 7) (by decide +kernel)) h9) (
    P_5_3 (R_kind hs hk _) lf_5_24 rfl rfl dX5_init_45 (R_ref (d := 7) (
    V_aload_n dX5_init_48 rfl (
    R_new (k := k + 2) (n := n + 20) (t := 7) (q := (RX7, TX7, 2)) (d := 9) rfl lc_5_9 ln_7 lini_7 df_7 dX5_init_49 hs (by decide +kernel) rfl rfl  (
    V_dup dX5_init_52 rfl (
    R_callIN (k := k + 1) (n := n + 10) (b := 9) (k' := 1) (n' := 10) (L' := op7) [] [r_ (a + 9), r_ a] okX7_init rfl rfl lmn_5_11 liX7_init (Nat.le_of_ble_eq_true rfl) (Nat.le_of_ble_eq_true rfl) (Nat.le_of_ble_eq_true rfl) (cat_of rfl) (Nat.le_of_ble_eq_true rfl) rfl dX5_init_53 rfl rfl (fun _ h9 => ci_7 (k := 0) (n := 0) (rn_nxo hs (d := 9 + 1) (by decide +kernel)) (rn_k hs (b := 9) (by decide +kernel)) h9) (
    P_5_4 (R_kind hs hk _) lf_5_27 rfl rfl dX5_init_56 (R_ref (d := 9) (
    V_aload_n dX5_init_59 rfl (
    V_bipush dX5_init_60 rfl (
    R_arr (k := k + 0) (n := n + 0) (t := 100) (at_ := .int) (N := 10) (d := 11) (by decide) rfl (fun _ _ h9 => va_nm_int h9) rfl (Nat.le_of_ble_eq_true rfl) rfl (by decide) la_int dX5_init_62 hs (by decide +kernel) rfl rfl  (
    P_5_5 (R_kind hs hk _) lf_5_30 rfl rfl dX5_init_64 (R_ref (d := 11) (
    V_ret dX5_init_67 rfl h)))))))))))))))))))))))))))))))))))))
def op2 : List Mo := (2, 0, 13, ((15 : Nat) : Int)) :: (0, 100, 40, 0) :: (2, 0, 12, ((14 : Nat) : Int)) :: (0, 100, 40, 0) :: (2, 0, 11, ((13 : Nat) : Int)) :: (0, 100, 6, 0) :: (2, 0, 10, ((12 : Nat) : Int)) :: (0, 100, 3, 0) :: (2, 0, 9, ((11 : Nat) : Int)) :: (0, 103, 13, 0) :: (2, 0, 8, ((10 : Nat) : Int)) :: (0, 103, 13, 0) :: (2, 0, 7, ((9 : Nat) : Int)) :: (0, 103, 13, 0) :: (2, 0, 6, ((8 : Nat) : Int)) :: (0, 100, 5, 0) :: (2, 0, 5, ((7 : Nat) : Int)) :: (0, 100, 27, 0) :: (2, 0, 4, ((6 : Nat) : Int)) :: (0, 100, 27, 0) :: (2, 0, 1, ((4 : Nat) : Int)) :: shf 4 op7 ++ ((0, 7, 0, 0) :: (2, 0, 0, ((1 : Nat) : Int)) :: shf 1 op4 ++ ((0, 4, 0, 0) :: []))
theorem dX2_init_0 : decode cX2_init 0 = .ok (.aload_n 0, 1) := by decide +kernel
theorem dX2_init_1 : decode cX2_init 1 = .ok (.invokespecial 3, 3) := by decide +kernel
theorem dX2_init_4 : decode cX2_init 4 = .ok (.aload_n 0, 1) := by decide +kernel
theorem dX2_init_5 : decode cX2_init 5 = .ok (.new 9, 3) := by decide +kernel
theorem dX2_init_8 : decode cX2_init 8 = .ok (.dup, 1) := by decide +kernel
theorem dX2_init_9 : decode cX2_init 9 = .ok (.invokespecial 11, 3) := by decide +kernel
theorem dX2_init_12 : decode cX2_init 12 = .ok (.putfield 12, 3) := by decide +kernel
theorem dX2_init_15 : decode cX2_init 15 = .ok (.aload_n 0, 1) := by decide +kernel
theorem dX2_init_16 : decode cX2_init 16 = .ok (.new 18, 3) := by decide +kernel
theorem dX2_init_19 : decode cX2_init 19 = .ok (.dup, 1) := by decide +kernel
theorem dX2_init_20 : decode cX2_init 20 = .ok (.invokespecial 20, 3) := by decide +kernel
theorem dX2_init_23 : decode cX2_init 23 = .ok (.putfield 21, 3) := by decide +kernel
theorem dX2_init_26 : decode cX2_init 26 = .ok (.aload_n 0, 1) := by decide +kernel
theorem dX2_init_27 : decode cX2_init 27 = .ok (.bipush 27, 2) := by decide +kernel
theorem dX2_init_29 : decode cX2_init 29 = .ok (.newarray .int, 2) := by decide +kernel
theorem dX2_init_31 : decode cX2_init 31 = .ok (.putfield 25, 3) := by decide +kernel
theorem dX2_init_34 : decode cX2_init 34 = .ok (.aload_n 0, 1) := by decide +kernel
theorem dX2_init_35 : decode cX2_init 35 = .ok (.bipush 27, 2) := by decide +kernel
theorem dX2_init_37 : decode cX2_init 37 = .ok (.newarray .int, 2) := by decide +kernel
theorem dX2_init_39 : decode cX2_init 39 = .ok (.putfield 29, 3) := by decide +kernel
theorem dX2_init_42 : decode cX2_init 42 = .ok (.aload_n 0, 1) := by decide +kernel
theorem dX2_init_43 : decode cX2_init 43 = .ok (.iconst 5, 1) := by decide +kernel
theorem dX2_init_44 : decode cX2_init 44 = .ok (.newarray .int, 2) := by decide +kernel
theorem dX2_init_46 : decode cX2_init 46 = .ok (.putfield 32, 3) := by decide +kernel
theorem dX2_init_49 : decode cX2_init 49 = .ok (.aload_n 0, 1) := by decide +kernel
theorem dX2_init_50 : decode cX2_init 50 = .ok (.bipush 13, 2) := by decide +kernel
theorem dX2_init_52 : decode cX2_init 52 = .ok (.newarray .long, 2) := by decide +kernel
theorem dX2_init_54 : decode cX2_init 54 = .ok (.putfield 35, 3) := by decide +kernel
theorem dX2_init_57 : decode cX2_init 57 = .ok (.aload_n 0, 1) := by decide +kernel
theorem dX2_init_58 : decode cX2_init 58 = .ok (.bipush 13, 2) := by decide +kernel
theorem dX2_init_60 : decode cX2_init 60 = .ok (.newarray .long, 2) := by decide +kernel
theorem dX2_init_62 : decode cX2_init 62 = .ok (.putfield 39, 3) := by decide +kernel
theorem dX2_init_65 : decode cX2_init 65 = .ok (.aload_n 0, 1) := by decide +kernel
theorem dX2_init_66 : decode cX2_init 66 = .ok (.bipush 13, 2) := by decide +kernel
theorem dX2_init_68 : decode cX2_init 68 = .ok (.newarray .long, 2) := by decide +kernel
theorem dX2_init_70 : decode cX2_init 70 = .ok (.putfield 42, 3) := by decide +kernel
theorem dX2_init_73 : decode cX2_init 73 = .ok (.aload_n 0, 1) := by decide +kernel
theorem dX2_init_74 : decode cX2_init 74 = .ok (.iconst 3, 1) := by decide +kernel
theorem dX2_init_75 : decode cX2_init 75 = .ok (.newarray .int, 2) := by decide +kernel
theorem dX2_init_77 : decode cX2_init 77 = .ok (.putfield 45, 3) := by decide +kernel
theorem dX2_init_80 : decode cX2_init 80 = .ok (.aload_n 0, 1) := by decide +kernel
theorem dX2_init_81 : decode cX2_init 81 = .ok (.bipush 6, 2) := by decide +kernel
theorem dX2_init_83 : decode cX2_init 83 = .ok (.newarray .int, 2) := by decide +kernel
theorem dX2_init_85 : decode cX2_init 85 = .ok (.putfield 48, 3) := by decide +kernel
theorem dX2_init_88 : decode cX2_init 88 = .ok (.aload_n 0, 1) := by decide +kernel
theorem dX2_init_89 : decode cX2_init 89 = .ok (.bipush 40, 2) := by decide +kernel
theorem dX2_init_91 : decode cX2_init 91 = .ok (.newarray .int, 2) := by decide +kernel
theorem dX2_init_93 : decode cX2_init 93 = .ok (.putfield 51, 3) := by decide +kernel
theorem dX2_init_96 : decode cX2_init 96 = .ok (.aload_n 0, 1) := by decide +kernel
theorem dX2_init_97 : decode cX2_init 97 = .ok (.bipush 40, 2) := by decide +kernel
theorem dX2_init_99 : decode cX2_init 99 = .ok (.newarray .int, 2) := by decide +kernel
theorem dX2_init_101 : decode cX2_init 101 = .ok (.putfield 54, 3) := by decide +kernel
theorem dX2_init_104 : decode cX2_init 104 = .ok (.return_, 1) := by decide +kernel
theorem df_2 : ∀ j, j < 17 → defaultValue (fty 2 j) = vl (fty 2 j) 0 none := fun j _ => by
  show defaultValue (tyX2 j) = vl (tyX2 j) 0 none
  unfold tyX2
  split <;> rfl
set_option maxRecDepth 20000 in
theorem ci_2 {k n a : Nat} {s : Wx × Zt} {Q : Option Value → Wx → Zt → Prop} (hs : s.1.2.2.1 = a + 1) (hk : s.1.1 a = some (2, 0)) (h : Q none (rn a op2 s).1 (rn a op2 s).2) : V mX2_init (k + 15) (n + 229) 0 [some (r_ a)] [] s.1 s.2 Q :=
  show V mX2_init (k + 15) (n + 229) 0 [some (r_ a)] [] (rn a [] s).1 (rn a [] s).2 Q from
  V_aload_n dX2_init_0 rfl (
    V_objI lm_2_3 lobj lobjc (Nat.le_of_ble_eq_true rfl) (Nat.le_of_ble_eq_true rfl) dX2_init_1 (
    V_aload_n dX2_init_4 rfl (
    R_new (k := k + 14) (n := n + 225) (t := 4) (q := (RX4, TX4, 4)) (d := 1) rfl lc_2_9 ln_4 lini_4 df_4 dX2_init_5 hs (by decide +kernel) rfl rfl  (
    V_dup dX2_init_8 rfl (
    R_callIN (k := k + 12) (n := n + 199) (b := 1) (k' := 2) (n' := 26) (L' := op4) [] [r_ (a + 1), r_ a] okX4_init rfl rfl lmn_2_11 liX4_init (Nat.le_of_ble_eq_true rfl) (Nat.le_of_ble_eq_true rfl) (Nat.le_of_ble_eq_true rfl) (cat_of rfl) (Nat.le_of_ble_eq_true rfl) rfl dX2_init_9 rfl rfl (fun _ h9 => ci_4 (k := 0) (n := 0) (rn_nxo hs (d := 1 + 1) (by decide +kernel)) (rn_k hs (b := 1) (by decide +kernel)) h9) (
    P_2_0 (R_kind hs hk _) lf_2_12 rfl rfl dX2_init_12 (R_ref (d := 1) (
    V_aload_n dX2_init_15 rfl (
    R_new (k := k + 11) (n := n + 197) (t := 7) (q := (RX7, TX7, 2)) (d := 4) rfl lc_2_18 ln_7 lini_7 df_7 dX2_init_16 hs (by decide +kernel) rfl rfl  (
    V_dup dX2_init_19 rfl (
    R_callIN (k := k + 10) (n := n + 187) (b := 4) (k' := 1) (n' := 10) (L' := op7) [] [r_ (a + 4), r_ a] okX7_init rfl rfl lmn_2_20 liX7_init (Nat.le_of_ble_eq_true rfl) (Nat.le_of_ble_eq_true rfl) (Nat.le_of_ble_eq_true rfl) (cat_of rfl) (Nat.le_of_ble_eq_true rfl) rfl dX2_init_20 rfl rfl (fun _ h9 => ci_7 (k := 0) (n := 0) (rn_nxo hs (d := 4 + 1) (by decide +kernel)) (rn_k hs (b := 4) (by decide +kernel)) h9) (
    P_2_1 (R_kind hs hk _) lf_2_21 rfl rfl dX2_init_23 (R_ref (d := 4) (
    V_aload_n dX2_init_26 rfl (
    V_bipush dX2_init_27 rfl (
    R_arr (k := k + 9) (n := n + 160) (t := 100) (at_ := .int) (N := 27) (d := 6) (by decide) rfl (fun _ _ h9 => va_nm_int h9) rfl (Nat.le_of_ble_eq_true rfl) rfl (by decide) la_int dX2_init_29 hs (by decide +kernel) rfl rfl  (
    P_2_4 (R_kind hs hk _) lf_2_25 rfl rfl dX2_init_31 (R_ref (d := 6) (
    V_aload_n dX2_init_34 rfl (
    V_bipush dX2_init_35 rfl (
    R_arr (k := k + 8) (n := n + 133) (t := 100) (at_ := .int) (N := 27) (d := 7) (by decide) rfl (fun _ _ h9 => va_nm_int h9) rfl (Nat.le_of_ble_eq_true rfl) rfl (by decide) la_int dX2_init_37 hs (by decide +kernel) rfl rfl  (
    P_2_5 (R_kind hs hk _) lf_2_29 rfl rfl dX2_init_39 (R_ref (d := 7) (
    V_aload_n dX2_init_42 rfl (
    V_iconst dX2_init_43 (
    R_arr (k := k + 7) (n := n + 128) (t := 100) (at_ := .int) (N := 5) (d := 8) (by decide) rfl (fun _ _ h9 => va_nm_int h9) rfl (Nat.le_of_ble_eq_true rfl) rfl (by decide) la_int dX2_init_44 hs (by decide +kernel) rfl rfl  (
    P_2_6 (R_kind hs hk _) lf_2_32 rfl rfl dX2_init_46 (R_ref (d := 8) (
    V_aload_n dX2_init_49 rfl (
    V_bipush dX2_init_50 rfl (
    R_arr (k := k + 6) (n := n + 115) (t := 103) (at_ := .long) (N := 13) (d := 9) (by decide) rfl (fun _ _ h9 => va_nm_long h9) rfl (Nat.le_of_ble_eq_true rfl) rfl (by decide) la_long dX2_init_52 hs (by decide +kernel) rfl rfl  (
    P_2_7 (R_kind hs hk _) lf_2_35 rfl rfl dX2_init_54 (R_ref (d := 9) (
    V_aload_n dX2_init_57 rfl (
    V_bipush dX2_init_58 rfl (
    R_arr (k := k + 5) (n := n + 102) (t := 103) (at_ := .long) (N := 13) (d := 10) (by decide) rfl (fun _ _ h9 => va_nm_long h9) rfl (Nat.le_of_ble_eq_true rfl) rfl (by decide) la_long dX2_init_60 hs (by decide +kernel) rfl rfl  (
    P_2_8 (R_kind hs hk _) lf_2_39 rfl rfl dX2_init_62 (R_ref (d := 10) (
    V_aload_n dX2_init_65 rfl (
    V_bipush dX2_init_66 rfl (
    R_arr (k := k + 4) (n := n + 89) (t := 103) (at_ := .long) (N := 13) (d := 11) (by decide) rfl (fun _ _ h9 => va_nm_long h9) rfl (Nat.le_of_ble_eq_true rfl) rfl (by decide) la_long dX2_init_68 hs (by decide +kernel) rfl rfl  (
    P_2_9 (R_kind hs hk _) lf_2_42 rfl rfl dX2_init_70 (R_ref (d := 11) (
    V_aload_n dX2_init_73 rfl (
    V_iconst dX2_init_74 (
    R_arr (k := k + 3) (n := n + 86) (t := 100) (at_ := .int) (N := 3) (d := 12) (by decide) rfl (fun _ _ h9 => va_nm_int h9) rfl (Nat.le_of_ble_eq_true rfl) rfl (by decide) la_int dX2_init_75 hs (by decide +kernel) rfl rfl  (
    P_2_10 (R_kind hs hk _) lf_2_45 rfl rfl dX2_init_77 (R_ref (d := 12) (
    V_aload_n dX2_init_80 rfl (
    V_bipush dX2_init_81 rfl (
    R_arr (k := k + 2) (n := n + 80) (t := 100) (at_ := .int) (N := 6) (d := 13) (by decide) rfl (fun _ _ h9 => va_nm_int h9) rfl (Nat.le_of_ble_eq_true rfl) rfl (by decide) la_int dX2_init_83 hs (by decide +kernel) rfl rfl  (
    P_2_11 (R_kind hs hk _) lf_2_48 rfl rfl dX2_init_85 (R_ref (d := 13) (
    V_aload_n dX2_init_88 rfl (
    V_bipush dX2_init_89 rfl (
    R_arr (k := k + 1) (n := n + 40) (t := 100) (at_ := .int) (N := 40) (d := 14) (by decide) rfl (fun _ _ h9 => va_nm_int h9) rfl (Nat.le_of_ble_eq_true rfl) rfl (by decide) la_int dX2_init_91 hs (by decide +kernel) rfl rfl  (
    P_2_12 (R_kind hs hk _) lf_2_51 rfl rfl dX2_init_93 (R_ref (d := 14) (
    V_aload_n dX2_init_96 rfl (
    V_bipush dX2_init_97 rfl (
    R_arr (k := k + 0) (n := n + 0) (t := 100) (at_ := .int) (N := 40) (d := 15) (by decide) rfl (fun _ _ h9 => va_nm_int h9) rfl (Nat.le_of_ble_eq_true rfl) rfl (by decide) la_int dX2_init_99 hs (by decide +kernel) rfl rfl  (
    P_2_13 (R_kind hs hk _) lf_2_54 rfl rfl dX2_init_101 (R_ref (d := 15) (
    V_ret dX2_init_104 rfl h))))))))))))))))))))))))))))))))))))))))))))))))))))))))))))))))
def op9 : List Mo := (2, 0, 11, ((47 : Nat) : Int)) :: (0, 100, 90, 0) :: (2, 0, 10, ((46 : Nat) : Int)) :: (0, 100, 90, 0) :: (2, 0, 8, ((5 : Nat) : Int)) :: (1, 40, 90, 0) :: (2, 0, 7, ((4 : Nat) : Int)) :: (0, 100, 13, 0) :: (2, 0, 6, ((3 : Nat) : Int)) :: (0, 100, 27, 0) :: (2, 0, 5, ((2 : Nat) : Int)) :: (0, 102, 13, 0) :: (2, 0, 4, ((1 : Nat) : Int)) :: (0, 100, 41, 0) :: []
theorem dX9_init_0 : decode cX9_init 0 = .ok (.aload_n 0, 1) := by decide +kernel
theorem dX9_init_1 : decode cX9_init 1 = .ok (.invokespecial 3, 3) := by decide +kernel
theorem dX9_init_4 : decode cX9_init 4 = .ok (.aload_n 0, 1) := by decide +kernel
theorem dX9_init_5 : decode cX9_init 5 = .ok (.bipush 41, 2) := by decide +kernel
theorem dX9_init_7 : decode cX9_init 7 = .ok (.newarray .int, 2) := by decide +kernel
theorem dX9_init_9 : decode cX9_init 9 = .ok (.putfield 9, 3) := by decide +kernel
theorem dX9_init_12 : decode cX9_init 12 = .ok (.aload_n 0, 1) := by decide +kernel
theorem dX9_init_13 : decode cX9_init 13 = .ok (.bipush 13, 2) := by decide +kernel
theorem dX9_init_15 : decode cX9_init 15 = .ok (.newarray .boolean, 2) := by decide +kernel
theorem dX9_init_17 : decode cX9_init 17 = .ok (.putfield 15, 3) := by decide +kernel
theorem dX9_init_20 : decode cX9_init 20 = .ok (.aload_n 0, 1) := by decide +kernel
theorem dX9_init_21 : decode cX9_init 21 = .ok (.bipush 27, 2) := by decide +kernel
theorem dX9_init_23 : decode cX9_init 23 = .ok (.newarray .int, 2) := by decide +kernel
theorem dX9_init_25 : decode cX9_init 25 = .ok (.putfield 19, 3) := by decide +kernel
theorem dX9_init_28 : decode cX9_init 28 = .ok (.aload_n 0, 1) := by decide +kernel
theorem dX9_init_29 : decode cX9_init 29 = .ok (.bipush 13, 2) := by decide +kernel
theorem dX9_init_31 : decode cX9_init 31 = .ok (.newarray .int, 2) := by decide +kernel
theorem dX9_init_33 : decode cX9_init 33 = .ok (.putfield 22, 3) := by decide +kernel
theorem dX9_init_36 : decode cX9_init 36 = .ok (.aload_n 0, 1) := by decide +kernel
theorem dX9_init_37 : decode cX9_init 37 = .ok (.bipush 40, 2) := by decide +kernel
theorem dX9_init_39 : decode cX9_init 39 = .ok (.bipush 90, 2) := by decide +kernel
theorem dX9_init_41 : decode cX9_init 41 = .ok (.multianewarray 25 2, 4) := by decide +kernel
theorem dX9_init_45 : decode cX9_init 45 = .ok (.putfield 27, 3) := by decide +kernel
theorem dX9_init_48 : decode cX9_init 48 = .ok (.aload_n 0, 1) := by decide +kernel
theorem dX9_init_49 : decode cX9_init 49 = .ok (.bipush 90, 2) := by decide +kernel
theorem dX9_init_51 : decode cX9_init 51 = .ok (.newarray .int, 2) := by decide +kernel
theorem dX9_init_53 : decode cX9_init 53 = .ok (.putfield 30, 3) := by decide +kernel
theorem dX9_init_56 : decode cX9_init 56 = .ok (.aload_n 0, 1) := by decide +kernel
theorem dX9_init_57 : decode cX9_init 57 = .ok (.bipush 90, 2) := by decide +kernel
theorem dX9_init_59 : decode cX9_init 59 = .ok (.newarray .int, 2) := by decide +kernel
theorem dX9_init_61 : decode cX9_init 61 = .ok (.putfield 33, 3) := by decide +kernel
theorem dX9_init_64 : decode cX9_init 64 = .ok (.return_, 1) := by decide +kernel
theorem df_9 : ∀ j, j < 12 → defaultValue (fty 9 j) = vl (fty 9 j) 0 none := fun j _ => by
  show defaultValue (tyX9 j) = vl (tyX9 j) 0 none
  unfold tyX9
  split <;> rfl
set_option maxRecDepth 20000 in
theorem ci_9 {k n a : Nat} {s : Wx × Zt} {Q : Option Value → Wx → Zt → Prop} (hs : s.1.2.2.1 = a + 1) (hk : s.1.1 a = some (9, 0)) (h : Q none (rn a op9 s).1 (rn a op9 s).2) : V mX9_init (k + 47) (n + 3914) 0 [some (r_ a)] [] s.1 s.2 Q :=
  show V mX9_init (k + 47) (n + 3914) 0 [some (r_ a)] [] (rn a [] s).1 (rn a [] s).2 Q from
  V_aload_n dX9_init_0 rfl (
    V_objI lm_9_3 lobj lobjc (Nat.le_of_ble_eq_true rfl) (Nat.le_of_ble_eq_true rfl) dX9_init_1 (
    V_aload_n dX9_init_4 rfl (
    V_bipush dX9_init_5 rfl (
    R_arr (k := k + 46) (n := n + 3873) (t := 100) (at_ := .int) (N := 41) (d := 1) (by decide) rfl (fun _ _ h9 => va_nm_int h9) rfl (Nat.le_of_ble_eq_true rfl) rfl (by decide) la_int dX9_init_7 hs (by decide +kernel) rfl rfl  (
    P_9_4 (R_kind hs hk _) lf_9_9 rfl rfl dX9_init_9 (R_ref (d := 1) (
    V_aload_n dX9_init_12 rfl (
    V_bipush dX9_init_13 rfl (
    R_arr (k := k + 45) (n := n + 3860) (t := 102) (at_ := .boolean) (N := 13) (d := 2) (by decide) rfl (fun _ _ h9 => va_nm_boolean h9) rfl (Nat.le_of_ble_eq_true rfl) rfl (by decide) la_boolean dX9_init_15 hs (by decide +kernel) rfl rfl  (
    P_9_5 (R_kind hs hk _) lf_9_15 rfl rfl dX9_init_17 (R_ref (d := 2) (
    V_aload_n dX9_init_20 rfl (
    V_bipush dX9_init_21 rfl (
    R_arr (k := k + 44) (n := n + 3833) (t := 100) (at_ := .int) (N := 27) (d := 3) (by decide) rfl (fun _ _ h9 => va_nm_int h9) rfl (Nat.le_of_ble_eq_true rfl) rfl (by decide) la_int dX9_init_23 hs (by decide +kernel) rfl rfl  (
    P_9_6 (R_kind hs hk _) lf_9_19 rfl rfl dX9_init_25 (R_ref (d := 3) (
    V_aload_n dX9_init_28 rfl (
    V_bipush dX9_init_29 rfl (
    R_arr (k := k + 43) (n := n + 3820) (t := 100) (at_ := .int) (N := 13) (d := 4) (by decide) rfl (fun _ _ h9 => va_nm_int h9) rfl (Nat.le_of_ble_eq_true rfl) rfl (by decide) la_int dX9_init_31 hs (by decide +kernel) rfl rfl  (
    P_9_7 (R_kind hs hk _) lf_9_22 rfl rfl dX9_init_33 (R_ref (d := 4) (
    V_aload_n dX9_init_36 rfl (
    V_bipush dX9_init_37 rfl (
    V_bipush dX9_init_39 rfl (
    R_mna (k := k + 2) (n := n + 180) (N := 40) (K := 90) (d := 5) rfl rfl (Nat.le_of_ble_eq_true rfl) (Nat.le_of_ble_eq_true rfl) lc_9_25 dX9_init_41 hs (by decide +kernel) rfl rfl  (
    P_9_8 (R_kind hs hk _) lf_9_27 rfl rfl dX9_init_45 (R_ref (d := 5) (
    V_aload_n dX9_init_48 rfl (
    V_bipush dX9_init_49 rfl (
    R_arr (k := k + 1) (n := n + 90) (t := 100) (at_ := .int) (N := 90) (d := 46) (by decide) rfl (fun _ _ h9 => va_nm_int h9) rfl (Nat.le_of_ble_eq_true rfl) rfl (by decide) la_int dX9_init_51 hs (by decide +kernel) rfl rfl  (
    P_9_10 (R_kind hs hk _) lf_9_30 rfl rfl dX9_init_53 (R_ref (d := 46) (
    V_aload_n dX9_init_56 rfl (
    V_bipush dX9_init_57 rfl (
    R_arr (k := k + 0) (n := n + 0) (t := 100) (at_ := .int) (N := 90) (d := 47) (by decide) rfl (fun _ _ h9 => va_nm_int h9) rfl (Nat.le_of_ble_eq_true rfl) rfl (by decide) la_int dX9_init_59 hs (by decide +kernel) rfl rfl  (
    P_9_11 (R_kind hs hk _) lf_9_33 rfl rfl dX9_init_61 (R_ref (d := 47) (
    V_ret dX9_init_64 rfl h))))))))))))))))))))))))))))))))))))))
def op1 : List Mo := (2, 0, 16, ((112 : Nat) : Int)) :: (0, 100, 26, 0) :: (2, 0, 15, ((111 : Nat) : Int)) :: (0, 100, 26, 0) :: (2, 0, 14, ((110 : Nat) : Int)) :: (0, 100, 26, 0) :: (2, 0, 13, ((109 : Nat) : Int)) :: (0, 100, 26, 0) :: (2, 0, 12, ((82 : Nat) : Int)) :: (1, 26, 26, 0) :: (2, 0, 11, ((55 : Nat) : Int)) :: (1, 26, 90, 0) :: (2, 0, 10, ((4 : Nat) : Int)) :: (1, 50, 26, 0) :: (2, 0, 9, ((3 : Nat) : Int)) :: (0, 100, 26, 0) :: (2, 0, 6, ((2 : Nat) : Int)) :: (0, 100, 26, 0) :: (2, 0, 5, ((1 : Nat) : Int)) :: (0, 100, 27, 0) :: []
theorem dX1_init_0 : decode cX1_init 0 = .ok (.aload_n 0, 1) := by decide +kernel
theorem dX1_init_1 : decode cX1_init 1 = .ok (.invokespecial 3, 3) := by decide +kernel
theorem dX1_init_4 : decode cX1_init 4 = .ok (.aload_n 0, 1) := by decide +kernel
theorem dX1_init_5 : decode cX1_init 5 = .ok (.bipush 27, 2) := by decide +kernel
theorem dX1_init_7 : decode cX1_init 7 = .ok (.newarray .int, 2) := by decide +kernel
theorem dX1_init_9 : decode cX1_init 9 = .ok (.putfield 9, 3) := by decide +kernel
theorem dX1_init_12 : decode cX1_init 12 = .ok (.aload_n 0, 1) := by decide +kernel
theorem dX1_init_13 : decode cX1_init 13 = .ok (.bipush 26, 2) := by decide +kernel
theorem dX1_init_15 : decode cX1_init 15 = .ok (.newarray .int, 2) := by decide +kernel
theorem dX1_init_17 : decode cX1_init 17 = .ok (.putfield 15, 3) := by decide +kernel
theorem dX1_init_20 : decode cX1_init 20 = .ok (.aload_n 0, 1) := by decide +kernel
theorem dX1_init_21 : decode cX1_init 21 = .ok (.bipush 26, 2) := by decide +kernel
theorem dX1_init_23 : decode cX1_init 23 = .ok (.newarray .int, 2) := by decide +kernel
theorem dX1_init_25 : decode cX1_init 25 = .ok (.putfield 18, 3) := by decide +kernel
theorem dX1_init_28 : decode cX1_init 28 = .ok (.aload_n 0, 1) := by decide +kernel
theorem dX1_init_29 : decode cX1_init 29 = .ok (.bipush 50, 2) := by decide +kernel
theorem dX1_init_31 : decode cX1_init 31 = .ok (.bipush 26, 2) := by decide +kernel
theorem dX1_init_33 : decode cX1_init 33 = .ok (.multianewarray 21 2, 4) := by decide +kernel
theorem dX1_init_37 : decode cX1_init 37 = .ok (.putfield 23, 3) := by decide +kernel
theorem dX1_init_40 : decode cX1_init 40 = .ok (.aload_n 0, 1) := by decide +kernel
theorem dX1_init_41 : decode cX1_init 41 = .ok (.bipush 26, 2) := by decide +kernel
theorem dX1_init_43 : decode cX1_init 43 = .ok (.bipush 90, 2) := by decide +kernel
theorem dX1_init_45 : decode cX1_init 45 = .ok (.multianewarray 21 2, 4) := by decide +kernel
theorem dX1_init_49 : decode cX1_init 49 = .ok (.putfield 26, 3) := by decide +kernel
theorem dX1_init_52 : decode cX1_init 52 = .ok (.aload_n 0, 1) := by decide +kernel
theorem dX1_init_53 : decode cX1_init 53 = .ok (.bipush 26, 2) := by decide +kernel
theorem dX1_init_55 : decode cX1_init 55 = .ok (.bipush 26, 2) := by decide +kernel
theorem dX1_init_57 : decode cX1_init 57 = .ok (.multianewarray 21 2, 4) := by decide +kernel
theorem dX1_init_61 : decode cX1_init 61 = .ok (.putfield 29, 3) := by decide +kernel
theorem dX1_init_64 : decode cX1_init 64 = .ok (.aload_n 0, 1) := by decide +kernel
theorem dX1_init_65 : decode cX1_init 65 = .ok (.bipush 26, 2) := by decide +kernel
theorem dX1_init_67 : decode cX1_init 67 = .ok (.newarray .int, 2) := by decide +kernel
theorem dX1_init_69 : decode cX1_init 69 = .ok (.putfield 32, 3) := by decide +kernel
theorem dX1_init_72 : decode cX1_init 72 = .ok (.aload_n 0, 1) := by decide +kernel
theorem dX1_init_73 : decode cX1_init 73 = .ok (.bipush 26, 2) := by decide +kernel
theorem dX1_init_75 : decode cX1_init 75 = .ok (.newarray .int, 2) := by decide +kernel
theorem dX1_init_77 : decode cX1_init 77 = .ok (.putfield 35, 3) := by decide +kernel
theorem dX1_init_80 : decode cX1_init 80 = .ok (.aload_n 0, 1) := by decide +kernel
theorem dX1_init_81 : decode cX1_init 81 = .ok (.bipush 26, 2) := by decide +kernel
theorem dX1_init_83 : decode cX1_init 83 = .ok (.newarray .int, 2) := by decide +kernel
theorem dX1_init_85 : decode cX1_init 85 = .ok (.putfield 38, 3) := by decide +kernel
theorem dX1_init_88 : decode cX1_init 88 = .ok (.aload_n 0, 1) := by decide +kernel
theorem dX1_init_89 : decode cX1_init 89 = .ok (.bipush 26, 2) := by decide +kernel
theorem dX1_init_91 : decode cX1_init 91 = .ok (.newarray .int, 2) := by decide +kernel
theorem dX1_init_93 : decode cX1_init 93 = .ok (.putfield 41, 3) := by decide +kernel
theorem dX1_init_96 : decode cX1_init 96 = .ok (.return_, 1) := by decide +kernel
theorem df_1 : ∀ j, j < 17 → defaultValue (fty 1 j) = vl (fty 1 j) 0 none := fun j _ => by
  show defaultValue (tyX1 j) = vl (tyX1 j) 0 none
  unfold tyX1
  split <;> rfl
set_option maxRecDepth 20000 in
theorem ci_1 {k n a : Nat} {s : Wx × Zt} {Q : Option Value → Wx → Zt → Prop} (hs : s.1.2.2.1 = a + 1) (hk : s.1.1 a = some (1, 0)) (h : Q none (rn a op1 s).1 (rn a op1 s).2) : V mX1_init (k + 112) (n + 4601) 0 [some (r_ a)] [] s.1 s.2 Q :=
  show V mX1_init (k + 112) (n + 4601) 0 [some (r_ a)] [] (rn a [] s).1 (rn a [] s).2 Q from
  V_aload_n dX1_init_0 rfl (
    V_objI lm_1_3 lobj lobjc (Nat.le_of_ble_eq_true rfl) (Nat.le_of_ble_eq_true rfl) dX1_init_1 (
    V_aload_n dX1_init_4 rfl (
    V_bipush dX1_init_5 rfl (
    R_arr (k := k + 111) (n := n + 4574) (t := 100) (at_ := .int) (N := 27) (d := 1) (by decide) rfl (fun _ _ h9 => va_nm_int h9) rfl (Nat.le_of_ble_eq_true rfl) rfl (by decide) la_int dX1_init_7 hs (by decide +kernel) rfl rfl  (
    P_1_5 (R_kind hs hk _) lf_1_9 rfl rfl dX1_init_9 (R_ref (d := 1) (
    V_aload_n dX1_init_12 rfl (
    V_bipush dX1_init_13 rfl (
    R_arr (k := k + 110) (n := n + 4548) (t := 100) (at_ := .int) (N := 26) (d := 2) (by decide) rfl (fun _ _ h9 => va_nm_int h9) rfl (Nat.le_of_ble_eq_true rfl) rfl (by decide) la_int dX1_init_15 hs (by decide +kernel) rfl rfl  (
    P_1_6 (R_kind hs hk _) lf_1_15 rfl rfl dX1_init_17 (R_ref (d := 2) (
    V_aload_n dX1_init_20 rfl (
    V_bipush dX1_init_21 rfl (
    R_arr (k := k + 109) (n := n + 4522) (t := 100) (at_ := .int) (N := 26) (d := 3) (by decide) rfl (fun _ _ h9 => va_nm_int h9) rfl (Nat.le_of_ble_eq_true rfl) rfl (by decide) la_int dX1_init_23 hs (by decide +kernel) rfl rfl  (
    P_1_9 (R_kind hs hk _) lf_1_18 rfl rfl dX1_init_25 (R_ref (d := 3) (
    V_aload_n dX1_init_28 rfl (
    V_bipush dX1_init_29 rfl (
    V_bipush dX1_init_31 rfl (
    R_mna (k := k + 58) (n := n + 3172) (N := 50) (K := 26) (d := 4) rfl rfl (Nat.le_of_ble_eq_true rfl) (Nat.le_of_ble_eq_true rfl) lc_1_21 dX1_init_33 hs (by decide +kernel) rfl rfl  (
    P_1_10 (R_kind hs hk _) lf_1_23 rfl rfl dX1_init_37 (R_ref (d := 4) (
    V_aload_n dX1_init_40 rfl (
    V_bipush dX1_init_41 rfl (
    V_bipush dX1_init_43 rfl (
    R_mna (k := k + 31) (n := n + 806) (N := 26) (K := 90) (d := 55) rfl rfl (Nat.le_of_ble_eq_true rfl) (Nat.le_of_ble_eq_true rfl) lc_1_21 dX1_init_45 hs (by decide +kernel) rfl rfl  (
    P_1_11 (R_kind hs hk _) lf_1_26 rfl rfl dX1_init_49 (R_ref (d := 55) (
    V_aload_n dX1_init_52 rfl (
    V_bipush dX1_init_53 rfl (
    V_bipush dX1_init_55 rfl (
    R_mna (k := k + 4) (n := n + 104) (N := 26) (K := 26) (d := 82) rfl rfl (Nat.le_of_ble_eq_true rfl) (Nat.le_of_ble_eq_true rfl) lc_1_21 dX1_init_57 hs (by decide +kernel) rfl rfl  (
    P_1_12 (R_kind hs hk _) lf_1_29 rfl rfl dX1_init_61 (R_ref (d := 82) (
    V_aload_n dX1_init_64 rfl (
    V_bipush dX1_init_65 rfl (
    R_arr (k := k + 3) (n := n + 78) (t := 100) (at_ := .int) (N := 26) (d := 109) (by decide) rfl (fun _ _ h9 => va_nm_int h9) rfl (Nat.le_of_ble_eq_true rfl) rfl (by decide) la_int dX1_init_67 hs (by decide +kernel) rfl rfl  (
    P_1_13 (R_kind hs hk _) lf_1_32 rfl rfl dX1_init_69 (R_ref (d := 109) (
    V_aload_n dX1_init_72 rfl (
    V_bipush dX1_init_73 rfl (
    R_arr (k := k + 2) (n := n + 52) (t := 100) (at_ := .int) (N := 26) (d := 110) (by decide) rfl (fun _ _ h9 => va_nm_int h9) rfl (Nat.le_of_ble_eq_true rfl) rfl (by decide) la_int dX1_init_75 hs (by decide +kernel) rfl rfl  (
    P_1_14 (R_kind hs hk _) lf_1_35 rfl rfl dX1_init_77 (R_ref (d := 110) (
    V_aload_n dX1_init_80 rfl (
    V_bipush dX1_init_81 rfl (
    R_arr (k := k + 1) (n := n + 26) (t := 100) (at_ := .int) (N := 26) (d := 111) (by decide) rfl (fun _ _ h9 => va_nm_int h9) rfl (Nat.le_of_ble_eq_true rfl) rfl (by decide) la_int dX1_init_83 hs (by decide +kernel) rfl rfl  (
    P_1_15 (R_kind hs hk _) lf_1_38 rfl rfl dX1_init_85 (R_ref (d := 111) (
    V_aload_n dX1_init_88 rfl (
    V_bipush dX1_init_89 rfl (
    R_arr (k := k + 0) (n := n + 0) (t := 100) (at_ := .int) (N := 26) (d := 112) (by decide) rfl (fun _ _ h9 => va_nm_int h9) rfl (Nat.le_of_ble_eq_true rfl) rfl (by decide) la_int dX1_init_91 hs (by decide +kernel) rfl rfl  (
    P_1_16 (R_kind hs hk _) lf_1_41 rfl rfl dX1_init_93 (R_ref (d := 112) (
    V_ret dX1_init_96 rfl h)))))))))))))))))))))))))))))))))))))))))))))))))))))))
