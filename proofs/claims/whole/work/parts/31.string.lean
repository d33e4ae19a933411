/-! ===== the words that the reader knows ===== -/
def wd (j : Nat) : List Int := if j = 10 then [112, 114, 105, 109, 101] else if j = 11 then [99, 117, 114, 118, 101] else if j = 12 then [102, 97, 114] else if j = 13 then [97, 116] else if j = 14 then [121] else [120]
theorem wd_len (j : Nat) : (wd j).length ≤ 5 := by
  unfold wd
  split
  · decide
  · split
    · decide
    · split
      · decide
      · split
        · decide
        · split <;> decide
theorem wd_rg (j i : Nat) : 0 ≤ (wd j).getD i 0 ∧ (wd j).getD i 0 < 128 := by
  have : ∀ l : List Int, (∀ v ∈ l, 0 ≤ v ∧ v < 128) → 0 ≤ l.getD i 0 ∧ l.getD i 0 < 128 := by
    intro l hl
    rw [List.getD_eq_getElem?_getD]
    cases h : l[i]? with
    | none => simp
    | some v => exact hl v (List.mem_of_getElem? h)
  refine this _ ?_
  unfold wd
  split
  · decide
  · split
    · decide
    · split
      · decide
      · split
        · decide
        · split <;> decide
def KT (x : Wx) : Prop := ∀ j ∈ strs, x.1 (x.2.2.2 (j.1 + 10)) = some (201, (wd j.1).length)
def KU (x : Wx) (Z : Zt) : Prop := ∀ j ∈ strs, ∀ i : Nat, i < (wd j.1).length → Z (x.2.2.2 (j.1 + 10)) i = (wd j.1).getD i 0
theorem V_i2c {y : MD} {k n pc : Nat} {lv : List (Option Value)} {st : List Value} {x : Wx} {Z : Zt} {Q : Option Value → Wx → Zt → Prop} {a r : Int} (hd : decode y.2.1 pc = .ok (.i2c, 1)) (hr : ((Int32.ofInt a).toUInt32 % 65536).toInt32 = Int32.ofInt r) (kk : V y k n (pc + 1) lv (i_ r :: st) x Z Q) : V y k n pc lv (i_ a :: st) x Z Q := by
  intro D B Hb p l e R s m args below meth c H locs cells slots QF ls C hR hL hm hl hret
  exact lv_i2c C.1 C.2.1 hd hr (kk D B Hb p l e R s m args below meth c H locs cells slots QF ls C hR hL hm hl hret)
theorem chr_fin : ∀ v : _root_.Fin 128, ((Int32.ofInt (v.val : Int)).toUInt32 % 65536).toInt32 = Int32.ofInt (v.val : Int) ∧ (Value.int (Int32.ofInt (v.val : Int)) == narrow .char (i_ (v.val : Int))) = true := by decide +kernel
theorem chr_ok {v : Int} (h : 0 ≤ v ∧ v < 128) : ((Int32.ofInt (v % 256)).toUInt32 % 65536).toInt32 = Int32.ofInt v ∧ narrow .char (i_ v) = i_ v := by
  have h1 := chr_fin ⟨v.toNat, by omega⟩
  have h2 : ((v.toNat : Nat) : Int) = v := by omega
  rw [show v % 256 = v by omega]
  simp only [h2] at h1
  exact ⟨h1.1, (eq_of_beq h1.2).symm⟩
theorem dJ0_coder_7d493_0 : decode cJ0_coder_7d493 0 = .ok (.getstatic 38, 3) := by decide +kernel
theorem dJ0_coder_7d493_3 : decode cJ0_coder_7d493 3 = .ok (.ifCond .eq 10, 3) := by decide +kernel
theorem dJ0_coder_7d493_6 : decode cJ0_coder_7d493 6 = .ok (.aload_n 0, 1) := by decide +kernel
theorem dJ0_coder_7d493_7 : decode cJ0_coder_7d493 7 = .ok (.getfield 15, 3) := by decide +kernel
theorem dJ0_coder_7d493_10 : decode cJ0_coder_7d493 10 = .ok (.goto 4, 3) := by decide +kernel
theorem dJ0_coder_7d493_13 : decode cJ0_coder_7d493 13 = .ok (.iconst 1, 1) := by decide +kernel
theorem dJ0_coder_7d493_14 : decode cJ0_coder_7d493 14 = .ok (.ireturn, 1) := by decide +kernel
theorem dJ0_length_8abf5_0 : decode cJ0_length_8abf5 0 = .ok (.aload_n 0, 1) := by decide +kernel
theorem dJ0_length_8abf5_1 : decode cJ0_length_8abf5 1 = .ok (.getfield 9, 3) := by decide +kernel
theorem dJ0_length_8abf5_4 : decode cJ0_length_8abf5 4 = .ok (.arraylength, 1) := by decide +kernel
theorem dJ0_length_8abf5_5 : decode cJ0_length_8abf5 5 = .ok (.aload_n 0, 1) := by decide +kernel
theorem dJ0_length_8abf5_6 : decode cJ0_length_8abf5 6 = .ok (.invokevirtual 335, 3) := by decide +kernel
theorem dJ0_length_8abf5_9 : decode cJ0_length_8abf5 9 = .ok (.ishr, 1) := by decide +kernel
theorem dJ0_length_8abf5_10 : decode cJ0_length_8abf5 10 = .ok (.ireturn, 1) := by decide +kernel
theorem dJ0_isLatin1_aae02_0 : decode cJ0_isLatin1_aae02 0 = .ok (.getstatic 38, 3) := by decide +kernel
theorem dJ0_isLatin1_aae02_3 : decode cJ0_isLatin1_aae02 3 = .ok (.ifCond .eq 14, 3) := by decide +kernel
theorem dJ0_isLatin1_aae02_6 : decode cJ0_isLatin1_aae02 6 = .ok (.aload_n 0, 1) := by decide +kernel
theorem dJ0_isLatin1_aae02_7 : decode cJ0_isLatin1_aae02 7 = .ok (.getfield 15, 3) := by decide +kernel
theorem dJ0_isLatin1_aae02_10 : decode cJ0_isLatin1_aae02 10 = .ok (.ifCond .ne 7, 3) := by decide +kernel
theorem dJ0_isLatin1_aae02_13 : decode cJ0_isLatin1_aae02 13 = .ok (.iconst 1, 1) := by decide +kernel
theorem dJ0_isLatin1_aae02_14 : decode cJ0_isLatin1_aae02 14 = .ok (.goto 4, 3) := by decide +kernel
theorem dJ0_isLatin1_aae02_17 : decode cJ0_isLatin1_aae02 17 = .ok (.iconst 0, 1) := by decide +kernel
theorem dJ0_isLatin1_aae02_18 : decode cJ0_isLatin1_aae02 18 = .ok (.ireturn, 1) := by decide +kernel
theorem dJ3_checkIndex_8e157_0 : decode cJ3_checkIndex_8e157 0 = .ok (.iload_n 0, 1) := by decide +kernel
theorem dJ3_checkIndex_8e157_1 : decode cJ3_checkIndex_8e157 1 = .ok (.ifCond .lt 8, 3) := by decide +kernel
theorem dJ3_checkIndex_8e157_4 : decode cJ3_checkIndex_8e157 4 = .ok (.iload_n 0, 1) := by decide +kernel
theorem dJ3_checkIndex_8e157_5 : decode cJ3_checkIndex_8e157 5 = .ok (.iload_n 1, 1) := by decide +kernel
theorem dJ3_checkIndex_8e157_6 : decode cJ3_checkIndex_8e157 6 = .ok (.if_icmp .lt 10, 3) := by decide +kernel
theorem dJ3_checkIndex_8e157_9 : decode cJ3_checkIndex_8e157 9 = .ok (.aload_n 2, 1) := by decide +kernel
theorem dJ3_checkIndex_8e157_10 : decode cJ3_checkIndex_8e157 10 = .ok (.iload_n 0, 1) := by decide +kernel
theorem dJ3_checkIndex_8e157_11 : decode cJ3_checkIndex_8e157 11 = .ok (.iload_n 1, 1) := by decide +kernel
theorem dJ3_checkIndex_8e157_12 : decode cJ3_checkIndex_8e157 12 = .ok (.invokestatic 95, 3) := by decide +kernel
theorem dJ3_checkIndex_8e157_15 : decode cJ3_checkIndex_8e157 15 = .ok (.athrow, 1) := by decide +kernel
theorem dJ3_checkIndex_8e157_16 : decode cJ3_checkIndex_8e157 16 = .ok (.iload_n 0, 1) := by decide +kernel
theorem dJ3_checkIndex_8e157_17 : decode cJ3_checkIndex_8e157 17 = .ok (.ireturn, 1) := by decide +kernel
theorem dJ0_checkIndex_df160_0 : decode cJ0_checkIndex_df160 0 = .ok (.iload_n 0, 1) := by decide +kernel
theorem dJ0_checkIndex_df160_1 : decode cJ0_checkIndex_df160 1 = .ok (.iload_n 1, 1) := by decide +kernel
theorem dJ0_checkIndex_df160_2 : decode cJ0_checkIndex_df160 2 = .ok (.getstatic 1053, 3) := by decide +kernel
theorem dJ0_checkIndex_df160_5 : decode cJ0_checkIndex_df160 5 = .ok (.invokestatic 1059, 3) := by decide +kernel
theorem dJ0_checkIndex_df160_8 : decode cJ0_checkIndex_df160 8 = .ok (.pop, 1) := by decide +kernel
theorem dJ0_checkIndex_df160_9 : decode cJ0_checkIndex_df160 9 = .ok (.return_, 1) := by decide +kernel
theorem dJ1_charAt_3b067_0 : decode cJ1_charAt_3b067 0 = .ok (.iload_n 1, 1) := by decide +kernel
theorem dJ1_charAt_3b067_1 : decode cJ1_charAt_3b067 1 = .ok (.aload_n 0, 1) := by decide +kernel
theorem dJ1_charAt_3b067_2 : decode cJ1_charAt_3b067 2 = .ok (.arraylength, 1) := by decide +kernel
theorem dJ1_charAt_3b067_3 : decode cJ1_charAt_3b067 3 = .ok (.invokestatic 9, 3) := by decide +kernel
theorem dJ1_charAt_3b067_6 : decode cJ1_charAt_3b067 6 = .ok (.aload_n 0, 1) := by decide +kernel
theorem dJ1_charAt_3b067_7 : decode cJ1_charAt_3b067 7 = .ok (.iload_n 1, 1) := by decide +kernel
theorem dJ1_charAt_3b067_8 : decode cJ1_charAt_3b067 8 = .ok (.baload, 1) := by decide +kernel
theorem dJ1_charAt_3b067_9 : decode cJ1_charAt_3b067 9 = .ok (.sipush 255, 3) := by decide +kernel
theorem dJ1_charAt_3b067_12 : decode cJ1_charAt_3b067 12 = .ok (.iand, 1) := by decide +kernel
theorem dJ1_charAt_3b067_13 : decode cJ1_charAt_3b067 13 = .ok (.i2c, 1) := by decide +kernel
theorem dJ1_charAt_3b067_14 : decode cJ1_charAt_3b067 14 = .ok (.ireturn, 1) := by decide +kernel
theorem dJ0_charAt_5068e_0 : decode cJ0_charAt_5068e 0 = .ok (.aload_n 0, 1) := by decide +kernel
theorem dJ0_charAt_5068e_1 : decode cJ0_charAt_5068e 1 = .ok (.invokevirtual 492, 3) := by decide +kernel
theorem dJ0_charAt_5068e_4 : decode cJ0_charAt_5068e 4 = .ok (.ifCond .eq 12, 3) := by decide +kernel
theorem dJ0_charAt_5068e_7 : decode cJ0_charAt_5068e 7 = .ok (.aload_n 0, 1) := by decide +kernel
theorem dJ0_charAt_5068e_8 : decode cJ0_charAt_5068e 8 = .ok (.getfield 9, 3) := by decide +kernel
theorem dJ0_charAt_5068e_11 : decode cJ0_charAt_5068e 11 = .ok (.iload_n 1, 1) := by decide +kernel
theorem dJ0_charAt_5068e_12 : decode cJ0_charAt_5068e 12 = .ok (.invokestatic 495, 3) := by decide +kernel
theorem dJ0_charAt_5068e_15 : decode cJ0_charAt_5068e 15 = .ok (.ireturn, 1) := by decide +kernel
theorem dJ0_charAt_5068e_16 : decode cJ0_charAt_5068e 16 = .ok (.aload_n 0, 1) := by decide +kernel
theorem dJ0_charAt_5068e_17 : decode cJ0_charAt_5068e 17 = .ok (.getfield 9, 3) := by decide +kernel
theorem dJ0_charAt_5068e_20 : decode cJ0_charAt_5068e 20 = .ok (.iload_n 1, 1) := by decide +kernel
theorem dJ0_charAt_5068e_21 : decode cJ0_charAt_5068e 21 = .ok (.invokestatic 498, 3) := by decide +kernel
theorem dJ0_charAt_5068e_24 : decode cJ0_charAt_5068e 24 = .ok (.ireturn, 1) := by decide +kernel
theorem sp_J0_coder_7d493 {k n : Nat} {x : Wx} {Z : Zt} {Q : Option Value → Wx → Zt → Prop} {j : Nat × Nat × String} (hj : j ∈ strs) (h : Q (some (i_ 0)) x Z) : V mJ0_coder_7d493 k n 0 [some (r_ (x.2.2.2 j.1))] [] x Z Q :=
  V_getsK lf_J0_38 dJ0_coder_7d493_0 (V_if_eq (tgt := 13) dJ0_coder_7d493_3 rfl (rg_c rfl) (fun c => absurd c (by decide)) (fun _ => V_aload_n dJ0_coder_7d493_6 rfl (V_strC hj lf_J0_15 dJ0_coder_7d493_7 (V_goto (tgt := 14) dJ0_coder_7d493_10 rfl (V_iret (ty := .byte) dJ0_coder_7d493_14 rfl rfl h)))))
theorem sp_J0_length_8abf5 {k n : Nat} {x : Wx} {Z : Zt} {Q : Option Value → Wx → Zt → Prop} {j : Nat × Nat × String} (hj : j ∈ strs) (ks : KT x) (h : Q (some (i_ ((wd j.1).length : Int))) x Z) : V mJ0_length_8abf5 k n 0 [some (r_ (x.2.2.2 j.1))] [] x Z Q := by
  have hl := wd_len j.1
  have hsh : Int32.ofInt ((wd j.1).length : Int) >>> (Int32.ofInt 0 &&& 31) = Int32.ofInt ((wd j.1).length : Int) := by
    rw [shr_eq _ _ ⟨by omega, by omega⟩ (by decide) (by decide)]
    congr 1
    rw [show ((0 : Int).toNat) = 0 from rfl, Int.pow_zero, Int.ediv_one]
  exact V_aload_n dJ0_length_8abf5_0 rfl (V_strV hj lf_J0_9 dJ0_length_8abf5_1 (V_alen (t := 201) (ks j hj) (by decide) (by omega) dJ0_length_8abf5_4 (V_aload_n dJ0_length_8abf5_5 rfl (V_callSt (k' := 0) (n' := 0) (j := j) hj [] [i_ ((wd j.1).length : Int)] okJ0_coder_7d493 rfl lm_J0_335 liJ0_coder_7d493 lqJ0_coder_7d493 (Nat.le_of_ble_eq_true rfl) (Nat.le_of_ble_eq_true rfl) (Nat.le_of_ble_eq_true rfl) (cat_of rfl) (Nat.le_of_ble_eq_true rfl) (Nat.zero_le _) (Nat.zero_le _) rfl dJ0_length_8abf5_6 (sp_J0_coder_7d493 hj (V_ishr dJ0_length_8abf5_9 hsh (V_iret (ty := .int) dJ0_length_8abf5_10 rfl rfl h)))))))
theorem sp_J0_isLatin1_aae02 {k n : Nat} {x : Wx} {Z : Zt} {Q : Option Value → Wx → Zt → Prop} {j : Nat × Nat × String} (hj : j ∈ strs) (h : Q (some (i_ 1)) x Z) : V mJ0_isLatin1_aae02 k n 0 [some (r_ (x.2.2.2 j.1))] [] x Z Q :=
  V_getsK lf_J0_38 dJ0_isLatin1_aae02_0 (V_if_eq (tgt := 17) dJ0_isLatin1_aae02_3 rfl (rg_c rfl) (fun c => absurd c (by decide)) (fun _ => V_aload_n dJ0_isLatin1_aae02_6 rfl (V_strC hj lf_J0_15 dJ0_isLatin1_aae02_7 (V_if_ne (tgt := 17) dJ0_isLatin1_aae02_10 rfl (rg_c rfl) (fun c => absurd rfl c) (fun _ => V_iconst dJ0_isLatin1_aae02_13 (V_goto (tgt := 18) dJ0_isLatin1_aae02_14 rfl (V_iret (ty := .boolean) dJ0_isLatin1_aae02_18 rfl rfl h)))))))
theorem sp_J3_checkIndex_8e157 {k n : Nat} {x : Wx} {Z : Zt} {Q : Option Value → Wx → Zt → Prop} {i m : Int} {f : Value} (hi : 0 ≤ i ∧ i < m) (hm : m ≤ 5) (h : Q (some (i_ i)) x Z) : V mJ3_checkIndex_8e157 k n 0 [some (i_ i), some (i_ m), some f] [] x Z Q :=
  V_iload_n dJ3_checkIndex_8e157_0 rfl (V_if_lt (tgt := 9) dJ3_checkIndex_8e157_1 rfl ⟨by omega, by omega⟩ (fun c => by omega) (fun _ => V_iload_n dJ3_checkIndex_8e157_4 rfl (V_iload_n dJ3_checkIndex_8e157_5 rfl (V_icmp_lt (tgt := 16) dJ3_checkIndex_8e157_6 rfl ⟨by omega, by omega⟩ ⟨by omega, by omega⟩ (fun _ => V_iload_n dJ3_checkIndex_8e157_16 rfl (V_iret (ty := .int) dJ3_checkIndex_8e157_17 rfl rfl h)) (fun c => by omega)))))
theorem sp_J0_checkIndex_df160 {k n : Nat} {x : Wx} {Z : Zt} {Q : Option Value → Wx → Zt → Prop} {i m : Int} (hi : 0 ≤ i ∧ i < m) (hm : m ≤ 5) (h : Q none x Z) : V mJ0_checkIndex_df160 k n 0 [some (i_ i), some (i_ m)] [] x Z Q :=
  V_iload_n dJ0_checkIndex_df160_0 rfl (V_iload_n dJ0_checkIndex_df160_1 rfl (V_getsF lf_J0_1053 dJ0_checkIndex_df160_2 (fun fv hfv => V_callS (k' := 0) (n' := 0) [i_ i, i_ m, fv] [] okJ3_checkIndex_8e157 lm_J0_1059 lsJ3_checkIndex_8e157 (Nat.le_of_ble_eq_true rfl) (Nat.le_of_ble_eq_true rfl) (Nat.le_of_ble_eq_true rfl) (fun v hv => by simp only [List.mem_cons, List.not_mem_nil, or_false] at hv; rcases hv with rfl | rfl | rfl; rfl; rfl; exact hfv) (Nat.le_of_ble_eq_true rfl) (Nat.zero_le _) (Nat.zero_le _) rfl dJ0_checkIndex_df160_5 (sp_J3_checkIndex_8e157 hi hm (V_pop dJ0_checkIndex_df160_8 rfl (V_ret dJ0_checkIndex_df160_9 rfl h))))))
theorem sp_J1_charAt_3b067 {k n : Nat} {x : Wx} {Z : Zt} {Q : Option Value → Wx → Zt → Prop} {j : Nat × Nat × String} {i : Int} (hj : j ∈ strs) (ks : KT x) (ku : KU x Z) (hi : 0 ≤ i ∧ i < (wd j.1).length) (h : Q (some (i_ ((wd j.1).getD i.toNat 0))) x Z) : V mJ1_charAt_3b067 k n 0 [some (r_ (x.2.2.2 (j.1 + 10))), some (i_ i)] [] x Z Q := by
  have hl := wd_len j.1
  have hc := chr_ok (wd_rg j.1 i.toNat)
  refine V_iload_n dJ1_charAt_3b067_0 rfl (V_aload_n dJ1_charAt_3b067_1 rfl (V_alen (t := 201) (ks j hj) (by decide) (by omega) dJ1_charAt_3b067_2 (V_callS (k' := 0) (n' := 0) [i_ i, i_ ((wd j.1).length : Int)] [] okJ0_checkIndex_df160 lm_J1_9 lsJ0_checkIndex_df160 (Nat.le_of_ble_eq_true rfl) (Nat.le_of_ble_eq_true rfl) (Nat.le_of_ble_eq_true rfl) (cat_of rfl) (Nat.le_of_ble_eq_true rfl) (Nat.zero_le _) (Nat.zero_le _) rfl dJ1_charAt_3b067_3 (sp_J0_checkIndex_df160 hi (by omega) (V_aload_n dJ1_charAt_3b067_6 rfl (V_iload_n dJ1_charAt_3b067_7 rfl (V_bald (t := 201) (ks j hj) (by decide) rfl hi.1 hi.2 (by omega) dJ1_charAt_3b067_8 (V_sipush dJ1_charAt_3b067_9 rfl (V_iand dJ1_charAt_3b067_12 (and_255 _) (V_i2c (r := (wd j.1).getD i.toNat 0) dJ1_charAt_3b067_13 ?_ (V_iret (ty := .char) dJ1_charAt_3b067_14 rfl hc.2 h)))))))))))
  rw [ku j hj i.toNat (by omega)]
  exact hc.1
theorem sp_J0_charAt_5068e {k n : Nat} {x : Wx} {Z : Zt} {Q : Option Value → Wx → Zt → Prop} {j : Nat × Nat × String} {i : Int} (hj : j ∈ strs) (ks : KT x) (ku : KU x Z) (hi : 0 ≤ i ∧ i < (wd j.1).length) (h : Q (some (i_ ((wd j.1).getD i.toNat 0))) x Z) : V mJ0_charAt_5068e k n 0 [some (r_ (x.2.2.2 j.1)), some (i_ i)] [] x Z Q := by
  have hc := chr_ok (wd_rg j.1 i.toNat)
  exact V_aload_n dJ0_charAt_5068e_0 rfl (V_callSt (k' := 0) (n' := 0) (j := j) hj [] [] okJ0_isLatin1_aae02 rfl lm_J0_492 liJ0_isLatin1_aae02 lqJ0_isLatin1_aae02 (Nat.le_of_ble_eq_true rfl) (Nat.le_of_ble_eq_true rfl) (Nat.le_of_ble_eq_true rfl) (cat_of rfl) (Nat.le_of_ble_eq_true rfl) (Nat.zero_le _) (Nat.zero_le _) rfl dJ0_charAt_5068e_1 (sp_J0_isLatin1_aae02 hj (V_if_eq (tgt := 16) dJ0_charAt_5068e_4 rfl (rg_c rfl) (fun c => absurd c (by decide)) (fun _ => V_aload_n dJ0_charAt_5068e_7 rfl (V_strV hj lf_J0_9 dJ0_charAt_5068e_8 (V_iload_n dJ0_charAt_5068e_11 rfl (V_callS (k' := 0) (n' := 0) [r_ (x.2.2.2 (j.1 + 10)), i_ i] [] okJ1_charAt_3b067 lm_J0_495 lsJ1_charAt_3b067 (Nat.le_of_ble_eq_true rfl) (Nat.le_of_ble_eq_true rfl) (Nat.le_of_ble_eq_true rfl) (cat_of rfl) (Nat.le_of_ble_eq_true rfl) (Nat.zero_le _) (Nat.zero_le _) rfl dJ0_charAt_5068e_12 (sp_J1_charAt_3b067 hj ks ku hi (V_iret (ty := .char) dJ0_charAt_5068e_15 rfl hc.2 h))))))))) 
