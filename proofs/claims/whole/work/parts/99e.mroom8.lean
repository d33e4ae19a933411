/-! ===== the reference: room, base, under, gap ===== -/
theorem mSl_ok {p : Int} (hp : IsP p) {F : Nat → Int} {fr : Int} {O D : Nat → Int} (hm : 0 ≤ mMo p F fr O D) : SvI p (mMo p F fr O D).toNat (mRw p F O D (mMo p F fr O D)).2 ((mMo p F fr O D).toNat + 1) (mSl p F fr O D) ∧ EI p (gen F).toNat (mMo p F fr O D).toNat (mRw p F O D (mMo p F fr O D)).2 ((mMo p F fr O D).toNat + 1) (mSl p F fr O D) := by
  have hpr := hp.rg
  have hK : LqK p (gen F).toNat (mMo p F fr O D) (mRw p F O D (mMo p F fr O D)) := mRx_k (by omega) hm _ _ _ (fun q i => ⟨by show (0 : Int) ≤ 0 ∧ 0 < p; omega, fun _ => rfl, fun _ => rfl⟩)
  unfold mSl
  generalize (mMo p F fr O D).toNat = po
  generalize mRw p F O D (mMo p F fr O D) = W at hK
  have h1 : ∀ c : Nat, SvI p po W.2 c (slvN p (gen F).toNat po W.2 W.1 c) := by
    intro c
    induction c with
    | zero => exact ⟨fun i _ j _ => (hK i j).1, Nat.zero_le _, Nat.le_refl _, fun j hj => absurd hj (Nat.not_lt_zero j), fun i hi => absurd hi (Nat.not_lt_zero i)⟩
    | succ c ih => exact ih.st (by omega)
  have h2 : ∀ c : Nat, c ≤ po + 1 → EI p (gen F).toNat po W.2 c (slvN p (gen F).toNat po W.2 W.1 c) := by
    intro c
    induction c with
    | zero => intro _; exact ⟨fun i _ j _ => (hK i j).1, Nat.zero_le _, fun i _ _ j hj _ => absurd hj (Nat.not_lt_zero j), fun i _ j _ hn => (hK i j).2.2 hn, Nat.le_refl _, Nat.le_refl _⟩
    | succ c ih => intro hc; exact (ih (by omega)).st hp (by omega)
  exact ⟨h1 _, h2 _ (Nat.le_refl _)⟩
theorem mRm_le {p : Int} (hp : IsP p) {F : Nat → Int} {fr : Int} {O D : Nat → Int} (hk : RmK p F fr O D) : mRm p F fr O D ≤ 96 := by
  unfold mRm
  split
  · exact Nat.zero_le _
  · have h := (mSl_ok hp (F := F) (fr := fr) (O := O) (D := D) (by omega)).2.2.2.2.2.1
    have e : mMo p F fr O D = fr + 2 * ((mUn p F O D).1 : Int) := rfl
    have := hk.2.2.1
    have := hk.2.2.2.1
    omega
def mBa (p : Int) (w : Sv) (a j : Int) : Int := if j = w.2.2.2.1 a.toNat then 1 else if 0 ≤ w.2.2.1 j.toNat then (-(w.1 (w.2.2.1 j.toNat).toNat (w.2.2.2.1 a.toNat).toNat)) % p else 0
theorem sp_X12_baseAt {k n : Nat} {x : Wx} {Z : Zt} {Q : Option Value → Wx → Zt → Prop} {b : Nat} {a j : Int} (o : Is12 x b) {p fr : Int} {F O D : Nat → Int} (hF : MF Z b p F) (hk : RmK p F fr O D) (hR : RMs Z b p F fr O D) (ha : 0 ≤ a ∧ a < (mRm p F fr O D : Int)) (hj : 0 ≤ j ∧ j ≤ mMo p F fr O D) (h : Q (some (i_ (mBa p (mSl p F fr O D) a j))) x Z) : V mX12_baseAt k n 0 [some (r_ b), some (i_ a), some (i_ j)] [] x Z Q := by
  have hp := hF.2.1.1
  have hpr := hp.rg
  have b11 := hF.1.1.1
  have hm : 0 ≤ mMo p F fr O D := by omega
  obtain ⟨hsv, hei⟩ := mSl_ok hp (F := F) (fr := fr) (O := O) (D := D) hm
  obtain ⟨hU, h24, h28, hS⟩ := hR
  have hr100 := hk.2.2.2.2 hm
  have hmo : mMo p F fr O D ≤ 95 := by
    have e : mMo p F fr O D = fr + 2 * ((mUn p F O D).1 : Int) := rfl
    have := hk.2.2.1
    have := hk.2.2.2.1
    omega
  have hrm : mRm p F fr O D = (mSl p F fr O D).2.2.2.2 := by unfold mRm; rw [if_neg (by omega)]
  have hS := hS hm
  rw [hrm] at ha
  generalize mSl p F fr O D = w at hsv hei hS h ha
  generalize hpo : (mMo p F fr O D).toNat = po at hsv hei hS
  generalize (mRw p F O D (mMo p F fr O D)).2 = u at hsv hei hS hr100
  obtain ⟨⟨N, hN, hNM⟩, s28, s14, s15⟩ := hS
  obtain ⟨_, v2, v3, v4, v5⟩ := hsv
  obtain ⟨r1, r2, r3, r4, r5, r6⟩ := hei
  obtain ⟨a', rfl⟩ : ∃ a' : Nat, a = (a' : Int) := ⟨a.toNat, by omega⟩
  obtain ⟨j', rfl⟩ : ∃ j' : Nat, j = (j' : Int) := ⟨j.toNat, by omega⟩
  unfold mBa at h
  rw [Int.toNat_natCast, Int.toNat_natCast] at h
  have ha' : a' < w.2.2.2.2 := by omega
  have hl := v5 a' ha'
  have hv := v4 j' (by omega)
  have e15 := s15 a' ha'
  have e14 := s14 j' (by omega)
  refine b_X12_baseAt_0 o ?_
  rw [Int.toNat_natCast, Int.toNat_natCast, e15, e14, b11]
  have hpv : pvN (w.2.2.1 j') = if w.2.2.1 j' < 0 then -1 else w.2.2.1 j' := rfl
  rw [hpv]
  refine ⟨by omega, by omega, ⟨by omega, by omega⟩, ⟨by omega, by omega⟩, fun c1 => ⟨by omega, by omega, ?_⟩, fun c1 => ?_⟩
  · rw [if_neg c1] at h
    by_cases c2 : w.2.2.1 j' < 0
    · rw [if_pos c2]
      rw [if_neg (by omega)] at h
      exact ⟨⟨by decide, by decide⟩, fun _ => h, fun c3 => absurd c3 (by decide)⟩
    · rw [if_neg c2]
      rw [if_pos (by omega)] at h
      obtain ⟨q, hq⟩ : ∃ q : Nat, w.2.2.1 j' = (q : Int) := ⟨(w.2.2.1 j').toNat, by omega⟩
      obtain ⟨l, hll⟩ : ∃ l : Nat, w.2.2.2.1 a' = (l : Int) := ⟨(w.2.2.2.1 a').toNat, by omega⟩
      rw [hq, hll, Int.toNat_natCast, Int.toNat_natCast] at h
      rw [hq, hll]
      have e : Z (b + 13) (96 * (q : Int) + (l : Int)).toNat = w.1 q l := by rw [show (96 * (q : Int) + (l : Int)).toNat = 96 * q + l from by omega, hN q l (by omega) (by omega), hNM q l (by omega) (by omega), if_pos (by omega)]
      have hr := r1 q (by omega) l (by omega)
      rw [e]
      exact ⟨⟨by omega, by omega⟩, fun c3 => by omega, fun _ => ⟨by omega, by omega, ⟨by omega, by omega⟩, by omega, by omega, h⟩⟩
  · rw [if_pos c1] at h; exact h
theorem dX12_room_0 : decode cX12_room 0 = .ok (.iload_n 3, 1) := by decide +kernel
theorem dX12_room_1 : decode cX12_room 1 = .ok (.iconst 0, 1) := by decide +kernel
theorem dX12_room_2 : decode cX12_room 2 = .ok (.iconst 3, 1) := by decide +kernel
theorem dX12_room_3 : decode cX12_room 3 = .ok (.invokestatic 129, 3) := by decide +kernel
theorem dX12_room_6 : decode cX12_room 6 = .ok (.ifCond .eq 12, 3) := by decide +kernel
theorem dX12_room_9 : decode cX12_room 9 = .ok (.aload_n 0, 1) := by decide +kernel
theorem dX12_room_10 : decode cX12_room 10 = .ok (.iload_n 1, 1) := by decide +kernel
theorem dX12_room_11 : decode cX12_room 11 = .ok (.iload_n 2, 1) := by decide +kernel
theorem dX12_room_12 : decode cX12_room 12 = .ok (.invokevirtual 345, 3) := by decide +kernel
theorem dX12_room_15 : decode cX12_room 15 = .ok (.ifCond .ne 7, 3) := by decide +kernel
theorem dX12_room_18 : decode cX12_room 18 = .ok (.sipush (-1000), 3) := by decide +kernel
theorem dX12_room_21 : decode cX12_room 21 = .ok (.ireturn, 1) := by decide +kernel
theorem dX12_room_22 : decode cX12_room 22 = .ok (.iload_n 3, 1) := by decide +kernel
theorem dX12_room_23 : decode cX12_room 23 = .ok (.ifCond .ne 8, 3) := by decide +kernel
theorem dX12_room_26 : decode cX12_room 26 = .ok (.aload_n 0, 1) := by decide +kernel
theorem dX12_room_27 : decode cX12_room 27 = .ok (.invokevirtual 348, 3) := by decide +kernel
theorem dX12_room_30 : decode cX12_room 30 = .ok (.ireturn, 1) := by decide +kernel
theorem dX12_room_31 : decode cX12_room 31 = .ok (.iload_n 3, 1) := by decide +kernel
theorem dX12_room_32 : decode cX12_room 32 = .ok (.iconst 2, 1) := by decide +kernel
theorem dX12_room_33 : decode cX12_room 33 = .ok (.if_icmp .ne 28, 3) := by decide +kernel
theorem dX12_room_36 : decode cX12_room 36 = .ok (.aload_n 0, 1) := by decide +kernel
theorem dX12_room_37 : decode cX12_room 37 = .ok (.iload_n 2, 1) := by decide +kernel
theorem dX12_room_38 : decode cX12_room 38 = .ok (.iconst (-1), 1) := by decide +kernel
theorem dX12_room_39 : decode cX12_room 39 = .ok (.invokevirtual 300, 3) := by decide +kernel
theorem dX12_room_42 : decode cX12_room 42 = .ok (.istore 4, 2) := by decide +kernel
theorem dX12_room_44 : decode cX12_room 44 = .ok (.aload_n 0, 1) := by decide +kernel
theorem dX12_room_45 : decode cX12_room 45 = .ok (.dup, 1) := by decide +kernel
theorem dX12_room_46 : decode cX12_room 46 = .ok (.getfield 294, 3) := by decide +kernel
theorem dX12_room_49 : decode cX12_room 49 = .ok (.iconst 2, 1) := by decide +kernel
theorem dX12_room_50 : decode cX12_room 50 = .ok (.aload_n 0, 1) := by decide +kernel
theorem dX12_room_51 : decode cX12_room 51 = .ok (.getfield 221, 3) := by decide +kernel
theorem dX12_room_54 : decode cX12_room 54 = .ok (.imul, 1) := by decide +kernel
theorem dX12_room_55 : decode cX12_room 55 = .ok (.iconst 2, 1) := by decide +kernel
theorem dX12_room_56 : decode cX12_room 56 = .ok (.isub, 1) := by decide +kernel
theorem dX12_room_57 : decode cX12_room 57 = .ok (.iadd, 1) := by decide +kernel
theorem dX12_room_58 : decode cX12_room 58 = .ok (.putfield 294, 3) := by decide +kernel
theorem dX12_room_61 : decode cX12_room 61 = .ok (.aload_n 0, 1) := by decide +kernel
theorem dX12_room_62 : decode cX12_room 62 = .ok (.invokevirtual 351, 3) := by decide +kernel
theorem dX12_room_65 : decode cX12_room 65 = .ok (.pop, 1) := by decide +kernel
theorem dX12_room_66 : decode cX12_room 66 = .ok (.iload_n 3, 1) := by decide +kernel
theorem dX12_room_67 : decode cX12_room 67 = .ok (.iconst 3, 1) := by decide +kernel
theorem dX12_room_68 : decode cX12_room 68 = .ok (.if_icmp .ne 10, 3) := by decide +kernel
theorem dX12_room_71 : decode cX12_room 71 = .ok (.aload_n 0, 1) := by decide +kernel
theorem dX12_room_72 : decode cX12_room 72 = .ok (.getfield 303, 3) := by decide +kernel
theorem dX12_room_75 : decode cX12_room 75 = .ok (.goto 7, 3) := by decide +kernel
theorem dX12_room_78 : decode cX12_room 78 = .ok (.aload_n 0, 1) := by decide +kernel
theorem dX12_room_79 : decode cX12_room 79 = .ok (.getfield 324, 3) := by decide +kernel
theorem dX12_room_82 : decode cX12_room 82 = .ok (.ireturn, 1) := by decide +kernel
set_option maxRecDepth 20000 in
theorem b_X12_room_0 {k n : Nat} {x : Wx} {Z : Zt} {Q : Option Value → Wx → Zt → Prop} {a0 : Nat} {v1 : Int} {v2 : Int} {v3 : Int} (o_a0 : Is12 x a0)
    (h : (Rg v3 ∧ Rg (0 : Int) ∧ Rg (3 : Int)) ∧ (∀ (r1 : Int), (((r1 = 1 ∧ (0 : Int) ≤ v3 ∧ v3 ≤ (3 : Int)) ∨ (r1 = 0 ∧ (v3 < (0 : Int) ∨ (3 : Int) < v3)))) → (Rg r1 ∧ (((r1 = 0) → (V mX12_room k n 18 [none, none, none, none, none] [] x Z Q)) ∧ ((r1 ≠ 0) → (∃ g1 : Td, (MT (Z (a0 + 1)) g1 ∧ TdV g1 ∧ Rg v1 ∧ Rg v2 ∧ (∀ (Z'1 : Zt) (r2 : Int), (AsK a0 g1 v1 v2 Z Z'1 r2) → (Rg r2 ∧ (((r2 ≠ 0) → (Rg v3 ∧ (((v3 ≠ 0) → (((v3 ≠ 2) → (V mX12_room k n 61 [some (r_ a0), none, none, some (i_ v3), none] [] x Z'1 Q)) ∧ ((v3 = 2) → (∃ g2 : Td, (∃ g3 : Int, (∃ g4 : Nat → Int, (MT (Z'1 (a0 + 1)) g2 ∧ TdV g2 ∧ MF Z'1 a0 g3 g4 ∧ Rg v2 ∧ ((-1 : Int) = 1 ∨ (-1 : Int) = -1) ∧ (∀ (Z'2 : Zt) (r3 : Int), (TkS a0 g2 g3 g4 v2 (-1 : Int) Z'1 Z'2 r3) → (∀ Z1 : Zt, Z1 = up Z'2 a0 21 ((Z'2 a0 21) + ((2 * (Z'2 a0 12)) - 2)) → (V mX12_room k n 61 [some (r_ a0), none, none, some (i_ v3), none] [] x Z1 Q)))))))))) ∧ ((v3 = 0) → (∃ g5 : Int, (∃ g6 : Nat → Int, (∃ g7 : Nat → Int, (MSq Z'1 a0 g5 g6 g7 ∧ (Q (some (i_ (g5 + smT 169 g6))) x Z'1))))))))) ∧ ((r2 = 0) → (V mX12_room k n 18 [none, none, none, none, none] [] x Z'1 Q)))))))))))) :
    V mX12_room k n 0 [some (r_ a0), some (i_ v1), some (i_ v2), some (i_ v3), none] [] x Z Q :=
  V_iload_n dX12_room_0 rfl (V_iconst dX12_room_1 (V_iconst dX12_room_2 (V_callS (k' := 0) (n' := 0) [i_ v3, i_ 0, i_ 3] [] okX12_isIn lm_12_129 lsX12_isIn (Nat.le_of_ble_eq_true rfl) (Nat.le_of_ble_eq_true rfl) (Nat.le_of_ble_eq_true rfl) (cat_of rfl) (Nat.le_of_ble_eq_true rfl) (Nat.zero_le _) (Nat.zero_le _) rfl dX12_room_3 (sp_X12_isIn  h.1 (fun r1 p1 => V_if_eq (tgt := 18) dX12_room_6 rfl (h.2 r1 p1).1 (fun c1 => V_msk [false, false, false, false, false] rfl ((h.2 r1 p1).2.1 c1)) (fun c1 => V_aload_n dX12_room_9 rfl (V_iload_n dX12_room_10 rfl (V_iload_n dX12_room_11 rfl (Exists.elim ((h.2 r1 p1).2.2 c1) (fun g1 w1 => V_callV (k' := 0) (n' := 0) (t := 12) (q := (RX12, TX12, 46)) [i_ v1, i_ v2] [] okX12_isAsked o_a0.1 rfl rfl lm_12_345 liX12_isAsked lqX12_isAsked (Nat.le_of_ble_eq_true rfl) (Nat.le_of_ble_eq_true rfl) (Nat.le_of_ble_eq_true rfl) (cat_of rfl) (Nat.le_of_ble_eq_true rfl) (Nat.zero_le _) (Nat.zero_le _) rfl dX12_room_12 (sp_X12_isAsked o_a0 w1.1 w1.2.1 w1.2.2.1 w1.2.2.2.1 (fun Z'1 r2 p2 => V_if_ne (tgt := 22) dX12_room_15 rfl (w1.2.2.2.2 Z'1 r2 p2).1 (fun c2 => V_iload_n dX12_room_22 rfl (V_if_ne (tgt := 31) dX12_room_23 rfl ((w1.2.2.2.2 Z'1 r2 p2).2.1 c2).1 (fun c3 => V_iload_n dX12_room_31 rfl (V_iconst dX12_room_32 (V_icmp_ne (tgt := 61) dX12_room_33 rfl ((w1.2.2.2.2 Z'1 r2 p2).2.1 c2).1 (rg_c rfl) (fun c4 => V_msk [true, false, false, true, false] rfl ((((w1.2.2.2.2 Z'1 r2 p2).2.1 c2).2.1 c3).1 c4)) (fun c4 => V_aload_n dX12_room_36 rfl (V_iload_n dX12_room_37 rfl (V_iconst dX12_room_38 (Exists.elim ((((w1.2.2.2.2 Z'1 r2 p2).2.1 c2).2.1 c3).2 c4) (fun g2 w2 => Exists.elim w2 (fun g3 w3 => Exists.elim w3 (fun g4 w4 => V_callV (k' := 0) (n' := 0) (t := 12) (q := (RX12, TX12, 46)) [i_ v2, i_ (-1)] [] okX12_takesSum o_a0.1 rfl rfl lm_12_300 liX12_takesSum lqX12_takesSum (Nat.le_of_ble_eq_true rfl) (Nat.le_of_ble_eq_true rfl) (Nat.le_of_ble_eq_true rfl) (cat_of rfl) (Nat.le_of_ble_eq_true rfl) (Nat.zero_le _) (Nat.zero_le _) rfl dX12_room_39 (sp_X12_takesSum o_a0 w4.1 w4.2.1 w4.2.2.1 w4.2.2.2.1 w4.2.2.2.2.1 (fun Z'2 r3 p3 => V_istore (lv' := [some (r_ a0), some (i_ v1), some (i_ v2), some (i_ v3), some (i_ r3)]) dX12_room_42 (Nat.le_of_ble_eq_true rfl) rfl (V_aload_n dX12_room_44 rfl (V_dup dX12_room_45 rfl (G_12_21 o_a0.1 lf_12_294 dX12_room_46 (V_iconst dX12_room_49 (V_aload_n dX12_room_50 rfl (G_12_12 o_a0.1 lf_12_221 dX12_room_51 (V_imul dX12_room_54 (V_iconst dX12_room_55 (V_isub dX12_room_56 (V_iadd dX12_room_57 (P_12_21 o_a0.1 lf_12_294 dX12_room_58 (V_nmZ (fun Z1 eZ1 => V_msk [true, false, false, true, false] rfl ((w4.2.2.2.2.2 Z'2 r3 p3) Z1 eZ1)))))))))))))))))))))))))) (fun c3 => V_aload_n dX12_room_26 rfl (Exists.elim (((w1.2.2.2.2 Z'1 r2 p2).2.1 c2).2.2 c3) (fun g5 w5 => Exists.elim w5 (fun g6 w6 => Exists.elim w6 (fun g7 w7 => V_callV (k' := 0) (n' := 0) (t := 12) (q := (RX12, TX12, 46)) [] [] okX12_degree o_a0.1 rfl rfl lm_12_348 liX12_degree lqX12_degree (Nat.le_of_ble_eq_true rfl) (Nat.le_of_ble_eq_true rfl) (Nat.le_of_ble_eq_true rfl) (cat_of rfl) (Nat.le_of_ble_eq_true rfl) (Nat.zero_le _) (Nat.zero_le _) rfl dX12_room_27 (sp_X12_degree o_a0 w7.1 (V_iret (ty := .int) dX12_room_30 rfl rfl w7.2))))))))) (fun c2 => V_msk [false, false, false, false, false] rfl ((w1.2.2.2.2 Z'1 r2 p2).2.2 c2))))))))))))))
set_option maxRecDepth 20000 in
theorem b_X12_room_18 {k n : Nat} {x : Wx} {Z : Zt} {Q : Option Value → Wx → Zt → Prop}  
    (h : Q (some (i_ (-1000))) x Z) :
    V mX12_room k n 18 [none, none, none, none, none] [] x Z Q :=
  V_sipush dX12_room_18 rfl (V_iret (ty := .int) dX12_room_21 rfl rfl h)
set_option maxRecDepth 20000 in
theorem b_X12_room_61 {k n : Nat} {x : Wx} {Z : Zt} {Q : Option Value → Wx → Zt → Prop} {a0 : Nat} {v3 : Int} (o_a0 : Is12 x a0)
    (h : ∃ g1 : Int, (∃ g2 : Int, (∃ g3 : Nat → Int, (∃ g4 : Nat → Int, (∃ g5 : Nat → Int, (MF Z a0 g1 g3 ∧ MSq Z a0 g2 g4 g5 ∧ RmK g1 g3 g2 g4 g5 ∧ (∀ (Z'1 : Zt), (RMs Z'1 a0 g1 g3 g2 g4 g5 ∧ RmF a0 Z Z'1) → (Rg v3 ∧ (((v3 ≠ 3) → (Q (some (i_ (Z'1 a0 28))) x Z'1)) ∧ ((v3 = 3) → (Q (some (i_ (Z'1 a0 23))) x Z'1))))))))))) :
    V mX12_room k n 61 [some (r_ a0), none, none, some (i_ v3), none] [] x Z Q :=
  V_aload_n dX12_room_61 rfl (Exists.elim h (fun g1 w1 => Exists.elim w1 (fun g2 w2 => Exists.elim w2 (fun g3 w3 => Exists.elim w3 (fun g4 w4 => Exists.elim w4 (fun g5 w5 => V_callV (k' := 0) (n' := 0) (t := 12) (q := (RX12, TX12, 46)) [] [] okX12_rooms o_a0.1 rfl rfl lm_12_351 liX12_rooms lqX12_rooms (Nat.le_of_ble_eq_true rfl) (Nat.le_of_ble_eq_true rfl) (Nat.le_of_ble_eq_true rfl) (cat_of rfl) (Nat.le_of_ble_eq_true rfl) (Nat.zero_le _) (Nat.zero_le _) rfl dX12_room_62 (sp_X12_rooms o_a0 w5.1 w5.2.1 w5.2.2.1 (fun Z'1 p1 => V_pop dX12_room_65 rfl (V_iload_n dX12_room_66 rfl (V_iconst dX12_room_67 (V_icmp_ne (tgt := 78) dX12_room_68 rfl (w5.2.2.2 Z'1 p1).1 (rg_c rfl) (fun c1 => V_aload_n dX12_room_78 rfl (G_12_28 o_a0.1 lf_12_324 dX12_room_79 (V_iret (ty := .int) dX12_room_82 rfl rfl ((w5.2.2.2 Z'1 p1).2.1 c1)))) (fun c1 => V_aload_n dX12_room_71 rfl (G_12_23 o_a0.1 lf_12_303 dX12_room_72 (V_goto (tgt := 82) dX12_room_75 rfl (V_iret (ty := .int) dX12_room_82 rfl rfl ((w5.2.2.2 Z'1 p1).2.2 c1))))))))))))))))
theorem dX12_base_0 : decode cX12_base 0 = .ok (.iload 5, 2) := by decide +kernel
theorem dX12_base_2 : decode cX12_base 2 = .ok (.ifCond .lt 33, 3) := by decide +kernel
theorem dX12_base_5 : decode cX12_base 5 = .ok (.iload 5, 2) := by decide +kernel
theorem dX12_base_7 : decode cX12_base 7 = .ok (.bipush 99, 2) := by decide +kernel
theorem dX12_base_9 : decode cX12_base 9 = .ok (.if_icmp .gt 26, 3) := by decide +kernel
theorem dX12_base_12 : decode cX12_base 12 = .ok (.aload_n 0, 1) := by decide +kernel
theorem dX12_base_13 : decode cX12_base 13 = .ok (.iload_n 1, 1) := by decide +kernel
theorem dX12_base_14 : decode cX12_base 14 = .ok (.iload_n 2, 1) := by decide +kernel
theorem dX12_base_15 : decode cX12_base 15 = .ok (.invokevirtual 345, 3) := by decide +kernel
theorem dX12_base_18 : decode cX12_base 18 = .ok (.ifCond .eq 17, 3) := by decide +kernel
theorem dX12_base_21 : decode cX12_base 21 = .ok (.iload_n 3, 1) := by decide +kernel
theorem dX12_base_22 : decode cX12_base 22 = .ok (.iconst 0, 1) := by decide +kernel
theorem dX12_base_23 : decode cX12_base 23 = .ok (.aload_n 0, 1) := by decide +kernel
theorem dX12_base_24 : decode cX12_base 24 = .ok (.invokevirtual 351, 3) := by decide +kernel
theorem dX12_base_27 : decode cX12_base 27 = .ok (.iconst 1, 1) := by decide +kernel
theorem dX12_base_28 : decode cX12_base 28 = .ok (.isub, 1) := by decide +kernel
theorem dX12_base_29 : decode cX12_base 29 = .ok (.invokestatic 129, 3) := by decide +kernel
theorem dX12_base_32 : decode cX12_base 32 = .ok (.ifCond .ne 5, 3) := by decide +kernel
theorem dX12_base_35 : decode cX12_base 35 = .ok (.iconst (-1), 1) := by decide +kernel
theorem dX12_base_36 : decode cX12_base 36 = .ok (.ireturn, 1) := by decide +kernel
theorem dX12_base_37 : decode cX12_base 37 = .ok (.iload 4, 2) := by decide +kernel
theorem dX12_base_39 : decode cX12_base 39 = .ok (.ifCond .eq 19, 3) := by decide +kernel
theorem dX12_base_42 : decode cX12_base 42 = .ok (.iconst 2, 1) := by decide +kernel
theorem dX12_base_43 : decode cX12_base 43 = .ok (.iload 5, 2) := by decide +kernel
theorem dX12_base_45 : decode cX12_base 45 = .ok (.imul, 1) := by decide +kernel
theorem dX12_base_46 : decode cX12_base 46 = .ok (.iconst 2, 1) := by decide +kernel
theorem dX12_base_47 : decode cX12_base 47 = .ok (.aload_n 0, 1) := by decide +kernel
theorem dX12_base_48 : decode cX12_base 48 = .ok (.getfield 221, 3) := by decide +kernel
theorem dX12_base_51 : decode cX12_base 51 = .ok (.imul, 1) := by decide +kernel
theorem dX12_base_52 : decode cX12_base 52 = .ok (.iadd, 1) := by decide +kernel
theorem dX12_base_53 : decode cX12_base 53 = .ok (.iconst 1, 1) := by decide +kernel
theorem dX12_base_54 : decode cX12_base 54 = .ok (.iadd, 1) := by decide +kernel
theorem dX12_base_55 : decode cX12_base 55 = .ok (.goto 7, 3) := by decide +kernel
theorem dX12_base_58 : decode cX12_base 58 = .ok (.iconst 2, 1) := by decide +kernel
theorem dX12_base_59 : decode cX12_base 59 = .ok (.iload 5, 2) := by decide +kernel
theorem dX12_base_61 : decode cX12_base 61 = .ok (.imul, 1) := by decide +kernel
theorem dX12_base_62 : decode cX12_base 62 = .ok (.istore 6, 2) := by decide +kernel
theorem dX12_base_64 : decode cX12_base 64 = .ok (.iload 6, 2) := by decide +kernel
theorem dX12_base_66 : decode cX12_base 66 = .ok (.aload_n 0, 1) := by decide +kernel
theorem dX12_base_67 : decode cX12_base 67 = .ok (.getfield 306, 3) := by decide +kernel
theorem dX12_base_70 : decode cX12_base 70 = .ok (.if_icmp .gt 13, 3) := by decide +kernel
theorem dX12_base_73 : decode cX12_base 73 = .ok (.aload_n 0, 1) := by decide +kernel
theorem dX12_base_74 : decode cX12_base 74 = .ok (.iload_n 3, 1) := by decide +kernel
theorem dX12_base_75 : decode cX12_base 75 = .ok (.iload 6, 2) := by decide +kernel
theorem dX12_base_77 : decode cX12_base 77 = .ok (.invokevirtual 354, 3) := by decide +kernel
theorem dX12_base_80 : decode cX12_base 80 = .ok (.goto 4, 3) := by decide +kernel
theorem dX12_base_83 : decode cX12_base 83 = .ok (.iconst (-1), 1) := by decide +kernel
theorem dX12_base_84 : decode cX12_base 84 = .ok (.ireturn, 1) := by decide +kernel
set_option maxRecDepth 20000 in
theorem b_X12_base_0 {k n : Nat} {x : Wx} {Z : Zt} {Q : Option Value → Wx → Zt → Prop} {a0 : Nat} {v1 : Int} {v2 : Int} {v3 : Int} {v4 : Int} {v5 : Int} (o_a0 : Is12 x a0)
    (h : Rg v5 ∧ (((v5 < 0) → (V mX12_base k n 35 [none, none, none, none, none, none, none] [] x Z Q)) ∧ ((0 ≤ v5) → (((99 < v5) → (V mX12_base k n 35 [none, none, none, none, none, none, none] [] x Z Q)) ∧ ((v5 ≤ 99) → (∃ g1 : Td, (MT (Z (a0 + 1)) g1 ∧ TdV g1 ∧ Rg v1 ∧ Rg v2 ∧ (∀ (Z'1 : Zt) (r1 : Int), (AsK a0 g1 v1 v2 Z Z'1 r1) → (Rg r1 ∧ (((r1 = 0) → (V mX12_base k n 35 [none, none, none, none, none, none, none] [] x Z'1 Q)) ∧ ((r1 ≠ 0) → (∃ g2 : Int, (∃ g3 : Int, (∃ g4 : Nat → Int, (∃ g5 : Nat → Int, (∃ g6 : Nat → Int, (MF Z'1 a0 g2 g4 ∧ MSq Z'1 a0 g3 g5 g6 ∧ RmK g2 g4 g3 g5 g6 ∧ (∀ (Z'2 : Zt), (RMs Z'2 a0 g2 g4 g3 g5 g6 ∧ RmF a0 Z'1 Z'2) → ((Rg v3 ∧ Rg (0 : Int) ∧ Rg ((mRm g2 g4 g3 g5 g6 : Int) - 1)) ∧ (∀ (r2 : Int), (((r2 = 1 ∧ (0 : Int) ≤ v3 ∧ v3 ≤ ((mRm g2 g4 g3 g5 g6 : Int) - 1)) ∨ (r2 = 0 ∧ (v3 < (0 : Int) ∨ ((mRm g2 g4 g3 g5 g6 : Int) - 1) < v3)))) → (Rg r2 ∧ (((r2 ≠ 0) → (Rg v4 ∧ (((v4 = 0) → (V mX12_base k n 62 [some (r_ a0), none, none, some (i_ v3), none, none, none] [i_ (2 * v5)] x Z'2 Q)) ∧ ((v4 ≠ 0) → (V mX12_base k n 62 [some (r_ a0), none, none, some (i_ v3), none, none, none] [i_ (((2 * v5) + (2 * (Z'2 a0 12))) + 1)] x Z'2 Q))))) ∧ ((r2 = 0) → (V mX12_base k n 35 [none, none, none, none, none, none, none] [] x Z'2 Q)))))))))))))))))))))))) :
    V mX12_base k n 0 [some (r_ a0), some (i_ v1), some (i_ v2), some (i_ v3), some (i_ v4), some (i_ v5), none] [] x Z Q :=
  V_iload dX12_base_0 rfl (V_if_lt (tgt := 35) dX12_base_2 rfl h.1 (fun c1 => V_msk [false, false, false, false, false, false, false] rfl (h.2.1 c1)) (fun c1 => V_iload dX12_base_5 rfl (V_bipush dX12_base_7 rfl (V_icmp_gt (tgt := 35) dX12_base_9 rfl h.1 (rg_c rfl) (fun c2 => V_msk [false, false, false, false, false, false, false] rfl ((h.2.2 c1).1 c2)) (fun c2 => V_aload_n dX12_base_12 rfl (V_iload_n dX12_base_13 rfl (V_iload_n dX12_base_14 rfl (Exists.elim ((h.2.2 c1).2 c2) (fun g1 w1 => V_callV (k' := 0) (n' := 0) (t := 12) (q := (RX12, TX12, 46)) [i_ v1, i_ v2] [] okX12_isAsked o_a0.1 rfl rfl lm_12_345 liX12_isAsked lqX12_isAsked (Nat.le_of_ble_eq_true rfl) (Nat.le_of_ble_eq_true rfl) (Nat.le_of_ble_eq_true rfl) (cat_of rfl) (Nat.le_of_ble_eq_true rfl) (Nat.zero_le _) (Nat.zero_le _) rfl dX12_base_15 (sp_X12_isAsked o_a0 w1.1 w1.2.1 w1.2.2.1 w1.2.2.2.1 (fun Z'1 r1 p1 => V_if_eq (tgt := 35) dX12_base_18 rfl (w1.2.2.2.2 Z'1 r1 p1).1 (fun c3 => V_msk [false, false, false, false, false, false, false] rfl ((w1.2.2.2.2 Z'1 r1 p1).2.1 c3)) (fun c3 => V_iload_n dX12_base_21 rfl (V_iconst dX12_base_22 (V_aload_n dX12_base_23 rfl (Exists.elim ((w1.2.2.2.2 Z'1 r1 p1).2.2 c3) (fun g2 w2 => Exists.elim w2 (fun g3 w3 => Exists.elim w3 (fun g4 w4 => Exists.elim w4 (fun g5 w5 => Exists.elim w5 (fun g6 w6 => V_callV (k' := 0) (n' := 0) (t := 12) (q := (RX12, TX12, 46)) [] [i_ 0, i_ v3] okX12_rooms o_a0.1 rfl rfl lm_12_351 liX12_rooms lqX12_rooms (Nat.le_of_ble_eq_true rfl) (Nat.le_of_ble_eq_true rfl) (Nat.le_of_ble_eq_true rfl) (cat_of rfl) (Nat.le_of_ble_eq_true rfl) (Nat.zero_le _) (Nat.zero_le _) rfl dX12_base_24 (sp_X12_rooms o_a0 w6.1 w6.2.1 w6.2.2.1 (fun Z'2 p2 => V_iconst dX12_base_27 (V_isub dX12_base_28 (V_callS (k' := 0) (n' := 0) [i_ v3, i_ 0, i_ ((mRm g2 g4 g3 g5 g6 : Int) - 1)] [] okX12_isIn lm_12_129 lsX12_isIn (Nat.le_of_ble_eq_true rfl) (Nat.le_of_ble_eq_true rfl) (Nat.le_of_ble_eq_true rfl) (cat_of rfl) (Nat.le_of_ble_eq_true rfl) (Nat.zero_le _) (Nat.zero_le _) rfl dX12_base_29 (sp_X12_isIn  (w6.2.2.2 Z'2 p2).1 (fun r2 p3 => V_if_ne (tgt := 37) dX12_base_32 rfl ((w6.2.2.2 Z'2 p2).2 r2 p3).1 (fun c4 => V_iload dX12_base_37 rfl (V_if_eq (tgt := 58) dX12_base_39 rfl (((w6.2.2.2 Z'2 p2).2 r2 p3).2.1 c4).1 (fun c5 => V_iconst dX12_base_58 (V_iload dX12_base_59 rfl (V_imul dX12_base_61 (V_msk [true, false, false, true, false, false, false] rfl ((((w6.2.2.2 Z'2 p2).2 r2 p3).2.1 c4).2.1 c5))))) (fun c5 => V_iconst dX12_base_42 (V_iload dX12_base_43 rfl (V_imul dX12_base_45 (V_iconst dX12_base_46 (V_aload_n dX12_base_47 rfl (G_12_12 o_a0.1 lf_12_221 dX12_base_48 (V_imul dX12_base_51 (V_iadd dX12_base_52 (V_iconst dX12_base_53 (V_iadd dX12_base_54 (V_goto (tgt := 62) dX12_base_55 rfl (V_msk [true, false, false, true, false, false, false] rfl ((((w6.2.2.2 Z'2 p2).2 r2 p3).2.1 c4).2.2 c5))))))))))))))) (fun c4 => V_msk [false, false, false, false, false, false, false] rfl (((w6.2.2.2 Z'2 p2).2 r2 p3).2.2 c4))))))))))))))))))))))))))))
set_option maxRecDepth 20000 in
theorem b_X12_base_35 {k n : Nat} {x : Wx} {Z : Zt} {Q : Option Value → Wx → Zt → Prop}  
    (h : Q (some (i_ (-1))) x Z) :
    V mX12_base k n 35 [none, none, none, none, none, none, none] [] x Z Q :=
  V_iconst dX12_base_35 (V_iret (ty := .int) dX12_base_36 rfl rfl h)
set_option maxRecDepth 20000 in
theorem b_X12_base_62 {k n : Nat} {x : Wx} {Z : Zt} {Q : Option Value → Wx → Zt → Prop} {a0 : Nat} {v3 : Int} {t0 : Int} (o_a0 : Is12 x a0)
    (h : Rg t0 ∧ Rg (Z a0 24) ∧ (((Z a0 24 < t0) → (Q (some (i_ (-1))) x Z)) ∧ ((t0 ≤ Z a0 24) → (∃ g1 : Int, (∃ g2 : Int, (∃ g3 : Nat → Int, (∃ g4 : Nat → Int, (∃ g5 : Nat → Int, (MF Z a0 g1 g3 ∧ RmK g1 g3 g2 g4 g5 ∧ RMs Z a0 g1 g3 g2 g4 g5 ∧ (0 ≤ v3 ∧ v3 < (mRm g1 g3 g2 g4 g5 : Int)) ∧ (0 ≤ t0 ∧ t0 ≤ mMo g1 g3 g2 g4 g5) ∧ (Q (some (i_ (mBa g1 (mSl g1 g3 g2 g4 g5) v3 t0))) x Z)))))))))) :
    V mX12_base k n 62 [some (r_ a0), none, none, some (i_ v3), none, none, none] [i_ t0] x Z Q :=
  V_istore (lv' := [some (r_ a0), none, none, some (i_ v3), none, none, some (i_ t0)]) dX12_base_62 (Nat.le_of_ble_eq_true rfl) rfl (V_iload dX12_base_64 rfl (V_aload_n dX12_base_66 rfl (G_12_24 o_a0.1 lf_12_306 dX12_base_67 (V_icmp_gt (tgt := 83) dX12_base_70 rfl h.1 h.2.1 (fun c1 => V_iconst dX12_base_83 (V_iret (ty := .int) dX12_base_84 rfl rfl (h.2.2.1 c1))) (fun c1 => V_aload_n dX12_base_73 rfl (V_iload_n dX12_base_74 rfl (V_iload dX12_base_75 rfl (Exists.elim (h.2.2.2 c1) (fun g1 w1 => Exists.elim w1 (fun g2 w2 => Exists.elim w2 (fun g3 w3 => Exists.elim w3 (fun g4 w4 => Exists.elim w4 (fun g5 w5 => V_callV (k' := 0) (n' := 0) (t := 12) (q := (RX12, TX12, 46)) [i_ v3, i_ t0] [] okX12_baseAt o_a0.1 rfl rfl lm_12_354 liX12_baseAt lqX12_baseAt (Nat.le_of_ble_eq_true rfl) (Nat.le_of_ble_eq_true rfl) (Nat.le_of_ble_eq_true rfl) (cat_of rfl) (Nat.le_of_ble_eq_true rfl) (Nat.zero_le _) (Nat.zero_le _) rfl dX12_base_77 (sp_X12_baseAt o_a0 w5.1 w5.2.1 w5.2.2.1 w5.2.2.2.1 w5.2.2.2.2.1 (V_goto (tgt := 84) dX12_base_80 rfl (V_iret (ty := .int) dX12_base_84 rfl rfl w5.2.2.2.2.2))))))))))))))))
theorem dX12_under_0 : decode cX12_under 0 = .ok (.aload_n 0, 1) := by decide +kernel
theorem dX12_under_1 : decode cX12_under 1 = .ok (.iload_n 1, 1) := by decide +kernel
theorem dX12_under_2 : decode cX12_under 2 = .ok (.iload_n 2, 1) := by decide +kernel
theorem dX12_under_3 : decode cX12_under 3 = .ok (.invokevirtual 345, 3) := by decide +kernel
theorem dX12_under_6 : decode cX12_under 6 = .ok (.ifCond .ne 5, 3) := by decide +kernel
theorem dX12_under_9 : decode cX12_under 9 = .ok (.iconst (-1), 1) := by decide +kernel
theorem dX12_under_10 : decode cX12_under 10 = .ok (.ireturn, 1) := by decide +kernel
theorem dX12_under_11 : decode cX12_under 11 = .ok (.aload_n 0, 1) := by decide +kernel
theorem dX12_under_12 : decode cX12_under 12 = .ok (.invokevirtual 351, 3) := by decide +kernel
theorem dX12_under_15 : decode cX12_under 15 = .ok (.pop, 1) := by decide +kernel
theorem dX12_under_16 : decode cX12_under 16 = .ok (.iload_n 3, 1) := by decide +kernel
theorem dX12_under_17 : decode cX12_under 17 = .ok (.iconst 0, 1) := by decide +kernel
theorem dX12_under_18 : decode cX12_under 18 = .ok (.aload_n 0, 1) := by decide +kernel
theorem dX12_under_19 : decode cX12_under 19 = .ok (.getfield 303, 3) := by decide +kernel
theorem dX12_under_22 : decode cX12_under 22 = .ok (.invokestatic 129, 3) := by decide +kernel
theorem dX12_under_25 : decode cX12_under 25 = .ok (.ifCond .eq 12, 3) := by decide +kernel
theorem dX12_under_28 : decode cX12_under 28 = .ok (.aload_n 0, 1) := by decide +kernel
theorem dX12_under_29 : decode cX12_under 29 = .ok (.getfield 45, 3) := by decide +kernel
theorem dX12_under_32 : decode cX12_under 32 = .ok (.iload_n 3, 1) := by decide +kernel
theorem dX12_under_33 : decode cX12_under 33 = .ok (.iaload, 1) := by decide +kernel
theorem dX12_under_34 : decode cX12_under 34 = .ok (.goto 4, 3) := by decide +kernel
theorem dX12_under_37 : decode cX12_under 37 = .ok (.iconst (-1), 1) := by decide +kernel
theorem dX12_under_38 : decode cX12_under 38 = .ok (.ireturn, 1) := by decide +kernel
set_option maxRecDepth 20000 in
theorem b_X12_under_0 {k n : Nat} {x : Wx} {Z : Zt} {Q : Option Value → Wx → Zt → Prop} {a0 : Nat} {v1 : Int} {v2 : Int} {v3 : Int} (o_a0 : Is12 x a0)
    (h : ∃ g1 : Td, (MT (Z (a0 + 1)) g1 ∧ TdV g1 ∧ Rg v1 ∧ Rg v2 ∧ (∀ (Z'1 : Zt) (r1 : Int), (AsK a0 g1 v1 v2 Z Z'1 r1) → (Rg r1 ∧ (((r1 ≠ 0) → (∃ g2 : Int, (∃ g3 : Int, (∃ g4 : Nat → Int, (∃ g5 : Nat → Int, (∃ g6 : Nat → Int, (MF Z'1 a0 g2 g4 ∧ MSq Z'1 a0 g3 g5 g6 ∧ RmK g2 g4 g3 g5 g6 ∧ (∀ (Z'2 : Zt), (RMs Z'2 a0 g2 g4 g3 g5 g6 ∧ RmF a0 Z'1 Z'2) → ((Rg v3 ∧ Rg (0 : Int) ∧ Rg (Z'2 a0 23)) ∧ (∀ (r2 : Int), (((r2 = 1 ∧ (0 : Int) ≤ v3 ∧ v3 ≤ (Z'2 a0 23)) ∨ (r2 = 0 ∧ (v3 < (0 : Int) ∨ (Z'2 a0 23) < v3)))) → (Rg r2 ∧ (((r2 = 0) → (Q (some (i_ (-1))) x Z'2)) ∧ ((r2 ≠ 0) → (0 ≤ v3 ∧ v3 < 96 ∧ (Q (some (i_ (Z'2 (a0 + 12) v3.toNat))) x Z'2))))))))))))))) ∧ ((r1 = 0) → (Q (some (i_ (-1))) x Z'1))))))) :
    V mX12_under k n 0 [some (r_ a0), some (i_ v1), some (i_ v2), some (i_ v3)] [] x Z Q :=
  V_aload_n dX12_under_0 rfl (V_iload_n dX12_under_1 rfl (V_iload_n dX12_under_2 rfl (Exists.elim h (fun g1 w1 => V_callV (k' := 0) (n' := 0) (t := 12) (q := (RX12, TX12, 46)) [i_ v1, i_ v2] [] okX12_isAsked o_a0.1 rfl rfl lm_12_345 liX12_isAsked lqX12_isAsked (Nat.le_of_ble_eq_true rfl) (Nat.le_of_ble_eq_true rfl) (Nat.le_of_ble_eq_true rfl) (cat_of rfl) (Nat.le_of_ble_eq_true rfl) (Nat.zero_le _) (Nat.zero_le _) rfl dX12_under_3 (sp_X12_isAsked o_a0 w1.1 w1.2.1 w1.2.2.1 w1.2.2.2.1 (fun Z'1 r1 p1 => V_if_ne (tgt := 11) dX12_under_6 rfl (w1.2.2.2.2 Z'1 r1 p1).1 (fun c1 => V_aload_n dX12_under_11 rfl (Exists.elim ((w1.2.2.2.2 Z'1 r1 p1).2.1 c1) (fun g2 w2 => Exists.elim w2 (fun g3 w3 => Exists.elim w3 (fun g4 w4 => Exists.elim w4 (fun g5 w5 => Exists.elim w5 (fun g6 w6 => V_callV (k' := 0) (n' := 0) (t := 12) (q := (RX12, TX12, 46)) [] [] okX12_rooms o_a0.1 rfl rfl lm_12_351 liX12_rooms lqX12_rooms (Nat.le_of_ble_eq_true rfl) (Nat.le_of_ble_eq_true rfl) (Nat.le_of_ble_eq_true rfl) (cat_of rfl) (Nat.le_of_ble_eq_true rfl) (Nat.zero_le _) (Nat.zero_le _) rfl dX12_under_12 (sp_X12_rooms o_a0 w6.1 w6.2.1 w6.2.2.1 (fun Z'2 p2 => V_pop dX12_under_15 rfl (V_iload_n dX12_under_16 rfl (V_iconst dX12_under_17 (V_aload_n dX12_under_18 rfl (G_12_23 o_a0.1 lf_12_303 dX12_under_19 (V_callS (k' := 0) (n' := 0) [i_ v3, i_ 0, i_ (Z'2 a0 23)] [] okX12_isIn lm_12_129 lsX12_isIn (Nat.le_of_ble_eq_true rfl) (Nat.le_of_ble_eq_true rfl) (Nat.le_of_ble_eq_true rfl) (cat_of rfl) (Nat.le_of_ble_eq_true rfl) (Nat.zero_le _) (Nat.zero_le _) rfl dX12_under_22 (sp_X12_isIn  (w6.2.2.2 Z'2 p2).1 (fun r2 p3 => V_if_eq (tgt := 37) dX12_under_25 rfl ((w6.2.2.2 Z'2 p2).2 r2 p3).1 (fun c2 => V_iconst dX12_under_37 (V_iret (ty := .int) dX12_under_38 rfl rfl (((w6.2.2.2 Z'2 p2).2 r2 p3).2.1 c2))) (fun c2 => V_aload_n dX12_under_28 rfl (G_12_22 o_a0.1 o_a0.qR22 lf_12_45 dX12_under_29 (V_iload_n dX12_under_32 rfl (V_iald (t := 100) o_a0.qK22 (by decide) rfl (((w6.2.2.2 Z'2 p2).2 r2 p3).2.2 c2).1 (((w6.2.2.2 Z'2 p2).2 r2 p3).2.2 c2).2.1 (Nat.le_of_ble_eq_true rfl) dX12_under_33 (V_goto (tgt := 38) dX12_under_34 rfl (V_iret (ty := .int) dX12_under_38 rfl rfl (((w6.2.2.2 Z'2 p2).2 r2 p3).2.2 c2).2.2)))))))))))))))))))))) (fun c1 => V_iconst dX12_under_9 (V_iret (ty := .int) dX12_under_10 rfl rfl ((w1.2.2.2.2 Z'1 r1 p1).2.2 c1)))))))))
theorem dX12_roomOfPoint_0 : decode cX12_roomOfPoint 0 = .ok (.aload_n 0, 1) := by decide +kernel
theorem dX12_roomOfPoint_1 : decode cX12_roomOfPoint 1 = .ok (.invokevirtual 297, 3) := by decide +kernel
theorem dX12_roomOfPoint_4 : decode cX12_roomOfPoint 4 = .ok (.iload_n 1, 1) := by decide +kernel
theorem dX12_roomOfPoint_5 : decode cX12_roomOfPoint 5 = .ok (.aload_n 0, 1) := by decide +kernel
theorem dX12_roomOfPoint_6 : decode cX12_roomOfPoint 6 = .ok (.getfield 227, 3) := by decide +kernel
theorem dX12_roomOfPoint_9 : decode cX12_roomOfPoint 9 = .ok (.iconst 1, 1) := by decide +kernel
theorem dX12_roomOfPoint_10 : decode cX12_roomOfPoint 10 = .ok (.isub, 1) := by decide +kernel
theorem dX12_roomOfPoint_11 : decode cX12_roomOfPoint 11 = .ok (.if_icmp .ne 11, 3) := by decide +kernel
theorem dX12_roomOfPoint_14 : decode cX12_roomOfPoint 14 = .ok (.aload_n 0, 1) := by decide +kernel
theorem dX12_roomOfPoint_15 : decode cX12_roomOfPoint 15 = .ok (.iload_n 2, 1) := by decide +kernel
theorem dX12_roomOfPoint_16 : decode cX12_roomOfPoint 16 = .ok (.putfield 294, 3) := by decide +kernel
theorem dX12_roomOfPoint_19 : decode cX12_roomOfPoint 19 = .ok (.goto 37, 3) := by decide +kernel
theorem dX12_roomOfPoint_22 : decode cX12_roomOfPoint 22 = .ok (.aload_n 0, 1) := by decide +kernel
theorem dX12_roomOfPoint_23 : decode cX12_roomOfPoint 23 = .ok (.getfield 42, 3) := by decide +kernel
theorem dX12_roomOfPoint_26 : decode cX12_roomOfPoint 26 = .ok (.aload_n 0, 1) := by decide +kernel
theorem dX12_roomOfPoint_27 : decode cX12_roomOfPoint 27 = .ok (.getfield 23, 3) := by decide +kernel
theorem dX12_roomOfPoint_30 : decode cX12_roomOfPoint 30 = .ok (.iload_n 1, 1) := by decide +kernel
theorem dX12_roomOfPoint_31 : decode cX12_roomOfPoint 31 = .ok (.iaload, 1) := by decide +kernel
theorem dX12_roomOfPoint_32 : decode cX12_roomOfPoint 32 = .ok (.iconst 1, 1) := by decide +kernel
theorem dX12_roomOfPoint_33 : decode cX12_roomOfPoint 33 = .ok (.bastore, 1) := by decide +kernel
theorem dX12_roomOfPoint_34 : decode cX12_roomOfPoint 34 = .ok (.aload_n 0, 1) := by decide +kernel
theorem dX12_roomOfPoint_35 : decode cX12_roomOfPoint 35 = .ok (.getfield 39, 3) := by decide +kernel
theorem dX12_roomOfPoint_38 : decode cX12_roomOfPoint 38 = .ok (.bipush 13, 2) := by decide +kernel
theorem dX12_roomOfPoint_40 : decode cX12_roomOfPoint 40 = .ok (.aload_n 0, 1) := by decide +kernel
theorem dX12_roomOfPoint_41 : decode cX12_roomOfPoint 41 = .ok (.getfield 23, 3) := by decide +kernel
theorem dX12_roomOfPoint_44 : decode cX12_roomOfPoint 44 = .ok (.iload_n 1, 1) := by decide +kernel
theorem dX12_roomOfPoint_45 : decode cX12_roomOfPoint 45 = .ok (.iaload, 1) := by decide +kernel
theorem dX12_roomOfPoint_46 : decode cX12_roomOfPoint 46 = .ok (.imul, 1) := by decide +kernel
theorem dX12_roomOfPoint_47 : decode cX12_roomOfPoint 47 = .ok (.aload_n 0, 1) := by decide +kernel
theorem dX12_roomOfPoint_48 : decode cX12_roomOfPoint 48 = .ok (.getfield 26, 3) := by decide +kernel
theorem dX12_roomOfPoint_51 : decode cX12_roomOfPoint 51 = .ok (.iload_n 1, 1) := by decide +kernel
theorem dX12_roomOfPoint_52 : decode cX12_roomOfPoint 52 = .ok (.iaload, 1) := by decide +kernel
theorem dX12_roomOfPoint_53 : decode cX12_roomOfPoint 53 = .ok (.iadd, 1) := by decide +kernel
theorem dX12_roomOfPoint_54 : decode cX12_roomOfPoint 54 = .ok (.iload_n 2, 1) := by decide +kernel
theorem dX12_roomOfPoint_55 : decode cX12_roomOfPoint 55 = .ok (.iastore, 1) := by decide +kernel
theorem dX12_roomOfPoint_56 : decode cX12_roomOfPoint 56 = .ok (.aload_n 0, 1) := by decide +kernel
theorem dX12_roomOfPoint_57 : decode cX12_roomOfPoint 57 = .ok (.invokevirtual 351, 3) := by decide +kernel
theorem dX12_roomOfPoint_60 : decode cX12_roomOfPoint 60 = .ok (.ireturn, 1) := by decide +kernel
set_option maxRecDepth 20000 in
theorem b_X12_roomOfPoint_0 {k n : Nat} {x : Wx} {Z : Zt} {Q : Option Value → Wx → Zt → Prop} {a0 : Nat} {v1 : Int} {v2 : Int} (o_a0 : Is12 x a0)
    (h : ∀ (Z'1 : Zt), (MSq Z'1 a0 0 (fun _ => 0) (fun _ => 0) ∧ SFr a0 Z Z'1) → (Rg v1 ∧ Rg ((Z'1 a0 15) - 1) ∧ (((v1 ≠ (Z'1 a0 15) - 1) → (0 ≤ v1 ∧ v1 < 32 ∧ (0 ≤ Z'1 (a0 + 5) v1.toNat ∧ Z'1 (a0 + 5) v1.toNat < 13 ∧ (∀ Z1 : Zt, Z1 = up Z'1 (a0 + 11) (Z'1 (a0 + 5) v1.toNat).toNat 1 → (0 ≤ (13 * (Z1 (a0 + 5) v1.toNat)) + (Z1 (a0 + 6) v1.toNat) ∧ (13 * (Z1 (a0 + 5) v1.toNat)) + (Z1 (a0 + 6) v1.toNat) < 169 ∧ (∀ Z2 : Zt, Z2 = up Z1 (a0 + 10) ((13 * (Z1 (a0 + 5) v1.toNat)) + (Z1 (a0 + 6) v1.toNat)).toNat v2 → (V mX12_roomOfPoint k n 56 [some (r_ a0), none, none] [] x Z2 Q))))))) ∧ ((v1 = (Z'1 a0 15) - 1) → (∀ Z3 : Zt, Z3 = up Z'1 a0 21 v2 → (V mX12_roomOfPoint k n 56 [some (r_ a0), none, none] [] x Z3 Q)))))) :
    V mX12_roomOfPoint k n 0 [some (r_ a0), some (i_ v1), some (i_ v2)] [] x Z Q :=
  V_aload_n dX12_roomOfPoint_0 rfl (V_callV (k' := 0) (n' := 0) (t := 12) (q := (RX12, TX12, 46)) [] [] okX12_clears o_a0.1 rfl rfl lm_12_297 liX12_clears lqX12_clears (Nat.le_of_ble_eq_true rfl) (Nat.le_of_ble_eq_true rfl) (Nat.le_of_ble_eq_true rfl) (cat_of rfl) (Nat.le_of_ble_eq_true rfl) (Nat.zero_le _) (Nat.zero_le _) rfl dX12_roomOfPoint_1 (sp_X12_clears o_a0  (fun Z'1 p1 => V_iload_n dX12_roomOfPoint_4 rfl (V_aload_n dX12_roomOfPoint_5 rfl (G_12_15 o_a0.1 lf_12_227 dX12_roomOfPoint_6 (V_iconst dX12_roomOfPoint_9 (V_isub dX12_roomOfPoint_10 (V_icmp_ne (tgt := 22) dX12_roomOfPoint_11 rfl (h Z'1 p1).1 (h Z'1 p1).2.1 (fun c1 => V_aload_n dX12_roomOfPoint_22 rfl (G_12_20 o_a0.1 o_a0.qR20 lf_12_42 dX12_roomOfPoint_23 (V_aload_n dX12_roomOfPoint_26 rfl (G_12_13 o_a0.1 o_a0.qR13 lf_12_23 dX12_roomOfPoint_27 (V_iload_n dX12_roomOfPoint_30 rfl (V_iald (t := 100) o_a0.qK13 (by decide) rfl ((h Z'1 p1).2.2.1 c1).1 ((h Z'1 p1).2.2.1 c1).2.1 (Nat.le_of_ble_eq_true rfl) dX12_roomOfPoint_31 (V_iconst dX12_roomOfPoint_32 (V_zast (t := 102) o_a0.qK20 (by decide) (by decide) rfl ((h Z'1 p1).2.2.1 c1).2.2.1 ((h Z'1 p1).2.2.1 c1).2.2.2.1 (Nat.le_of_ble_eq_true rfl) rfl dX12_roomOfPoint_33 (V_nmZ (fun Z1 eZ1 => V_aload_n dX12_roomOfPoint_34 rfl (G_12_19 o_a0.1 o_a0.qR19 lf_12_39 dX12_roomOfPoint_35 (V_bipush dX12_roomOfPoint_38 rfl (V_aload_n dX12_roomOfPoint_40 rfl (G_12_13 o_a0.1 o_a0.qR13 lf_12_23 dX12_roomOfPoint_41 (V_iload_n dX12_roomOfPoint_44 rfl (V_iald (t := 100) o_a0.qK13 (by decide) rfl ((h Z'1 p1).2.2.1 c1).1 ((h Z'1 p1).2.2.1 c1).2.1 (Nat.le_of_ble_eq_true rfl) dX12_roomOfPoint_45 (V_imul dX12_roomOfPoint_46 (V_aload_n dX12_roomOfPoint_47 rfl (G_12_14 o_a0.1 o_a0.qR14 lf_12_26 dX12_roomOfPoint_48 (V_iload_n dX12_roomOfPoint_51 rfl (V_iald (t := 100) o_a0.qK14 (by decide) rfl ((h Z'1 p1).2.2.1 c1).1 ((h Z'1 p1).2.2.1 c1).2.1 (Nat.le_of_ble_eq_true rfl) dX12_roomOfPoint_52 (V_iadd dX12_roomOfPoint_53 (V_iload_n dX12_roomOfPoint_54 rfl (V_iast (t := 100) o_a0.qK19 (by decide) (by decide) rfl (((h Z'1 p1).2.2.1 c1).2.2.2.2 Z1 eZ1).1 (((h Z'1 p1).2.2.1 c1).2.2.2.2 Z1 eZ1).2.1 (Nat.le_of_ble_eq_true rfl) dX12_roomOfPoint_55 (V_nmZ (fun Z2 eZ2 => V_msk [true, false, false] rfl ((((h Z'1 p1).2.2.1 c1).2.2.2.2 Z1 eZ1).2.2 Z2 eZ2))))))))))))))))))))))))))) (fun c1 => V_aload_n dX12_roomOfPoint_14 rfl (V_iload_n dX12_roomOfPoint_15 rfl (P_12_21 o_a0.1 lf_12_294 dX12_roomOfPoint_16 (V_nmZ (fun Z3 eZ3 => V_goto (tgt := 56) dX12_roomOfPoint_19 rfl (V_msk [true, false, false] rfl (((h Z'1 p1).2.2.2 c1) Z3 eZ3)))))))))))))))
set_option maxRecDepth 20000 in
theorem b_X12_roomOfPoint_56 {k n : Nat} {x : Wx} {Z : Zt} {Q : Option Value → Wx → Zt → Prop} {a0 : Nat} (o_a0 : Is12 x a0)
    (h : ∃ g1 : Int, (∃ g2 : Int, (∃ g3 : Nat → Int, (∃ g4 : Nat → Int, (∃ g5 : Nat → Int, (MF Z a0 g1 g3 ∧ MSq Z a0 g2 g4 g5 ∧ RmK g1 g3 g2 g4 g5 ∧ (∀ (Z'1 : Zt), (RMs Z'1 a0 g1 g3 g2 g4 g5 ∧ RmF a0 Z Z'1) → (Q (some (i_ (mRm g1 g3 g2 g4 g5 : Int))) x Z'1)))))))) :
    V mX12_roomOfPoint k n 56 [some (r_ a0), none, none] [] x Z Q :=
  V_aload_n dX12_roomOfPoint_56 rfl (Exists.elim h (fun g1 w1 => Exists.elim w1 (fun g2 w2 => Exists.elim w2 (fun g3 w3 => Exists.elim w3 (fun g4 w4 => Exists.elim w4 (fun g5 w5 => V_callV (k' := 0) (n' := 0) (t := 12) (q := (RX12, TX12, 46)) [] [] okX12_rooms o_a0.1 rfl rfl lm_12_351 liX12_rooms lqX12_rooms (Nat.le_of_ble_eq_true rfl) (Nat.le_of_ble_eq_true rfl) (Nat.le_of_ble_eq_true rfl) (cat_of rfl) (Nat.le_of_ble_eq_true rfl) (Nat.zero_le _) (Nat.zero_le _) rfl dX12_roomOfPoint_57 (sp_X12_rooms o_a0 w5.1 w5.2.1 w5.2.2.1 (fun Z'1 p1 => V_iret (ty := .int) dX12_roomOfPoint_60 rfl rfl (w5.2.2.2 Z'1 p1)))))))))
/-- a sum's row, as the reference takes it -/
def rO (r : Nat → Int) (t : Int) : Nat → Int := mOf r t (r 0).toNat
def rT (r : Nat → Int) : Nat → Int := mTd r (r 0).toNat
def mARoom (T : Td) (c s w : Int) : Int := if fitB T c s = true ∧ 0 ≤ w ∧ w ≤ 3 then (if w = 0 then sdeg (T.rw (2 + s.toNat)) (T.rw (2 + s.toNat) 0).toNat else if w = 1 then (mRm (T.p c.toNat) (T.F c.toNat) (T.rw (2 + s.toNat) 1) (rO (T.rw (2 + s.toNat)) 1) (rT (T.rw (2 + s.toNat))) : Int) else if w = 2 then (mRm (T.p c.toNat) (T.F c.toNat) ((-1) * T.rw (2 + s.toNat) 1 + (2 * gen (T.F c.toNat) - 2)) (rO (T.rw (2 + s.toNat)) (-1)) (rT (T.rw (2 + s.toNat))) : Int) else ((mUn (T.p c.toNat) (T.F c.toNat) (rO (T.rw (2 + s.toNat)) 1) (rT (T.rw (2 + s.toNat)))).1 : Int)) else -1000
def mABase (T : Td) (c s a y i : Int) : Int := if (fitB T c s = true ∧ 0 ≤ i ∧ i ≤ 99) ∧ (0 ≤ a ∧ a < (mRm (T.p c.toNat) (T.F c.toNat) (T.rw (2 + s.toNat) 1) (rO (T.rw (2 + s.toNat)) 1) (rT (T.rw (2 + s.toNat))) : Int)) ∧ (if y = 0 then 2 * i else 2 * i + 2 * gen (T.F c.toNat) + 1) ≤ mMo (T.p c.toNat) (T.F c.toNat) (T.rw (2 + s.toNat) 1) (rO (T.rw (2 + s.toNat)) 1) (rT (T.rw (2 + s.toNat))) then mBa (T.p c.toNat) (mSl (T.p c.toNat) (T.F c.toNat) (T.rw (2 + s.toNat) 1) (rO (T.rw (2 + s.toNat)) 1) (rT (T.rw (2 + s.toNat)))) a (if y = 0 then 2 * i else 2 * i + 2 * gen (T.F c.toNat) + 1) else -1
def mAUnder (T : Td) (c s i : Int) : Int := if fitB T c s = true ∧ 0 ≤ i ∧ i ≤ ((mUn (T.p c.toNat) (T.F c.toNat) (rO (T.rw (2 + s.toNat)) 1) (rT (T.rw (2 + s.toNat)))).1 : Int) then (mUn (T.p c.toNat) (T.F c.toNat) (rO (T.rw (2 + s.toNat)) 1) (rT (T.rw (2 + s.toNat)))).2 i.toNat else -1
theorem fit_sum {T : Td} (hV : TdV T) {c s : Int} (h : fitB T c s = true) : SumR (T.rw (2 + s.toNat)) := by
  have h1 := (fitB_c.mp h).2.1
  exact (hV.2.2.2.2.2.2.2.2.1 s.toNat (by omega)).1
theorem sp_X12_room {k n : Nat} {x : Wx} {Z : Zt} {Q : Option Value → Wx → Zt → Prop} {b : Nat} {c s w : Int} {S : Ab} (hI : MI x Z b S) (hV : AbV S) (hc : Rg c) (hs : Rg s) (hw : Rg w) (h : RAm b x Z Q (mARoom S.nw c s w)) : V mX12_room k n 0 [some (r_ b), some (i_ c), some (i_ s), some (i_ w), none] [] x Z Q := by
  obtain ⟨o, hT, _⟩ := id hI
  unfold mARoom at h
  have no : ∀ Z' : Zt, Mq b Z Z' → ¬ (fitB S.nw c s = true ∧ 0 ≤ w ∧ w ≤ 3) → V mX12_room k n 18 [none, none, none, none, none] [] x Z' Q := fun Z' h1 h2 => b_X12_room_18 (by rw [if_neg h2] at h; exact h Z' h1)
  refine b_X12_room_0 o ⟨⟨hw, rg_z, ⟨by decide, by decide⟩⟩, fun r1 h1 => ⟨⟨by omega, by omega⟩, fun c1 => no Z Mq.rf (by omega), fun c1 => ⟨S.nw, hT, hV.1, hc, hs, fun Z1 r2 hk => ⟨by rw [hk.1]; exact bI_rg _, fun c2 => ?_, fun c2 => no Z1 hk.2.1 (fun e => ?_)⟩⟩⟩⟩
  · have hf := bI_1 (hk.1 ▸ c2)
    obtain ⟨hF, hS⟩ := hk.2.2 hf
    have q1 := hk.2.1
    have hSR := fit_sum hV.1 hf
    rw [if_pos ⟨hf, by omega⟩] at h
    obtain ⟨r, hr⟩ : ∃ r : Nat → Int, S.nw.rw (2 + s.toNat) = r := ⟨_, rfl⟩
    obtain ⟨p, hp'⟩ : ∃ p : Int, S.nw.p c.toNat = p := ⟨_, rfl⟩
    obtain ⟨F, hF'⟩ : ∃ F : Nat → Int, S.nw.F c.toNat = F := ⟨_, rfl⟩
    rw [hr, hp', hF'] at h
    rw [hr] at hS hSR
    rw [hp', hF'] at hF
    have hp := hF.2.1.1
    have hgn := gen_rg F
    have h1r := hSR.2.1
    have go : ∀ (Z2 : Zt) (fr t : Int), Mq b Z Z2 → MF Z2 b p F → MSq Z2 b fr (rO r t) (rT r) → (t = 1 ∨ t = -1) → -100 ≤ fr ∧ fr ≤ 11 → (w = 3 → t = 1) → (w ≠ 3 → RAm b x Z Q (mRm p F fr (rO r t) (rT r) : Int)) → (w = 3 → RAm b x Z Q ((mUn p F (rO r t) (rT r)).1 : Int)) → V mX12_room k n 61 [some (r_ b), none, none, some (i_ w), none] [] x Z2 Q := by
      intro Z2 fr t q2 F2 S2 ht hfr _ h3 h4
      refine b_X12_room_61 o ⟨p, fr, F, _, _, F2, S2, RmK_sum hp hSR ht hfr, fun Z3 hz3 => ⟨hw, fun c4 => ?_, fun c4 => ?_⟩⟩
      · rw [hz3.1.2.2.1]; exact h3 c4 Z3 (q2.tr hz3.2.mq)
      · rw [hz3.1.1.1]; exact h4 c4 Z3 (q2.tr hz3.2.mq)
    refine ⟨hw, fun c3 => ⟨fun c4 => ?_, fun c4 => ?_⟩, fun c3 => ⟨_, _, _, hS, ?_⟩⟩
    · rw [if_neg c3] at h
      refine go Z1 (r 1) 1 q1 hF hS (Or.inl rfl) (by omega) (fun _ => rfl) (fun c5 => ?_) (fun c5 => ?_)
      · rw [if_pos (by omega)] at h; exact h
      · rw [if_neg (by omega), if_neg (by omega)] at h; exact h
    · rw [if_neg c3, if_neg (show ¬ w = 1 by omega), if_pos c4] at h
      refine ⟨S.nw, p, F, by rw [q1.1]; exact hT, hV.1, hF, hs, Or.inr rfl, fun Z2 r3 h3 Z3 e3 => ?_⟩
      obtain ⟨h3, sf⟩ := h3
      rw [hr] at h3
      have F2 := hF.sf sf
      rcases h3 with ⟨e4, _, M2⟩ | ⟨_, e5⟩
      · have e12 : Z2 b 12 = gen F := F2.1.1.2
        rw [M2.1, e12] at e3
        have sf3 : SFr b Z2 Z3 := ⟨fun d h1 _ _ => by rw [e3, up_row _ _ _ _ _ h1], fun i hi => by rw [e3, up_at, if_neg hi]⟩
        exact go Z3 _ (-1) (q1.tr (sf.mq.tr sf3.mq)) (F2.sf sf3) ⟨by rw [e3, up_self], fun j hj => by rw [e3, up_row _ _ _ _ _ (by omega)]; exact M2.2.1 j hj, fun q hq => by rw [e3, up_row _ _ _ _ _ (by omega)]; exact M2.2.2 q hq⟩ (Or.inr rfl) (by omega) (fun e => by omega) (fun _ => h) (fun e => by omega)
      · exfalso
        have := fitB_c.mp hf
        refine e5 ⟨this.2.1, ?_⟩
        rw [← hr, ← hp', ← hF']; exact this.2.2
    · rw [if_pos c3] at h
      have e := mOf_sm (t := 1) hSR (r 0).toNat (by have := hSR.1; omega)
      rw [Int.one_mul] at e
      rw [e, show r 1 + (sdeg r (r 0).toNat - r 1) = sdeg r (r 0).toNat from by omega]
      exact h Z1 q1
  · have := bI_0 (hk.1 ▸ c2)
    rw [this] at e; exact absurd e.1 (by decide)
theorem sp_X12_base {k n : Nat} {x : Wx} {Z : Zt} {Q : Option Value → Wx → Zt → Prop} {b : Nat} {c s a y i : Int} {S : Ab} (hI : MI x Z b S) (hV : AbV S) (hc : Rg c) (hs : Rg s) (ha : Rg a) (hy : Rg y) (hi : Rg i) (h : RAm b x Z Q (mABase S.nw c s a y i)) : V mX12_base k n 0 [some (r_ b), some (i_ c), some (i_ s), some (i_ a), some (i_ y), some (i_ i), none] [] x Z Q := by
  obtain ⟨o, hT, _⟩ := id hI
  unfold mABase at h
  have no : ∀ Z' : Zt, Mq b Z Z' → ¬ ((fitB S.nw c s = true ∧ 0 ≤ i ∧ i ≤ 99) ∧ (0 ≤ a ∧ a < (mRm (S.nw.p c.toNat) (S.nw.F c.toNat) (S.nw.rw (2 + s.toNat) 1) (rO (S.nw.rw (2 + s.toNat)) 1) (rT (S.nw.rw (2 + s.toNat))) : Int)) ∧ (if y = 0 then 2 * i else 2 * i + 2 * gen (S.nw.F c.toNat) + 1) ≤ mMo (S.nw.p c.toNat) (S.nw.F c.toNat) (S.nw.rw (2 + s.toNat) 1) (rO (S.nw.rw (2 + s.toNat)) 1) (rT (S.nw.rw (2 + s.toNat)))) → Q (some (i_ (-1))) x Z' := fun Z' h1 h2 => by rw [if_neg h2] at h; exact h Z' h1
  refine b_X12_base_0 o ⟨hi, fun c1 => b_X12_base_35 (no Z Mq.rf (fun e => by have := e.1.2; omega)), fun c1 => ⟨fun c2 => b_X12_base_35 (no Z Mq.rf (fun e => by have := e.1.2; omega)), fun c2 => ⟨S.nw, hT, hV.1, hc, hs, fun Z1 r2 hk => ⟨by rw [hk.1]; exact bI_rg _, fun c3 => b_X12_base_35 (no Z1 hk.2.1 (fun e => ?_)), fun c3 => ?_⟩⟩⟩⟩
  · have := bI_0 (hk.1 ▸ c3)
    rw [this] at e; exact absurd e.1.1 (by decide)
  · have hf := bI_1 (hk.1 ▸ c3)
    obtain ⟨hF, hS⟩ := hk.2.2 hf
    have q1 := hk.2.1
    have hSR := fit_sum hV.1 hf
    obtain ⟨r, hr⟩ : ∃ r : Nat → Int, S.nw.rw (2 + s.toNat) = r := ⟨_, rfl⟩
    obtain ⟨p, hp'⟩ : ∃ p : Int, S.nw.p c.toNat = p := ⟨_, rfl⟩
    obtain ⟨F, hF'⟩ : ∃ F : Nat → Int, S.nw.F c.toNat = F := ⟨_, rfl⟩
    rw [hr, hp', hF'] at h no
    rw [hr] at hS hSR
    rw [hp', hF'] at hF
    have hp := hF.2.1.1
    have hgn := gen_rg F
    have h1r := hSR.2.1
    have hK : RmK p F (r 1) (rO r 1) (rT r) := RmK_sum hp hSR (Or.inl rfl) (by omega)
    have hrm := mRm_le hp hK
    have hmoe : mMo p F (r 1) (rO r 1) (rT r) = r 1 + 2 * ((mUn p F (rO r 1) (rT r)).1 : Int) := rfl
    have hun := hK.2.2.1
    refine ⟨p, r 1, F, rO r 1, rT r, hF, hS, hK, fun Z2 hz2 => ⟨⟨ha, rg_z, ⟨by omega, by omega⟩⟩, fun r3 h3 => ⟨⟨by omega, by omega⟩, fun c4 => ?_, fun c4 => b_X12_base_35 (no Z2 (q1.tr hz2.2.mq) (fun e => by have := e.2.1; omega))⟩⟩⟩
    have q2 := q1.tr hz2.2.mq
    have F2 := hF.rm hz2.2
    have go : ∀ t : Int, t = (if y = 0 then 2 * i else 2 * i + 2 * gen F + 1) → V mX12_base k n 62 [some (r_ b), none, none, some (i_ a), none, none, none] [i_ t] x Z2 Q := fun t ht => by
      rw [← ht] at h no
      have htr : 0 ≤ t ∧ t ≤ 300 := by rw [ht]; split <;> omega
      refine b_X12_base_62 o ?_
      rw [hz2.1.2.1]
      refine ⟨⟨by omega, by omega⟩, ⟨by omega, by omega⟩, fun c5 => no Z2 q2 (fun e => by have := e.2.2; omega), fun c5 => ⟨p, r 1, F, rO r 1, rT r, F2, hK, hz2.1, by omega, ⟨htr.1, c5⟩, ?_⟩⟩
      rw [if_pos ⟨⟨hf, c1, c2⟩, by omega, c5⟩] at h
      exact h Z2 q2
    have e12 : Z2 b 12 = gen F := F2.1.1.2
    rw [e12]
    refine ⟨hy, fun c5 => go _ ?_, fun c5 => go _ ?_⟩
    · rw [if_pos c5]
    · rw [if_neg c5]
theorem sp_X12_under {k n : Nat} {x : Wx} {Z : Zt} {Q : Option Value → Wx → Zt → Prop} {b : Nat} {c s i : Int} {S : Ab} (hI : MI x Z b S) (hV : AbV S) (hc : Rg c) (hs : Rg s) (hi : Rg i) (h : RAm b x Z Q (mAUnder S.nw c s i)) : V mX12_under k n 0 [some (r_ b), some (i_ c), some (i_ s), some (i_ i)] [] x Z Q := by
  obtain ⟨o, hT, _⟩ := id hI
  unfold mAUnder at h
  refine b_X12_under_0 o ⟨S.nw, hT, hV.1, hc, hs, fun Z1 r2 hk => ⟨by rw [hk.1]; exact bI_rg _, fun c3 => ?_, fun c3 => ?_⟩⟩
  · have hf := bI_1 (hk.1 ▸ c3)
    obtain ⟨hF, hS⟩ := hk.2.2 hf
    have q1 := hk.2.1
    have hSR := fit_sum hV.1 hf
    obtain ⟨r, hr⟩ : ∃ r : Nat → Int, S.nw.rw (2 + s.toNat) = r := ⟨_, rfl⟩
    obtain ⟨p, hp'⟩ : ∃ p : Int, S.nw.p c.toNat = p := ⟨_, rfl⟩
    obtain ⟨F, hF'⟩ : ∃ F : Nat → Int, S.nw.F c.toNat = F := ⟨_, rfl⟩
    rw [hr, hp', hF'] at h
    rw [hr] at hS hSR
    rw [hp', hF'] at hF
    have hp := hF.2.1.1
    have h1r := hSR.2.1
    have hK : RmK p F (r 1) (rO r 1) (rT r) := RmK_sum hp hSR (Or.inl rfl) (by omega)
    have hun := hK.2.2.1
    refine ⟨p, r 1, F, rO r 1, rT r, hF, hS, hK, fun Z2 hz2 => ?_⟩
    have q2 := q1.tr hz2.2.mq
    have hU : MU Z2 b (mUn p F (rO r 1) (rT r)) := hz2.1.1
    rw [hU.1]
    refine ⟨⟨hi, rg_z, ⟨by omega, by omega⟩⟩, fun r3 h3 => ⟨⟨by omega, by omega⟩, fun c4 => ?_, fun c4 => ⟨by omega, by omega, ?_⟩⟩⟩
    · rw [if_neg (fun e => by have := e.2; omega)] at h; exact h Z2 q2
    · rw [if_pos ⟨hf, by omega⟩] at h
      rw [hU.2 _ (by omega)]; exact h Z2 q2
  · have := bI_0 (hk.1 ▸ c3)
    rw [if_neg (fun e => by rw [this] at e; exact absurd e.1 (by decide))] at h
    exact h Z1 hk.2.1
/-- the ROOM of m times the v-th POINT -/
def mGr (p : Int) (F : Nat → Int) (v m : Int) : Nat := if v + 1 = (pall p F).length then mRm p F m (fun _ => 0) (fun _ => 0) else mRm p F 0 (upf (fun _ => 0) (13 * ((pall p F).getD v.toNat (0, 0)).1 + ((pall p F).getD v.toNat (0, 0)).2).toNat m) (upf (fun _ => 0) ((pall p F).getD v.toNat (0, 0)).1.toNat 1)
theorem ab_0 : ∀ m : Nat, smT m (abF (fun _ => 0)) = 0
  | 0 => rfl
  | m + 1 => by show smT m (abF (fun _ => 0)) + 0 = 0; rw [ab_0 m]; rfl
theorem sp_X12_roomOfPoint {k n : Nat} {x : Wx} {Z : Zt} {Q : Option Value → Wx → Zt → Prop} {b : Nat} {v m : Int} (o : Is12 x b) {p : Int} {F : Nat → Int} (hF : MF Z b p F) (hv : 0 ≤ v ∧ v < (pall p F).length) (hm : 0 ≤ m ∧ m ≤ 4) (h : ∀ Z' : Zt, (MF Z' b p F ∧ Mq b Z Z') → Q (some (i_ (mGr p F v m))) x Z') : V mX12_roomOfPoint k n 0 [some (r_ b), some (i_ v), some (i_ m)] [] x Z Q := by
  have hp := hF.2.1.1
  have hpr := hp.rg
  have hl := pall_len hp F
  unfold mGr at h
  refine b_X12_roomOfPoint_0 o (fun Z1 hz1 => ?_)
  obtain ⟨⟨z1, z2, z3⟩, sf⟩ := hz1
  have F1 := hF.sf sf
  have b15 := F1.1.2.1
  rw [b15]
  refine ⟨⟨by omega, by omega⟩, ⟨by omega, by omega⟩, fun c1 => ?_, fun c1 Z2 e2 => ?_⟩
  · rw [if_neg (by omega)] at h
    obtain ⟨w, rfl⟩ : ∃ w : Nat, v = (w : Int) := ⟨v.toNat, by omega⟩
    rw [Int.toNat_natCast] at h ⊢
    obtain ⟨g1, g2⟩ := F1.1.2.2 w (by omega)
    have hget := pall_get (p := p) (F := F) (k := w) (by omega) (by omega)
    obtain ⟨X, hX⟩ : ∃ X : Int, ((pall p F).getD w (0, 0)).1 = X := ⟨_, rfl⟩
    obtain ⟨y, hy⟩ : ∃ y : Int, ((pall p F).getD w (0, 0)).2 = y := ⟨_, rfl⟩
    rw [hX] at g1 hget h
    rw [hy] at g2 hget h
    rw [g1]
    refine ⟨by omega, by omega, by omega, by omega, fun Z2 e2 => ?_⟩
    have d5 : Z2 (b + 5) w = X := by rw [e2, up_row _ _ _ _ _ (by omega)]; exact g1
    have d6 : Z2 (b + 6) w = y := by rw [e2, up_row _ _ _ _ _ (by omega)]; exact g2
    rw [d5, d6]
    refine ⟨by omega, by omega, fun Z3 e3 => ?_⟩
    have sf3 : SFr b Z Z3 := sf.tr ⟨fun d _ h2 h3 => by rw [e3, up_row _ _ _ _ _ h2, e2, up_row _ _ _ _ _ h3], fun i _ => by rw [e3, up_row _ _ _ _ _ (by omega), e2, up_row _ _ _ _ _ (by omega)]⟩
    refine b_X12_roomOfPoint_56 o ⟨p, 0, F, _, _, hF.sf sf3, ⟨by rw [e3, up_row _ _ _ _ _ (by omega), e2, up_row _ _ _ _ _ (by omega)]; exact z1, fun j hj => ?_, fun q hq => ?_⟩, RmK_of hp ?_ (fun q _ => ?_) (by omega), fun Z4 hz4 => h Z4 ⟨(hF.sf sf3).rm hz4.2, sf3.mq.tr hz4.2.mq⟩⟩
    · rw [e3, up_at, e2, up_row _ _ _ _ _ (by omega)]
      show _ = upf (fun _ => 0) (13 * X + y).toNat m j
      unfold upf
      split
      · rfl
      · exact z2 j hj
    · rw [e3, up_row _ _ _ _ _ (by omega), e2, up_at]
      show _ = upf (fun _ => 0) X.toNat 1 q
      unfold upf
      split
      · rfl
      · exact z3 q hq
    · rw [ab_upf (by omega), ab_0]
      unfold abF
      rw [upf_at]
      omega
    · unfold upf
      split
      · exact Or.inr rfl
      · exact Or.inl rfl
  · rw [if_pos (by omega)] at h
    have sf2 : SFr b Z Z2 := sf.tr ⟨fun d h1 _ _ => by rw [e2, up_row _ _ _ _ _ h1], fun i hi => by rw [e2, up_at, if_neg hi]⟩
    exact b_X12_roomOfPoint_56 o ⟨p, m, F, _, _, hF.sf sf2, ⟨by rw [e2, up_self], fun j hj => by rw [e2, up_row _ _ _ _ _ (by omega)]; exact z2 j hj, fun q hq => by rw [e2, up_row _ _ _ _ _ (by omega)]; exact z3 q hq⟩, RmK_of hp (by rw [ab_0]; decide) (fun q _ => Or.inl rfl) (by omega), fun Z4 hz4 => h Z4 ⟨(hF.sf sf2).rm hz4.2, sf2.mq.tr hz4.2.mq⟩⟩
theorem dX12_gap_0 : decode cX12_gap 0 = .ok (.iload_n 3, 1) := by decide +kernel
theorem dX12_gap_1 : decode cX12_gap 1 = .ok (.ifCond .lt 19, 3) := by decide +kernel
theorem dX12_gap_4 : decode cX12_gap 4 = .ok (.aload_n 0, 1) := by decide +kernel
theorem dX12_gap_5 : decode cX12_gap 5 = .ok (.iload_n 1, 1) := by decide +kernel
theorem dX12_gap_6 : decode cX12_gap 6 = .ok (.invokevirtual 249, 3) := by decide +kernel
theorem dX12_gap_9 : decode cX12_gap 9 = .ok (.ifCond .eq 11, 3) := by decide +kernel
theorem dX12_gap_12 : decode cX12_gap 12 = .ok (.aload_n 0, 1) := by decide +kernel
theorem dX12_gap_13 : decode cX12_gap 13 = .ok (.iload_n 2, 1) := by decide +kernel
theorem dX12_gap_14 : decode cX12_gap 14 = .ok (.invokevirtual 273, 3) := by decide +kernel
theorem dX12_gap_17 : decode cX12_gap 17 = .ok (.ifCond .ne 5, 3) := by decide +kernel
theorem dX12_gap_20 : decode cX12_gap 20 = .ok (.iconst (-1), 1) := by decide +kernel
theorem dX12_gap_21 : decode cX12_gap 21 = .ok (.ireturn, 1) := by decide +kernel
theorem dX12_gap_22 : decode cX12_gap 22 = .ok (.iload_n 3, 1) := by decide +kernel
theorem dX12_gap_23 : decode cX12_gap 23 = .ok (.istore 4, 2) := by decide +kernel
theorem dX12_gap_25 : decode cX12_gap 25 = .ok (.aload_n 0, 1) := by decide +kernel
theorem dX12_gap_26 : decode cX12_gap 26 = .ok (.iload_n 2, 1) := by decide +kernel
theorem dX12_gap_27 : decode cX12_gap 27 = .ok (.iconst 0, 1) := by decide +kernel
theorem dX12_gap_28 : decode cX12_gap 28 = .ok (.invokevirtual 357, 3) := by decide +kernel
theorem dX12_gap_31 : decode cX12_gap 31 = .ok (.istore 5, 2) := by decide +kernel
theorem dX12_gap_33 : decode cX12_gap 33 = .ok (.iconst 1, 1) := by decide +kernel
theorem dX12_gap_34 : decode cX12_gap 34 = .ok (.istore 6, 2) := by decide +kernel
theorem dX12_gap_36 : decode cX12_gap 36 = .ok (.iload 6, 2) := by decide +kernel
theorem dX12_gap_38 : decode cX12_gap 38 = .ok (.iconst 2, 1) := by decide +kernel
theorem dX12_gap_39 : decode cX12_gap 39 = .ok (.aload_n 0, 1) := by decide +kernel
theorem dX12_gap_40 : decode cX12_gap 40 = .ok (.getfield 221, 3) := by decide +kernel
theorem dX12_gap_43 : decode cX12_gap 43 = .ok (.imul, 1) := by decide +kernel
theorem dX12_gap_44 : decode cX12_gap 44 = .ok (.if_icmp .gt 54, 3) := by decide +kernel
theorem dX12_gap_47 : decode cX12_gap 47 = .ok (.aload_n 0, 1) := by decide +kernel
theorem dX12_gap_48 : decode cX12_gap 48 = .ok (.iload_n 2, 1) := by decide +kernel
theorem dX12_gap_49 : decode cX12_gap 49 = .ok (.iload 6, 2) := by decide +kernel
theorem dX12_gap_51 : decode cX12_gap 51 = .ok (.invokevirtual 357, 3) := by decide +kernel
theorem dX12_gap_54 : decode cX12_gap 54 = .ok (.istore 7, 2) := by decide +kernel
theorem dX12_gap_56 : decode cX12_gap 56 = .ok (.iload 7, 2) := by decide +kernel
theorem dX12_gap_58 : decode cX12_gap 58 = .ok (.iload 5, 2) := by decide +kernel
theorem dX12_gap_60 : decode cX12_gap 60 = .ok (.if_icmp .ne 11, 3) := by decide +kernel
theorem dX12_gap_63 : decode cX12_gap 63 = .ok (.iload 4, 2) := by decide +kernel
theorem dX12_gap_65 : decode cX12_gap 65 = .ok (.ifCond .ne 6, 3) := by decide +kernel
theorem dX12_gap_68 : decode cX12_gap 68 = .ok (.iload 6, 2) := by decide +kernel
theorem dX12_gap_70 : decode cX12_gap 70 = .ok (.ireturn, 1) := by decide +kernel
theorem dX12_gap_71 : decode cX12_gap 71 = .ok (.iload 4, 2) := by decide +kernel
theorem dX12_gap_73 : decode cX12_gap 73 = .ok (.iload 7, 2) := by decide +kernel
theorem dX12_gap_75 : decode cX12_gap 75 = .ok (.iload 5, 2) := by decide +kernel
theorem dX12_gap_77 : decode cX12_gap 77 = .ok (.if_icmp .ne 7, 3) := by decide +kernel
theorem dX12_gap_80 : decode cX12_gap 80 = .ok (.iconst 1, 1) := by decide +kernel
theorem dX12_gap_81 : decode cX12_gap 81 = .ok (.goto 4, 3) := by decide +kernel
theorem dX12_gap_84 : decode cX12_gap 84 = .ok (.iconst 0, 1) := by decide +kernel
theorem dX12_gap_85 : decode cX12_gap 85 = .ok (.isub, 1) := by decide +kernel
theorem dX12_gap_86 : decode cX12_gap 86 = .ok (.istore 4, 2) := by decide +kernel
theorem dX12_gap_88 : decode cX12_gap 88 = .ok (.iload 7, 2) := by decide +kernel
theorem dX12_gap_90 : decode cX12_gap 90 = .ok (.istore 5, 2) := by decide +kernel
theorem dX12_gap_92 : decode cX12_gap 92 = .ok (.iinc 6 1, 3) := by decide +kernel
theorem dX12_gap_95 : decode cX12_gap 95 = .ok (.goto (-59), 3) := by decide +kernel
theorem dX12_gap_98 : decode cX12_gap 98 = .ok (.iconst (-1), 1) := by decide +kernel
theorem dX12_gap_99 : decode cX12_gap 99 = .ok (.ireturn, 1) := by decide +kernel
set_option maxRecDepth 20000 in
theorem b_X12_gap_0 {k n : Nat} {x : Wx} {Z : Zt} {Q : Option Value → Wx → Zt → Prop} {a0 : Nat} {v1 : Int} {v2 : Int} {v3 : Int} (o_a0 : Is12 x a0)
    (h : Rg v3 ∧ (((v3 < 0) → (V mX12_gap k n 20 [none, none, none, none, none, none, none, none] [] x Z Q)) ∧ ((0 ≤ v3) → (∃ g1 : Nat → Nat → Int, (∃ g2 : Td, (MT (Z (a0 + 1)) g2 ∧ TdV g2 ∧ MS Z a0 g1 ∧ Rg v1 ∧ (∀ (Z'1 : Zt) (P'1 : Nat → Nat → Int) (r1 : Int), (TkC a0 g2 v1 Z Z'1 g1 P'1 r1) → (Rg r1 ∧ (((r1 = 0) → (V mX12_gap k n 20 [none, none, none, none, none, none, none, none] [] x Z'1 Q)) ∧ ((r1 ≠ 0) → (∃ g3 : List (Int × Int), (Z'1 a0 15 = g3.length ∧ g3.length ≤ 27 ∧ Rg v2 ∧ (∀ (r2 : Int), (((r2 = 1 ∧ 0 ≤ v2 ∧ v2 < g3.length) ∨ (r2 = 0 ∧ ¬ (0 ≤ v2 ∧ v2 < g3.length)))) → (Rg r2 ∧ (((r2 ≠ 0) → (∃ g4 : Int, (∃ g5 : Nat → Int, (MF Z'1 a0 g4 g5 ∧ (0 ≤ v2 ∧ v2 < (pall g4 g5).length) ∧ (0 ≤ (0 : Int) ∧ (0 : Int) ≤ 4) ∧ (∀ (Z'2 : Zt), (MF Z'2 a0 g4 g5 ∧ Mq a0 Z'1 Z'2) → (V mX12_gap k n 36 [some (r_ a0), none, some (i_ v2), none, some (i_ v3), some (i_ (mGr g4 g5 v2 (0 : Int) : Int)), some (i_ 1), none] [] x Z'2 Q)))))) ∧ ((r2 = 0) → (V mX12_gap k n 20 [none, none, none, none, none, none, none, none] [] x Z'1 Q))))))))))))))))) :
    V mX12_gap k n 0 [some (r_ a0), some (i_ v1), some (i_ v2), some (i_ v3), none, none, none, none] [] x Z Q :=
  V_iload_n dX12_gap_0 rfl (V_if_lt (tgt := 20) dX12_gap_1 rfl h.1 (fun c1 => V_msk [false, false, false, false, false, false, false, false] rfl (h.2.1 c1)) (fun c1 => V_aload_n dX12_gap_4 rfl (V_iload_n dX12_gap_5 rfl (Exists.elim (h.2.2 c1) (fun g1 w1 => Exists.elim w1 (fun g2 w2 => V_callV (k' := 0) (n' := 0) (t := 12) (q := (RX12, TX12, 46)) [i_ v1] [] okX12_takesCurve o_a0.1 rfl rfl lm_12_249 liX12_takesCurve lqX12_takesCurve (Nat.le_of_ble_eq_true rfl) (Nat.le_of_ble_eq_true rfl) (Nat.le_of_ble_eq_true rfl) (cat_of rfl) (Nat.le_of_ble_eq_true rfl) (Nat.zero_le _) (Nat.zero_le _) rfl dX12_gap_6 (w_X12_takesCurve o_a0 w2.1 w2.2.1 w2.2.2.1 w2.2.2.2.1 (fun Z'1 P'1 r1 p1 => V_if_eq (tgt := 20) dX12_gap_9 rfl (w2.2.2.2.2 Z'1 P'1 r1 p1).1 (fun c2 => V_msk [false, false, false, false, false, false, false, false] rfl ((w2.2.2.2.2 Z'1 P'1 r1 p1).2.1 c2)) (fun c2 => V_aload_n dX12_gap_12 rfl (V_iload_n dX12_gap_13 rfl (Exists.elim ((w2.2.2.2.2 Z'1 P'1 r1 p1).2.2 c2) (fun g3 w3 => V_callV (k' := 0) (n' := 0) (t := 12) (q := (RX12, TX12, 46)) [i_ v2] [] okX12_isPoint o_a0.1 rfl rfl lm_12_273 liX12_isPoint lqX12_isPoint (Nat.le_of_ble_eq_true rfl) (Nat.le_of_ble_eq_true rfl) (Nat.le_of_ble_eq_true rfl) (cat_of rfl) (Nat.le_of_ble_eq_true rfl) (Nat.zero_le _) (Nat.zero_le _) rfl dX12_gap_14 (sp_X12_isPoint o_a0 w3.1 w3.2.1 w3.2.2.1 (fun r2 p2 => V_if_ne (tgt := 22) dX12_gap_17 rfl (w3.2.2.2 r2 p2).1 (fun c3 => V_iload_n dX12_gap_22 rfl (V_istore (lv' := [some (r_ a0), some (i_ v1), some (i_ v2), some (i_ v3), some (i_ v3), none, none, none]) dX12_gap_23 (Nat.le_of_ble_eq_true rfl) rfl (V_aload_n dX12_gap_25 rfl (V_iload_n dX12_gap_26 rfl (V_iconst dX12_gap_27 (Exists.elim ((w3.2.2.2 r2 p2).2.1 c3) (fun g4 w4 => Exists.elim w4 (fun g5 w5 => V_callV (k' := 0) (n' := 0) (t := 12) (q := (RX12, TX12, 46)) [i_ v2, i_ 0] [] okX12_roomOfPoint o_a0.1 rfl rfl lm_12_357 liX12_roomOfPoint lqX12_roomOfPoint (Nat.le_of_ble_eq_true rfl) (Nat.le_of_ble_eq_true rfl) (Nat.le_of_ble_eq_true rfl) (cat_of rfl) (Nat.le_of_ble_eq_true rfl) (Nat.zero_le _) (Nat.zero_le _) rfl dX12_gap_28 (sp_X12_roomOfPoint o_a0 w5.1 w5.2.1 w5.2.2.1 (fun Z'2 p3 => V_istore (lv' := [some (r_ a0), some (i_ v1), some (i_ v2), some (i_ v3), some (i_ v3), some (i_ (mGr g4 g5 v2 (0 : Int) : Int)), none, none]) dX12_gap_31 (Nat.le_of_ble_eq_true rfl) rfl (V_iconst dX12_gap_33 (V_istore (lv' := [some (r_ a0), some (i_ v1), some (i_ v2), some (i_ v3), some (i_ v3), some (i_ (mGr g4 g5 v2 (0 : Int) : Int)), some (i_ 1), none]) dX12_gap_34 (Nat.le_of_ble_eq_true rfl) rfl (V_msk [true, false, true, false, true, true, true, false] rfl (w5.2.2.2 Z'2 p3)))))))))))))) (fun c3 => V_msk [false, false, false, false, false, false, false, false] rfl ((w3.2.2.2 r2 p2).2.2 c3))))))))))))))))
set_option maxRecDepth 20000 in
theorem b_X12_gap_20 {k n : Nat} {x : Wx} {Z : Zt} {Q : Option Value → Wx → Zt → Prop}  
    (h : Q (some (i_ (-1))) x Z) :
    V mX12_gap k n 20 [none, none, none, none, none, none, none, none] [] x Z Q :=
  V_iconst dX12_gap_20 (V_iret (ty := .int) dX12_gap_21 rfl rfl h)
set_option maxRecDepth 20000 in
theorem b_X12_gap_36 {k n : Nat} {x : Wx} {Z : Zt} {Q : Option Value → Wx → Zt → Prop} {a0 : Nat} {v2 : Int} {v4 : Int} {v5 : Int} {v6 : Int} (o_a0 : Is12 x a0)
    (h : Rg v6 ∧ Rg (2 * (Z a0 12)) ∧ (((2 * (Z a0 12) < v6) → (Q (some (i_ (-1))) x Z)) ∧ ((v6 ≤ 2 * (Z a0 12)) → (∃ g1 : Int, (∃ g2 : Nat → Int, (MF Z a0 g1 g2 ∧ (0 ≤ v2 ∧ v2 < (pall g1 g2).length) ∧ (0 ≤ v6 ∧ v6 ≤ 4) ∧ (∀ (Z'1 : Zt), (MF Z'1 a0 g1 g2 ∧ Mq a0 Z Z'1) → (Rg (mGr g1 g2 v2 v6 : Int) ∧ Rg v5 ∧ ((((mGr g1 g2 v2 v6 : Int) ≠ v5) → (V mX12_gap k n 71 [some (r_ a0), none, some (i_ v2), none, some (i_ v4), some (i_ v5), some (i_ v6), some (i_ (mGr g1 g2 v2 v6 : Int))] [] x Z'1 Q)) ∧ (((mGr g1 g2 v2 v6 : Int) = v5) → (Rg v4 ∧ (((v4 ≠ 0) → (V mX12_gap k n 71 [some (r_ a0), none, some (i_ v2), none, some (i_ v4), some (i_ v5), some (i_ v6), some (i_ (mGr g1 g2 v2 v6 : Int))] [] x Z'1 Q)) ∧ ((v4 = 0) → (Q (some (i_ v6)) x Z'1)))))))))))))) :
    V mX12_gap k n 36 [some (r_ a0), none, some (i_ v2), none, some (i_ v4), some (i_ v5), some (i_ v6), none] [] x Z Q :=
  V_iload dX12_gap_36 rfl (V_iconst dX12_gap_38 (V_aload_n dX12_gap_39 rfl (G_12_12 o_a0.1 lf_12_221 dX12_gap_40 (V_imul dX12_gap_43 (V_icmp_gt (tgt := 98) dX12_gap_44 rfl h.1 h.2.1 (fun c1 => V_iconst dX12_gap_98 (V_iret (ty := .int) dX12_gap_99 rfl rfl (h.2.2.1 c1))) (fun c1 => V_aload_n dX12_gap_47 rfl (V_iload_n dX12_gap_48 rfl (V_iload dX12_gap_49 rfl (Exists.elim (h.2.2.2 c1) (fun g1 w1 => Exists.elim w1 (fun g2 w2 => V_callV (k' := 0) (n' := 0) (t := 12) (q := (RX12, TX12, 46)) [i_ v2, i_ v6] [] okX12_roomOfPoint o_a0.1 rfl rfl lm_12_357 liX12_roomOfPoint lqX12_roomOfPoint (Nat.le_of_ble_eq_true rfl) (Nat.le_of_ble_eq_true rfl) (Nat.le_of_ble_eq_true rfl) (cat_of rfl) (Nat.le_of_ble_eq_true rfl) (Nat.zero_le _) (Nat.zero_le _) rfl dX12_gap_51 (sp_X12_roomOfPoint o_a0 w2.1 w2.2.1 w2.2.2.1 (fun Z'1 p1 => V_istore (lv' := [some (r_ a0), none, some (i_ v2), none, some (i_ v4), some (i_ v5), some (i_ v6), some (i_ (mGr g1 g2 v2 v6 : Int))]) dX12_gap_54 (Nat.le_of_ble_eq_true rfl) rfl (V_iload dX12_gap_56 rfl (V_iload dX12_gap_58 rfl (V_icmp_ne (tgt := 71) dX12_gap_60 rfl (w2.2.2.2 Z'1 p1).1 (w2.2.2.2 Z'1 p1).2.1 (fun c2 => V_msk [true, false, true, false, true, true, true, true] rfl ((w2.2.2.2 Z'1 p1).2.2.1 c2)) (fun c2 => V_iload dX12_gap_63 rfl (V_if_ne (tgt := 71) dX12_gap_65 rfl ((w2.2.2.2 Z'1 p1).2.2.2 c2).1 (fun c3 => V_msk [true, false, true, false, true, true, true, true] rfl (((w2.2.2.2 Z'1 p1).2.2.2 c2).2.1 c3)) (fun c3 => V_iload dX12_gap_68 rfl (V_iret (ty := .int) dX12_gap_70 rfl rfl (((w2.2.2.2 Z'1 p1).2.2.2 c2).2.2 c3)))))))))))))))))))))
set_option maxRecDepth 20000 in
theorem b_X12_gap_71 {k n : Nat} {x : Wx} {Z : Zt} {Q : Option Value → Wx → Zt → Prop} {a0 : Nat} {v2 : Int} {v4 : Int} {v5 : Int} {v6 : Int} {v7 : Int} 
    (h : Rg v7 ∧ Rg v5 ∧ (((v7 ≠ v5) → (V mX12_gap k n 85 [some (r_ a0), none, some (i_ v2), none, none, none, some (i_ v6), some (i_ v7)] [i_ 0, i_ v4] x Z Q)) ∧ ((v7 = v5) → (V mX12_gap k n 85 [some (r_ a0), none, some (i_ v2), none, none, none, some (i_ v6), some (i_ v7)] [i_ 1, i_ v4] x Z Q)))) :
    V mX12_gap k n 71 [some (r_ a0), none, some (i_ v2), none, some (i_ v4), some (i_ v5), some (i_ v6), some (i_ v7)] [] x Z Q :=
  V_iload dX12_gap_71 rfl (V_iload dX12_gap_73 rfl (V_iload dX12_gap_75 rfl (V_icmp_ne (tgt := 84) dX12_gap_77 rfl h.1 h.2.1 (fun c1 => V_iconst dX12_gap_84 (V_msk [true, false, true, false, false, false, true, true] rfl (h.2.2.1 c1))) (fun c1 => V_iconst dX12_gap_80 (V_goto (tgt := 85) dX12_gap_81 rfl (V_msk [true, false, true, false, false, false, true, true] rfl (h.2.2.2 c1)))))))
set_option maxRecDepth 20000 in
theorem b_X12_gap_85 {k n : Nat} {x : Wx} {Z : Zt} {Q : Option Value → Wx → Zt → Prop} {a0 : Nat} {v2 : Int} {v6 : Int} {v7 : Int} {t0 : Int} {t1 : Int} 
    (h : V mX12_gap k n 36 [some (r_ a0), none, some (i_ v2), none, some (i_ (t0 - t1)), some (i_ v7), some (i_ (v6 + 1)), none] [] x Z Q) :
    V mX12_gap k n 85 [some (r_ a0), none, some (i_ v2), none, none, none, some (i_ v6), some (i_ v7)] [i_ t1, i_ t0] x Z Q :=
  V_isub dX12_gap_85 (V_istore (lv' := [some (r_ a0), none, some (i_ v2), none, some (i_ (t0 - t1)), none, some (i_ v6), some (i_ v7)]) dX12_gap_86 (Nat.le_of_ble_eq_true rfl) rfl (V_iload dX12_gap_88 rfl (V_istore (lv' := [some (r_ a0), none, some (i_ v2), none, some (i_ (t0 - t1)), some (i_ v7), some (i_ v6), some (i_ v7)]) dX12_gap_90 (Nat.le_of_ble_eq_true rfl) rfl (V_iinc (lv' := [some (r_ a0), none, some (i_ v2), none, some (i_ (t0 - t1)), some (i_ v7), some (i_ (v6 + 1)), some (i_ v7)]) dX12_gap_92 rfl (Nat.le_of_ble_eq_true rfl) rfl (V_goto (tgt := 36) dX12_gap_95 rfl (V_msk [true, false, true, false, true, true, true, false] rfl h))))))
def mGl (p : Int) (F : Nat → Int) (v : Int) : Nat → Int → Int → Int → Int
  | 0, _, _, _ => -1
  | q + 1, m, left, was => if (mGr p F v m : Int) = was ∧ left = 0 then m else mGl p F v q (m + 1) (if (mGr p F v m : Int) = was then left - 1 else left) (mGr p F v m)
def mAGap (T : Td) (c v i : Int) : Int := if (0 ≤ c ∧ c < T.ct 0) ∧ (0 ≤ v ∧ v < (T.L c.toNat).length) ∧ 0 ≤ i then mGl (T.p c.toNat) (T.F c.toNat) v (2 * gen (T.F c.toNat)).toNat 1 i (mGr (T.p c.toNat) (T.F c.toNat) v 0) else -1
theorem mGr_le {p : Int} (hp : IsP p) {F : Nat → Int} {v m : Int} (hv : 0 ≤ v ∧ v < (pall p F).length) (hm : 0 ≤ m ∧ m ≤ 4) : mGr p F v m ≤ 96 := by
  have hpr := hp.rg
  unfold mGr
  split
  · exact mRm_le hp (RmK_of hp (by rw [ab_0]; decide) (fun q _ => Or.inl rfl) (by omega))
  · have hget := pall_get (p := p) (F := F) (k := v.toNat) (by omega) (by omega)
    refine mRm_le hp (RmK_of hp ?_ (fun q _ => ?_) (by omega))
    · rw [ab_upf (by omega), ab_0]
      unfold abF
      rw [upf_at]
      omega
    · unfold upf
      split
      · exact Or.inr rfl
      · exact Or.inl rfl
theorem sp_X12_gap {k n : Nat} {x : Wx} {Z : Zt} {Q : Option Value → Wx → Zt → Prop} {b : Nat} {c v i : Int} {S : Ab} (hI : MI x Z b S) (hV : AbV S) (hc : Rg c) (hv : Rg v) (hi : Rg i) (h : RAm b x Z Q (mAGap S.nw c v i)) : V mX12_gap k n 0 [some (r_ b), some (i_ c), some (i_ v), some (i_ i), none, none, none, none] [] x Z Q := by
  obtain ⟨o, hT, _⟩ := id hI
  unfold mAGap at h
  have no : ∀ Z' : Zt, Mq b Z Z' → ¬ ((0 ≤ c ∧ c < S.nw.ct 0) ∧ (0 ≤ v ∧ v < (S.nw.L c.toNat).length) ∧ 0 ≤ i) → V mX12_gap k n 20 [none, none, none, none, none, none, none, none] [] x Z' Q := fun Z' h1 h2 => b_X12_gap_20 (by rw [if_neg h2] at h; exact h Z' h1)
  refine b_X12_gap_0 o ⟨hi, fun c1 => no Z Mq.rf (fun e => by have := e.2.2; omega), fun c1 => ⟨_, S.nw, hT, hV.1, MS.any, hc, fun Z1 P1 r1 ht => ⟨ht.rg.1, fun c2 => no Z1 (ht.no c2).2 (fun e => (ht.no c2).1 e.1), fun c2 => ?_⟩⟩⟩
  obtain ⟨hcc, hF, hq⟩ := ht.yes hV.1 c2
  have eL : S.nw.L c.toNat = pall (S.nw.p c.toNat) (S.nw.F c.toNat) := rfl
  rw [eL] at h no
  obtain ⟨p, hp'⟩ : ∃ p : Int, S.nw.p c.toNat = p := ⟨_, rfl⟩
  obtain ⟨F, hF'⟩ : ∃ F : Nat → Int, S.nw.F c.toNat = F := ⟨_, rfl⟩
  rw [hp', hF'] at h hF no
  have hp := hF.2.1.1
  have hpr := hp.rg
  have hl := pall_len hp F
  have hgn := gen_rg F
  refine ⟨pall p F, hF.1.2.1, hl.2, hv, fun r2 h2 => ⟨⟨by omega, by omega⟩, fun c3 => ?_, fun c3 => no Z1 hq (fun e => by have := e.2.1; omega)⟩⟩
  have hvv : 0 ≤ v ∧ v < (pall p F).length := by omega
  rw [if_pos ⟨hcc, hvv, c1⟩] at h
  generalize hR : mGl p F v (2 * gen F).toNat 1 i (mGr p F v 0) = R at h
  have lp : ∀ (q : Nat) (m left was : Int) (Z2 : Zt), 1 ≤ m → m + q = 2 * gen F + 1 → (left ≤ 2147483647 ∧ 1 - m ≤ left) → (0 ≤ was ∧ was ≤ 96) → MF Z2 b p F → Mq b Z Z2 → mGl p F v q m left was = R → V mX12_gap k n 36 [some (r_ b), none, some (i_ v), none, some (i_ left), some (i_ was), some (i_ m), none] [] x Z2 Q := by
    intro q
    induction q with
    | zero =>
      intro m left was Z2 hm hq2 hl2 hw F2 q2 he
      have he : (-1 : Int) = R := he
      have e12 : Z2 b 12 = gen F := F2.1.1.2
      refine b_X12_gap_36 o ?_
      rw [e12]
      refine ⟨⟨by omega, by omega⟩, ⟨by omega, by omega⟩, fun _ => ?_, fun cc => by omega⟩
      rw [← he] at h; exact h Z2 q2
    | succ q ih =>
      intro m left was Z2 hm hq2 hl2 hw F2 q2 he
      have e12 : Z2 b 12 = gen F := F2.1.1.2
      have hgr := mGr_le hp (F := F) (v := v) (m := m) hvv (by omega)
      unfold mGl at he
      refine b_X12_gap_36 o ?_
      rw [e12]
      refine ⟨⟨by omega, by omega⟩, ⟨by omega, by omega⟩, fun cc => by omega, fun _ => ⟨p, F, F2, hvv, by omega, fun Z3 hz3 => ?_⟩⟩
      have q3 := q2.tr hz3.2
      have nx : ∀ l2 : Int, ¬ ((mGr p F v m : Int) = was ∧ left = 0) → l2 = (if (mGr p F v m : Int) = was then left - 1 else left) → V mX12_gap k n 36 [some (r_ b), none, some (i_ v), none, some (i_ l2), some (i_ (mGr p F v m : Int)), some (i_ (m + 1)), none] [] x Z3 Q := fun l2 hn h2 => by
        rw [if_neg hn, ← h2] at he
        refine ih (m + 1) l2 (mGr p F v m : Int) Z3 (by omega) (by omega) ?_ (by omega) hz3.1 q3 he
        rw [h2]
        split <;> omega
      refine ⟨⟨by omega, by omega⟩, ⟨by omega, by omega⟩, fun c4 => b_X12_gap_71 ⟨⟨by omega, by omega⟩, ⟨by omega, by omega⟩, fun _ => b_X12_gap_85 ?_, fun c5 => absurd c5 c4⟩, fun c4 => ⟨⟨by omega, by omega⟩, fun c5 => b_X12_gap_71 ⟨⟨by omega, by omega⟩, ⟨by omega, by omega⟩, fun c6 => absurd c4 c6, fun _ => b_X12_gap_85 ?_⟩, fun c5 => ?_⟩⟩
      · rw [show left - 0 = left from by omega]
        exact nx left (fun e => c4 e.1) (by rw [if_neg c4])
      · exact nx (left - 1) (fun e => c5 e.2) (by rw [if_pos c4])
      · rw [if_pos ⟨c4, c5⟩] at he
        rw [← he] at h; exact h Z3 q3
  have hg0 := mGr_le hp (F := F) (v := v) (m := 0) hvv (by omega)
  have hir := hi.2
  exact ⟨p, F, hF, hvv, by omega, fun Z2 hz2 => lp (2 * gen F).toNat 1 i (mGr p F v 0 : Int) Z2 (by omega) (by omega) (by omega) (by omega) hz2.1 (hq.tr hz2.2) hR⟩
