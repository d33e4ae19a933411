/-! ===== Poly: division with rest ===== -/
def dstep (p : Int) (g : Nat → Int) (d : Nat) (iv : Int) (i : Nat) (f : Nat → Int) : Nat → Int := fun t => if i - d ≤ t ∧ t ≤ i then (f t - (f i * iv % p) * g (t - (i - d))) % p else f t
def dvr (p : Int) (g : Nat → Int) (d : Nat) (iv : Int) : Nat → (Nat → Int) → (Nat → Int)
  | 0, f => f
  | m + 1, f => dvr p g d iv m (dstep p g d iv (d + m) f)
def dvq (p : Int) (g : Nat → Int) (d : Nat) (iv : Int) : Nat → (Nat → Int) → (Nat → Int)
  | 0, _ => fun _ => 0
  | m + 1, f => fun t => if t = m then f (d + m) * iv % p else dvq p g d iv m (dstep p g d iv (d + m) f) t
/-- the degree, -1 of 0 -/
def pd (f : Nat → Int) : Int := dg f 24
def dvR (p : Int) (f g : Nat → Int) : Nat → Int := dvr p g (pd g).toNat (inv p (g (pd g).toNat)) (pd f - pd g + 1).toNat f
def dvQ (p : Int) (f g : Nat → Int) : Nat → Int := dvq p g (pd g).toNat (inv p (g (pd g).toNat)) (pd f - pd g + 1).toNat f
theorem dg_pd {f : Nat → Int} {N : Nat} (hN : N ≤ 24) (h : ∀ i, N ≤ i → f i = 0) : dg f N = pd f := (dg_ext f 24 N hN (fun i h1 _ => h i h1)).symm
def InP (p : Int) (f : Nat → Int) : Prop := ∀ i, 0 ≤ f i ∧ f i < p
theorem dstep_in {p : Int} {g f : Nat → Int} {d i : Nat} {iv : Int} (hp : 0 < p) (hf : InP p f) : InP p (dstep p g d iv i f) := fun t => by
  unfold dstep
  split
  · exact emr _ hp
  · exact hf t
theorem dvr_in {p : Int} {g : Nat → Int} {d : Nat} {iv : Int} (hp : 0 < p) : ∀ (m : Nat) (f : Nat → Int), InP p f → InP p (dvr p g d iv m f)
  | 0, f, h => h
  | m + 1, f, h => dvr_in hp m _ (dstep_in hp h)
theorem dvq_in {p : Int} {g : Nat → Int} {d : Nat} {iv : Int} (hp : 0 < p) : ∀ (m : Nat) (f : Nat → Int), InP p (dvq p g d iv m f)
  | 0, f => fun t => ⟨by show (0 : Int) ≤ 0; decide, by show (0 : Int) < p; exact hp⟩
  | m + 1, f => fun t => by
    unfold dvq
    split
    · exact emr _ hp
    · exact dvq_in hp m _ t
theorem dstep_hi {p : Int} {g f : Nat → Int} {d i : Nat} {iv : Int} {t : Nat} (h : i < t) : dstep p g d iv i f t = f t := by
  unfold dstep
  rw [if_neg (by omega)]
theorem dvr_hi {p : Int} {g : Nat → Int} {d : Nat} {iv : Int} : ∀ (m : Nat) (f : Nat → Int) (t : Nat), d + m ≤ t → dvr p g d iv m f t = f t
  | 0, f, t, h => rfl
  | m + 1, f, t, h => by
    show dvr p g d iv m _ t = _
    rw [dvr_hi m _ t (by omega), dstep_hi (by omega)]
theorem dvq_hi {p : Int} {g : Nat → Int} {d : Nat} {iv : Int} : ∀ (m : Nat) (f : Nat → Int) (t : Nat), m ≤ t → dvq p g d iv m f t = 0
  | 0, f, t, h => rfl
  | m + 1, f, t, h => by
    unfold dvq
    rw [if_neg (by omega)]
    exact dvq_hi m _ t (by omega)
theorem inv_bd {p : Int} (hp : p ≤ 13) (h3 : 0 ≤ p) (v : Int) : 0 ≤ inv p v ∧ inv p v ≤ 13 := by
  have : ∀ m : Nat, (m : Int) ≤ p → 0 ≤ invL p v m ∧ invL p v m ≤ 13 := by
    intro m
    induction m with
    | zero => intro _; exact ⟨Int.le_refl 0, by show (0 : Int) ≤ 13; decide⟩
    | succ m ih =>
      intro hm
      have := ih (by omega)
      unfold invL
      split <;> omega
  unfold inv
  split
  · exact this p.toNat (by omega)
  · omega
theorem dX7_divide_0 : decode cX7_divide 0 = .ok (.aload_n 3, 1) := by decide +kernel
theorem dX7_divide_1 : decode cX7_divide 1 = .ok (.getfield 15, 3) := by decide +kernel
theorem dX7_divide_4 : decode cX7_divide 4 = .ok (.iconst 0, 1) := by decide +kernel
theorem dX7_divide_5 : decode cX7_divide 5 = .ok (.invokestatic 19, 3) := by decide +kernel
theorem dX7_divide_8 : decode cX7_divide 8 = .ok (.aload_n 3, 1) := by decide +kernel
theorem dX7_divide_9 : decode cX7_divide 9 = .ok (.iconst (-1), 1) := by decide +kernel
theorem dX7_divide_10 : decode cX7_divide 10 = .ok (.putfield 9, 3) := by decide +kernel
theorem dX7_divide_13 : decode cX7_divide 13 = .ok (.aload_n 2, 1) := by decide +kernel
theorem dX7_divide_14 : decode cX7_divide 14 = .ok (.getfield 9, 3) := by decide +kernel
theorem dX7_divide_17 : decode cX7_divide 17 = .ok (.istore 4, 2) := by decide +kernel
theorem dX7_divide_19 : decode cX7_divide 19 = .ok (.iload 4, 2) := by decide +kernel
theorem dX7_divide_21 : decode cX7_divide 21 = .ok (.ifCond .ge 4, 3) := by decide +kernel
theorem dX7_divide_24 : decode cX7_divide 24 = .ok (.return_, 1) := by decide +kernel
theorem dX7_divide_25 : decode cX7_divide 25 = .ok (.aload_n 1, 1) := by decide +kernel
theorem dX7_divide_26 : decode cX7_divide 26 = .ok (.aload_n 2, 1) := by decide +kernel
theorem dX7_divide_27 : decode cX7_divide 27 = .ok (.getfield 15, 3) := by decide +kernel
theorem dX7_divide_30 : decode cX7_divide 30 = .ok (.iload 4, 2) := by decide +kernel
theorem dX7_divide_32 : decode cX7_divide 32 = .ok (.iaload, 1) := by decide +kernel
theorem dX7_divide_33 : decode cX7_divide 33 = .ok (.invokevirtual 50, 3) := by decide +kernel
theorem dX7_divide_36 : decode cX7_divide 36 = .ok (.istore 5, 2) := by decide +kernel
theorem dX7_divide_38 : decode cX7_divide 38 = .ok (.aload_n 0, 1) := by decide +kernel
theorem dX7_divide_39 : decode cX7_divide 39 = .ok (.getfield 9, 3) := by decide +kernel
theorem dX7_divide_42 : decode cX7_divide 42 = .ok (.istore 6, 2) := by decide +kernel
theorem dX7_divide_44 : decode cX7_divide 44 = .ok (.iload 6, 2) := by decide +kernel
theorem dX7_divide_46 : decode cX7_divide 46 = .ok (.istore 7, 2) := by decide +kernel
theorem dX7_divide_48 : decode cX7_divide 48 = .ok (.iload 7, 2) := by decide +kernel
theorem dX7_divide_50 : decode cX7_divide 50 = .ok (.iload 4, 2) := by decide +kernel
theorem dX7_divide_52 : decode cX7_divide 52 = .ok (.if_icmp .lt 94, 3) := by decide +kernel
theorem dX7_divide_55 : decode cX7_divide 55 = .ok (.aload_n 1, 1) := by decide +kernel
theorem dX7_divide_56 : decode cX7_divide 56 = .ok (.aload_n 0, 1) := by decide +kernel
theorem dX7_divide_57 : decode cX7_divide 57 = .ok (.getfield 15, 3) := by decide +kernel
theorem dX7_divide_60 : decode cX7_divide 60 = .ok (.iload 7, 2) := by decide +kernel
theorem dX7_divide_62 : decode cX7_divide 62 = .ok (.iaload, 1) := by decide +kernel
theorem dX7_divide_63 : decode cX7_divide 63 = .ok (.iload 5, 2) := by decide +kernel
theorem dX7_divide_65 : decode cX7_divide 65 = .ok (.imul, 1) := by decide +kernel
theorem dX7_divide_66 : decode cX7_divide 66 = .ok (.invokevirtual 44, 3) := by decide +kernel
theorem dX7_divide_69 : decode cX7_divide 69 = .ok (.istore 8, 2) := by decide +kernel
theorem dX7_divide_71 : decode cX7_divide 71 = .ok (.aload_n 3, 1) := by decide +kernel
theorem dX7_divide_72 : decode cX7_divide 72 = .ok (.getfield 15, 3) := by decide +kernel
theorem dX7_divide_75 : decode cX7_divide 75 = .ok (.iload 7, 2) := by decide +kernel
theorem dX7_divide_77 : decode cX7_divide 77 = .ok (.iload 4, 2) := by decide +kernel
theorem dX7_divide_79 : decode cX7_divide 79 = .ok (.isub, 1) := by decide +kernel
theorem dX7_divide_80 : decode cX7_divide 80 = .ok (.iload 8, 2) := by decide +kernel
theorem dX7_divide_82 : decode cX7_divide 82 = .ok (.iastore, 1) := by decide +kernel
theorem dX7_divide_83 : decode cX7_divide 83 = .ok (.iconst 0, 1) := by decide +kernel
theorem dX7_divide_84 : decode cX7_divide 84 = .ok (.istore 9, 2) := by decide +kernel
theorem dX7_divide_86 : decode cX7_divide 86 = .ok (.iload 9, 2) := by decide +kernel
theorem dX7_divide_88 : decode cX7_divide 88 = .ok (.iload 4, 2) := by decide +kernel
theorem dX7_divide_90 : decode cX7_divide 90 = .ok (.if_icmp .gt 50, 3) := by decide +kernel
theorem dX7_divide_93 : decode cX7_divide 93 = .ok (.aload_n 0, 1) := by decide +kernel
theorem dX7_divide_94 : decode cX7_divide 94 = .ok (.getfield 15, 3) := by decide +kernel
theorem dX7_divide_97 : decode cX7_divide 97 = .ok (.iload 7, 2) := by decide +kernel
theorem dX7_divide_99 : decode cX7_divide 99 = .ok (.iload 4, 2) := by decide +kernel
theorem dX7_divide_101 : decode cX7_divide 101 = .ok (.isub, 1) := by decide +kernel
theorem dX7_divide_102 : decode cX7_divide 102 = .ok (.iload 9, 2) := by decide +kernel
theorem dX7_divide_104 : decode cX7_divide 104 = .ok (.iadd, 1) := by decide +kernel
theorem dX7_divide_105 : decode cX7_divide 105 = .ok (.aload_n 1, 1) := by decide +kernel
theorem dX7_divide_106 : decode cX7_divide 106 = .ok (.aload_n 0, 1) := by decide +kernel
theorem dX7_divide_107 : decode cX7_divide 107 = .ok (.getfield 15, 3) := by decide +kernel
theorem dX7_divide_110 : decode cX7_divide 110 = .ok (.iload 7, 2) := by decide +kernel
theorem dX7_divide_112 : decode cX7_divide 112 = .ok (.iload 4, 2) := by decide +kernel
theorem dX7_divide_114 : decode cX7_divide 114 = .ok (.isub, 1) := by decide +kernel
theorem dX7_divide_115 : decode cX7_divide 115 = .ok (.iload 9, 2) := by decide +kernel
theorem dX7_divide_117 : decode cX7_divide 117 = .ok (.iadd, 1) := by decide +kernel
theorem dX7_divide_118 : decode cX7_divide 118 = .ok (.iaload, 1) := by decide +kernel
theorem dX7_divide_119 : decode cX7_divide 119 = .ok (.iload 8, 2) := by decide +kernel
theorem dX7_divide_121 : decode cX7_divide 121 = .ok (.aload_n 2, 1) := by decide +kernel
theorem dX7_divide_122 : decode cX7_divide 122 = .ok (.getfield 15, 3) := by decide +kernel
theorem dX7_divide_125 : decode cX7_divide 125 = .ok (.iload 9, 2) := by decide +kernel
theorem dX7_divide_127 : decode cX7_divide 127 = .ok (.iaload, 1) := by decide +kernel
theorem dX7_divide_128 : decode cX7_divide 128 = .ok (.imul, 1) := by decide +kernel
theorem dX7_divide_129 : decode cX7_divide 129 = .ok (.isub, 1) := by decide +kernel
theorem dX7_divide_130 : decode cX7_divide 130 = .ok (.invokevirtual 44, 3) := by decide +kernel
theorem dX7_divide_133 : decode cX7_divide 133 = .ok (.iastore, 1) := by decide +kernel
theorem dX7_divide_134 : decode cX7_divide 134 = .ok (.iinc 9 1, 3) := by decide +kernel
theorem dX7_divide_137 : decode cX7_divide 137 = .ok (.goto (-51), 3) := by decide +kernel
theorem dX7_divide_140 : decode cX7_divide 140 = .ok (.iinc 7 (-1), 3) := by decide +kernel
theorem dX7_divide_143 : decode cX7_divide 143 = .ok (.goto (-95), 3) := by decide +kernel
theorem dX7_divide_146 : decode cX7_divide 146 = .ok (.aload_n 3, 1) := by decide +kernel
theorem dX7_divide_147 : decode cX7_divide 147 = .ok (.iload 6, 2) := by decide +kernel
theorem dX7_divide_149 : decode cX7_divide 149 = .ok (.iload 4, 2) := by decide +kernel
theorem dX7_divide_151 : decode cX7_divide 151 = .ok (.isub, 1) := by decide +kernel
theorem dX7_divide_152 : decode cX7_divide 152 = .ok (.invokevirtual 31, 3) := by decide +kernel
theorem dX7_divide_155 : decode cX7_divide 155 = .ok (.aload_n 0, 1) := by decide +kernel
theorem dX7_divide_156 : decode cX7_divide 156 = .ok (.iload 6, 2) := by decide +kernel
theorem dX7_divide_158 : decode cX7_divide 158 = .ok (.invokevirtual 31, 3) := by decide +kernel
theorem dX7_divide_161 : decode cX7_divide 161 = .ok (.return_, 1) := by decide +kernel
set_option maxRecDepth 20000 in
theorem b_X7_divide_0 {k n : Nat} {x : Wx} {Z : Zt} {Q : Option Value → Wx → Zt → Prop} {a0 : Nat} {a1 : Nat} {a2 : Nat} {a3 : Nat} (o_a3 : Is7 x a3) (o_a2 : Is7 x a2) (o_a1 : Is4 x a1) (o_a0 : Is7 x a0)
    (h : ∀ Z1 : Zt, Z1 = fillZ Z (a3 + 1) 10 (0 : Int) → (∀ Z2 : Zt, Z2 = up Z1 a3 0 (-1) → (Rg (Z2 a2 0) ∧ (((0 ≤ Z2 a2 0) → (Z2 a2 0 < 10 ∧ (0 ≤ (Z2 (a2 + 1) (Z2 a2 0).toNat) ∧ (Z2 (a2 + 1) (Z2 a2 0).toNat) < 13 ∧ (V mX7_divide k n 48 [some (r_ a0), some (r_ a1), some (r_ a2), some (r_ a3), some (i_ (Z2 a2 0)), some (i_ (Z2 (a1 + 1) (Int.toNat (Z2 (a2 + 1) (Z2 a2 0).toNat)))), some (i_ (Z2 a0 0)), some (i_ (Z2 a0 0)), none, none] [] x Z2 Q)))) ∧ ((Z2 a2 0 < 0) → (Q none x Z2)))))) :
    V mX7_divide k n 0 [some (r_ a0), some (r_ a1), some (r_ a2), some (r_ a3), none, none, none, none, none, none] [] x Z Q :=
  V_aload_n dX7_divide_0 rfl (G_7_1 o_a3.1 o_a3.2.1 lf_7_15 dX7_divide_1 (V_iconst dX7_divide_4 (V_callS (k' := 0) (n' := 0) [r_ (a3 + 1), i_ 0] [] okJ7_fill_53178 lm_7_19 lsJ7_fill_53178 (Nat.le_of_ble_eq_true rfl) (Nat.le_of_ble_eq_true rfl) (Nat.le_of_ble_eq_true rfl) (cat_of rfl) (Nat.le_of_ble_eq_true rfl) (Nat.zero_le _) (Nat.zero_le _) rfl dX7_divide_5 (sp_J7_fill_53178 o_a3.2.2 (Nat.le_of_ble_eq_true rfl)  (V_nmZ (fun Z1 eZ1 => V_aload_n dX7_divide_8 rfl (V_iconst dX7_divide_9 (P_7_0 o_a3.1 lf_7_9 dX7_divide_10 (V_nmZ (fun Z2 eZ2 => V_aload_n dX7_divide_13 rfl (G_7_0 o_a2.1 lf_7_9 dX7_divide_14 (V_istore (lv' := [some (r_ a0), some (r_ a1), some (r_ a2), some (r_ a3), some (i_ (Z2 a2 0)), none, none, none, none, none]) dX7_divide_17 (Nat.le_of_ble_eq_true rfl) rfl (V_iload dX7_divide_19 rfl (V_if_ge (tgt := 25) dX7_divide_21 rfl ((h Z1 eZ1) Z2 eZ2).1 (fun c1 => V_aload_n dX7_divide_25 rfl (V_aload_n dX7_divide_26 rfl (G_7_1 o_a2.1 o_a2.2.1 lf_7_15 dX7_divide_27 (V_iload dX7_divide_30 rfl (V_iald (t := 100) o_a2.2.2 (by decide) rfl c1 (((h Z1 eZ1) Z2 eZ2).2.1 c1).1 (Nat.le_of_ble_eq_true rfl) dX7_divide_32 (V_callV (k' := 0) (n' := 0) (t := 4) (q := (RX4, TX4, 4)) [i_ (Z2 (a2 + 1) (Z2 a2 0).toNat)] [] okX4_inverse o_a1.1 rfl rfl lm_7_50 liX4_inverse lqX4_inverse (Nat.le_of_ble_eq_true rfl) (Nat.le_of_ble_eq_true rfl) (Nat.le_of_ble_eq_true rfl) (cat_of rfl) (Nat.le_of_ble_eq_true rfl) (Nat.zero_le _) (Nat.zero_le _) rfl dX7_divide_33 (sp_X4_inverse o_a1 (((h Z1 eZ1) Z2 eZ2).2.1 c1).2.1 (((h Z1 eZ1) Z2 eZ2).2.1 c1).2.2.1 (V_istore (lv' := [some (r_ a0), some (r_ a1), some (r_ a2), some (r_ a3), some (i_ (Z2 a2 0)), some (i_ (Z2 (a1 + 1) (Int.toNat (Z2 (a2 + 1) (Z2 a2 0).toNat)))), none, none, none, none]) dX7_divide_36 (Nat.le_of_ble_eq_true rfl) rfl (V_aload_n dX7_divide_38 rfl (G_7_0 o_a0.1 lf_7_9 dX7_divide_39 (V_istore (lv' := [some (r_ a0), some (r_ a1), some (r_ a2), some (r_ a3), some (i_ (Z2 a2 0)), some (i_ (Z2 (a1 + 1) (Int.toNat (Z2 (a2 + 1) (Z2 a2 0).toNat)))), some (i_ (Z2 a0 0)), none, none, none]) dX7_divide_42 (Nat.le_of_ble_eq_true rfl) rfl (V_iload dX7_divide_44 rfl (V_istore (lv' := [some (r_ a0), some (r_ a1), some (r_ a2), some (r_ a3), some (i_ (Z2 a2 0)), some (i_ (Z2 (a1 + 1) (Int.toNat (Z2 (a2 + 1) (Z2 a2 0).toNat)))), some (i_ (Z2 a0 0)), some (i_ (Z2 a0 0)), none, none]) dX7_divide_46 (Nat.le_of_ble_eq_true rfl) rfl (V_msk [true, true, true, true, true, true, true, true, false, false] rfl (((h Z1 eZ1) Z2 eZ2).2.1 c1).2.2.2)))))))))))))) (fun c1 => V_ret dX7_divide_24 rfl (((h Z1 eZ1) Z2 eZ2).2.2 c1))))))))))))))))
set_option maxRecDepth 20000 in
theorem b_X7_divide_48 {k n : Nat} {x : Wx} {Z : Zt} {Q : Option Value → Wx → Zt → Prop} {a0 : Nat} {a1 : Nat} {a2 : Nat} {a3 : Nat} {v4 : Int} {v5 : Int} {v6 : Int} {v7 : Int} (o_a3 : Is7 x a3) (o_a0 : Is7 x a0) (o_a1 : Is4 x a1)
    (h : Rg v7 ∧ Rg v4 ∧ (((v7 < v4) → ((-1000) ≤ (v6 - v4) ∧ (v6 - v4) < 1000 ∧ (∀ i : Nat, i < 10 → Rg (Z (a3 + 1) i)) ∧ (∀ Z1 : Zt, Z1 = up Z a3 0 (dg (Z (a3 + 1)) ((min (v6 - v4) 9) + 1).toNat) → ((-1000) ≤ v6 ∧ v6 < 1000 ∧ (∀ i : Nat, i < 10 → Rg (Z1 (a0 + 1) i)) ∧ (∀ Z2 : Zt, Z2 = up Z1 a0 0 (dg (Z1 (a0 + 1)) ((min v6 9) + 1).toNat) → (Q none x Z2)))))) ∧ ((v4 ≤ v7) → (0 ≤ v7 ∧ v7 < 10 ∧ (Rg ((Z (a0 + 1) v7.toNat) * v5) ∧ 2 ≤ Z a1 0 ∧ Z a1 0 ≤ 13 ∧ (0 ≤ v7 - v4 ∧ v7 - v4 < 10 ∧ (∀ Z3 : Zt, Z3 = up Z (a3 + 1) (v7 - v4).toNat (((Z (a0 + 1) v7.toNat) * v5) % Z a1 0) → (V mX7_divide k n 86 [some (r_ a0), some (r_ a1), some (r_ a2), some (r_ a3), some (i_ v4), some (i_ v5), some (i_ v6), some (i_ v7), some (i_ (((Z (a0 + 1) v7.toNat) * v5) % Z a1 0)), some (i_ 0)] [] x Z3 Q)))))))) :
    V mX7_divide k n 48 [some (r_ a0), some (r_ a1), some (r_ a2), some (r_ a3), some (i_ v4), some (i_ v5), some (i_ v6), some (i_ v7), none, none] [] x Z Q :=
  V_iload dX7_divide_48 rfl (V_iload dX7_divide_50 rfl (V_icmp_lt (tgt := 146) dX7_divide_52 rfl h.1 h.2.1 (fun c1 => V_aload_n dX7_divide_146 rfl (V_iload dX7_divide_147 rfl (V_iload dX7_divide_149 rfl (V_isub dX7_divide_151 (V_callV (k' := 0) (n' := 0) (t := 7) (q := (RX7, TX7, 2)) [i_ (v6 - v4)] [] okX7_settle o_a3.1 rfl rfl lm_7_31 liX7_settle lqX7_settle (Nat.le_of_ble_eq_true rfl) (Nat.le_of_ble_eq_true rfl) (Nat.le_of_ble_eq_true rfl) (cat_of rfl) (Nat.le_of_ble_eq_true rfl) (Nat.zero_le _) (Nat.zero_le _) rfl dX7_divide_152 (sp_X7_settle o_a3 (h.2.2.1 c1).1 (h.2.2.1 c1).2.1 (h.2.2.1 c1).2.2.1 (V_nmZ (fun Z1 eZ1 => V_aload_n dX7_divide_155 rfl (V_iload dX7_divide_156 rfl (V_callV (k' := 0) (n' := 0) (t := 7) (q := (RX7, TX7, 2)) [i_ v6] [] okX7_settle o_a0.1 rfl rfl lm_7_31 liX7_settle lqX7_settle (Nat.le_of_ble_eq_true rfl) (Nat.le_of_ble_eq_true rfl) (Nat.le_of_ble_eq_true rfl) (cat_of rfl) (Nat.le_of_ble_eq_true rfl) (Nat.zero_le _) (Nat.zero_le _) rfl dX7_divide_158 (sp_X7_settle o_a0 ((h.2.2.1 c1).2.2.2 Z1 eZ1).1 ((h.2.2.1 c1).2.2.2 Z1 eZ1).2.1 ((h.2.2.1 c1).2.2.2 Z1 eZ1).2.2.1 (V_nmZ (fun Z2 eZ2 => V_ret dX7_divide_161 rfl (((h.2.2.1 c1).2.2.2 Z1 eZ1).2.2.2 Z2 eZ2)))))))))))))) (fun c1 => V_aload_n dX7_divide_55 rfl (V_aload_n dX7_divide_56 rfl (G_7_1 o_a0.1 o_a0.2.1 lf_7_15 dX7_divide_57 (V_iload dX7_divide_60 rfl (V_iald (t := 100) o_a0.2.2 (by decide) rfl (h.2.2.2 c1).1 (h.2.2.2 c1).2.1 (Nat.le_of_ble_eq_true rfl) dX7_divide_62 (V_iload dX7_divide_63 rfl (V_imul dX7_divide_65 (V_callV (k' := 0) (n' := 0) (t := 4) (q := (RX4, TX4, 4)) [i_ ((Z (a0 + 1) v7.toNat) * v5)] [] okX4_rem o_a1.1 rfl rfl lm_7_44 liX4_rem lqX4_rem (Nat.le_of_ble_eq_true rfl) (Nat.le_of_ble_eq_true rfl) (Nat.le_of_ble_eq_true rfl) (cat_of rfl) (Nat.le_of_ble_eq_true rfl) (Nat.zero_le _) (Nat.zero_le _) rfl dX7_divide_66 (sp_X4_rem o_a1 (h.2.2.2 c1).2.2.1 (h.2.2.2 c1).2.2.2.1 (h.2.2.2 c1).2.2.2.2.1 (V_istore (lv' := [some (r_ a0), some (r_ a1), some (r_ a2), some (r_ a3), some (i_ v4), some (i_ v5), some (i_ v6), some (i_ v7), some (i_ (((Z (a0 + 1) v7.toNat) * v5) % Z a1 0)), none]) dX7_divide_69 (Nat.le_of_ble_eq_true rfl) rfl (V_aload_n dX7_divide_71 rfl (G_7_1 o_a3.1 o_a3.2.1 lf_7_15 dX7_divide_72 (V_iload dX7_divide_75 rfl (V_iload dX7_divide_77 rfl (V_isub dX7_divide_79 (V_iload dX7_divide_80 rfl (V_iast (t := 100) o_a3.2.2 (by decide) (by decide) rfl (h.2.2.2 c1).2.2.2.2.2.1 (h.2.2.2 c1).2.2.2.2.2.2.1 (Nat.le_of_ble_eq_true rfl) dX7_divide_82 (V_nmZ (fun Z3 eZ3 => V_iconst dX7_divide_83 (V_istore (lv' := [some (r_ a0), some (r_ a1), some (r_ a2), some (r_ a3), some (i_ v4), some (i_ v5), some (i_ v6), some (i_ v7), some (i_ (((Z (a0 + 1) v7.toNat) * v5) % Z a1 0)), some (i_ 0)]) dX7_divide_84 (Nat.le_of_ble_eq_true rfl) rfl (V_msk [true, true, true, true, true, true, true, true, true, true] rfl ((h.2.2.2 c1).2.2.2.2.2.2.2 Z3 eZ3))))))))))))))))))))))))
set_option maxRecDepth 20000 in
theorem b_X7_divide_86 {k n : Nat} {x : Wx} {Z : Zt} {Q : Option Value → Wx → Zt → Prop} {a0 : Nat} {a1 : Nat} {a2 : Nat} {a3 : Nat} {v4 : Int} {v5 : Int} {v6 : Int} {v7 : Int} {v8 : Int} {v9 : Int} (o_a0 : Is7 x a0) (o_a2 : Is7 x a2) (o_a1 : Is4 x a1)
    (h : Rg v9 ∧ Rg v4 ∧ (((v4 < v9) → (V mX7_divide k n 48 [some (r_ a0), some (r_ a1), some (r_ a2), some (r_ a3), some (i_ v4), some (i_ v5), some (i_ v6), some (i_ (v7 + (-1))), none, none] [] x Z Q)) ∧ ((v9 ≤ v4) → (0 ≤ (v7 - v4) + v9 ∧ (v7 - v4) + v9 < 10 ∧ (0 ≤ v9 ∧ v9 < 10 ∧ (Rg ((Z (a0 + 1) ((v7 - v4) + v9).toNat) - (v8 * (Z (a2 + 1) v9.toNat))) ∧ 2 ≤ Z a1 0 ∧ Z a1 0 ≤ 13 ∧ (∀ Z1 : Zt, Z1 = up Z (a0 + 1) ((v7 - v4) + v9).toNat (((Z (a0 + 1) ((v7 - v4) + v9).toNat) - (v8 * (Z (a2 + 1) v9.toNat))) % Z a1 0) → (V mX7_divide k n 86 [some (r_ a0), some (r_ a1), some (r_ a2), some (r_ a3), some (i_ v4), some (i_ v5), some (i_ v6), some (i_ v7), some (i_ v8), some (i_ (v9 + 1))] [] x Z1 Q)))))))) :
    V mX7_divide k n 86 [some (r_ a0), some (r_ a1), some (r_ a2), some (r_ a3), some (i_ v4), some (i_ v5), some (i_ v6), some (i_ v7), some (i_ v8), some (i_ v9)] [] x Z Q :=
  V_iload dX7_divide_86 rfl (V_iload dX7_divide_88 rfl (V_icmp_gt (tgt := 140) dX7_divide_90 rfl h.1 h.2.1 (fun c1 => V_iinc (lv' := [some (r_ a0), some (r_ a1), some (r_ a2), some (r_ a3), some (i_ v4), some (i_ v5), some (i_ v6), some (i_ (v7 + (-1))), some (i_ v8), some (i_ v9)]) dX7_divide_140 rfl (Nat.le_of_ble_eq_true rfl) rfl (V_goto (tgt := 48) dX7_divide_143 rfl (V_msk [true, true, true, true, true, true, true, true, false, false] rfl (h.2.2.1 c1)))) (fun c1 => V_aload_n dX7_divide_93 rfl (G_7_1 o_a0.1 o_a0.2.1 lf_7_15 dX7_divide_94 (V_iload dX7_divide_97 rfl (V_iload dX7_divide_99 rfl (V_isub dX7_divide_101 (V_iload dX7_divide_102 rfl (V_iadd dX7_divide_104 (V_aload_n dX7_divide_105 rfl (V_aload_n dX7_divide_106 rfl (G_7_1 o_a0.1 o_a0.2.1 lf_7_15 dX7_divide_107 (V_iload dX7_divide_110 rfl (V_iload dX7_divide_112 rfl (V_isub dX7_divide_114 (V_iload dX7_divide_115 rfl (V_iadd dX7_divide_117 (V_iald (t := 100) o_a0.2.2 (by decide) rfl (h.2.2.2 c1).1 (h.2.2.2 c1).2.1 (Nat.le_of_ble_eq_true rfl) dX7_divide_118 (V_iload dX7_divide_119 rfl (V_aload_n dX7_divide_121 rfl (G_7_1 o_a2.1 o_a2.2.1 lf_7_15 dX7_divide_122 (V_iload dX7_divide_125 rfl (V_iald (t := 100) o_a2.2.2 (by decide) rfl (h.2.2.2 c1).2.2.1 (h.2.2.2 c1).2.2.2.1 (Nat.le_of_ble_eq_true rfl) dX7_divide_127 (V_imul dX7_divide_128 (V_isub dX7_divide_129 (V_callV (k' := 0) (n' := 0) (t := 4) (q := (RX4, TX4, 4)) [i_ ((Z (a0 + 1) ((v7 - v4) + v9).toNat) - (v8 * (Z (a2 + 1) v9.toNat)))] [i_ ((v7 - v4) + v9), r_ (a0 + 1)] okX4_rem o_a1.1 rfl rfl lm_7_44 liX4_rem lqX4_rem (Nat.le_of_ble_eq_true rfl) (Nat.le_of_ble_eq_true rfl) (Nat.le_of_ble_eq_true rfl) (cat_of rfl) (Nat.le_of_ble_eq_true rfl) (Nat.zero_le _) (Nat.zero_le _) rfl dX7_divide_130 (sp_X4_rem o_a1 (h.2.2.2 c1).2.2.2.2.1 (h.2.2.2 c1).2.2.2.2.2.1 (h.2.2.2 c1).2.2.2.2.2.2.1 (V_iast (t := 100) o_a0.2.2 (by decide) (by decide) rfl (h.2.2.2 c1).1 (h.2.2.2 c1).2.1 (Nat.le_of_ble_eq_true rfl) dX7_divide_133 (V_nmZ (fun Z1 eZ1 => V_iinc (lv' := [some (r_ a0), some (r_ a1), some (r_ a2), some (r_ a3), some (i_ v4), some (i_ v5), some (i_ v6), some (i_ v7), some (i_ v8), some (i_ (v9 + 1))]) dX7_divide_134 rfl (Nat.le_of_ble_eq_true rfl) rfl (V_goto (tgt := 86) dX7_divide_137 rfl (V_msk [true, true, true, true, true, true, true, true, true, true] rfl ((h.2.2.2 c1).2.2.2.2.2.2.2 Z1 eZ1)))))))))))))))))))))))))))))))))
theorem sp_X7_divide {k n : Nat} {x : Wx} {Z : Zt} {Q : Option Value → Wx → Zt → Prop} {a fl b c : Nat} (o : Is7 x a) (ofl : Is4 x fl) (ob : Is7 x b) (oc : Is7 x c) {p : Int} {f g : Nat → Int} (hab : a ≠ b) (hac : a ≠ c) (hbc : b ≠ c) (hf : PA Z a p f) (hg : PA Z b p g) (hfl : FA Z fl p) (hp : 3 ≤ p ∧ p ≤ 13) (hg0 : 0 ≤ pd g) (h : ∀ Z' : Zt, (PA Z' a p (dvR p f g) ∧ PA Z' c p (dvQ p f g) ∧ Oth Z Z' (fun q => At2 a q ∨ At2 c q)) → Q none x Z') : V mX7_divide k n 0 [some (r_ a), some (r_ fl), some (r_ b), some (r_ c), none, none, none, none, none, none] [] x Z Q := by
  have hfa := Is47 ofl o
  have hfc := Is47 ofl oc
  have n1 := o.ne ob
  have n2 := ob.ne o
  have n3 := o.ne oc
  have n4 := oc.ne o
  have n5 := ob.ne oc
  have n6 := oc.ne ob
  have d1 := hf.dgr
  have d2 := hg.dgr
  have pf : Z a 0 = pd f := by rw [hf.2.2.2]; exact dg_pd (by decide) hf.2.1
  have pg : Z b 0 = pd g := by rw [hg.2.2.2]; exact dg_pd (by decide) hg.2.1
  have hd : ∃ d : Nat, Z b 0 = (d : Int) := ⟨(Z b 0).toNat, by omega⟩
  obtain ⟨d, hd⟩ := hd
  have hdn : (pd g).toNat = d := by omega
  have hl := hg.2.2.1 d
  have hiv := inv_bd hp.2 (by omega) (g d)
  generalize hIv : inv p (g d) = iv at hiv
  have eR : dvR p f g = dvr p g d iv (Z a 0 - d + 1).toNat f := by unfold dvR; rw [hdn, hIv, ← pf, ← pg, hd]
  have eQ : dvQ p f g = dvq p g d iv (Z a 0 - d + 1).toNat f := by unfold dvQ; rw [hdn, hIv, ← pf, ← pg, hd]
  -- what stays
  have keep : ∀ Z1 : Zt, Oth Z Z1 (fun q => q = a + 1 ∨ At2 c q) → Z1 a = Z a ∧ Z1 b = Z b ∧ Z1 (b + 1) = Z (b + 1) ∧ Z1 fl = Z fl ∧ Z1 (fl + 1) = Z (fl + 1) := fun Z1 ho => ⟨ho a (by unfold At2; omega), ho b (by unfold At2; omega), ho (b + 1) (by unfold At2; omega), ho fl (fun e => e.elim (fun q => hfa.1 (Or.inr q)) hfc.1), ho (fl + 1) (fun e => e.elim (fun q => hfa.2.1 (Or.inr q)) hfc.2.1)⟩
  -- the inner loop
  have inn : ∀ (i : Nat) (F : Nat → Int), d ≤ i → i < 10 → InP p F → (∀ Z1 : Zt, (∀ t : Nat, t < 10 → Z1 (a + 1) t = dstep p g d iv i F t) → ∀ Zs : Zt, Z1 (c + 1) = Zs (c + 1) → Zs (c + 1) = Zs (c + 1) → Oth Z Z1 (fun q => q = a + 1 ∨ At2 c q) → True) → ∀ (Z0 : Zt) (hk : ∀ Z1 : Zt, (∀ t : Nat, t < 10 → Z1 (a + 1) t = dstep p g d iv i F t) → Z1 (c + 1) = Z0 (c + 1) → Oth Z Z1 (fun q => q = a + 1 ∨ At2 c q) → V mX7_divide k n 48 [some (r_ a), some (r_ fl), some (r_ b), some (r_ c), some (i_ (d : Int)), some (i_ iv), some (i_ (Z a 0)), some (i_ ((i : Int) + (-1))), none, none] [] x Z1 Q) (m : Nat) (j : Int) (Z1 : Zt), 0 ≤ j → j + m = (d : Int) + 1 → (∀ t : Nat, t < 10 → Z1 (a + 1) t = if (t : Int) < i - d + j then dstep p g d iv i F t else F t) → Z1 (c + 1) = Z0 (c + 1) → Oth Z Z1 (fun q => q = a + 1 ∨ At2 c q) → V mX7_divide k n 86 [some (r_ a), some (r_ fl), some (r_ b), some (r_ c), some (i_ (d : Int)), some (i_ iv), some (i_ (Z a 0)), some (i_ (i : Int)), some (i_ (F i * iv % p)), some (i_ j)] [] x Z1 Q := by
    intro i F hdi hi hF _ Z0 hk m
    have rF := emr (F i * iv) (show 0 < p by omega)
    induction m with
    | zero =>
      intro j Z1 hj hm hz hc ho
      refine b_X7_divide_86 o ob ofl ⟨⟨by omega, by omega⟩, ⟨by omega, by omega⟩, fun _ => hk Z1 (fun t ht => ?_) hc ho, fun c1 => by omega⟩
      rw [hz t ht]
      by_cases c1 : (t : Int) < i - d + j
      · rw [if_pos c1]
      · rw [if_neg c1, dstep_hi (by omega)]
    | succ m ih =>
      intro j Z1 hj hm hz hc ho
      obtain ⟨k1, k2, k3, k4, k5⟩ := keep Z1 ho
      refine b_X7_divide_86 o ob ofl ⟨⟨by omega, by omega⟩, ⟨by omega, by omega⟩, fun c1 => by omega, fun c1 => ⟨by omega, by omega, by omega, by omega, ?_⟩⟩
      have ez : Z1 (a + 1) ((i : Int) - d + j).toNat = F ((i : Int) - d + j).toNat := by rw [hz _ (by omega), if_neg (by omega)]
      have eg : Z1 (b + 1) j.toNat = g j.toNat := by rw [k3]; exact hg.1 _ (by omega)
      have ep : Z1 fl 0 = p := by rw [k4]; exact hfl.1
      rw [ez, eg, ep]
      have r1 := hF ((i : Int) - d + j).toNat
      have r2 := hg.2.2.1 j.toNat
      have r3 := mulb (A := 13) (show -13 ≤ F i * iv % p by omega) (by omega) r2.1 (show g j.toNat ≤ 13 by omega)
      refine ⟨⟨by omega, by omega⟩, by omega, by omega, fun Z2 e6 => ih (j + 1) Z2 (by omega) (by omega) (fun t ht => ?_) ?_ ?_⟩
      · rw [e6, up_at]
        by_cases c3 : t = ((i : Int) - d + j).toNat
        · rw [if_pos c3, if_pos (by omega)]
          unfold dstep
          rw [if_pos (by omega), c3, show ((i : Int) - d + j).toNat - (i - d) = j.toNat by omega]
        · rw [if_neg c3, hz t ht]
          by_cases c4 : (t : Int) < i - d + j
          · rw [if_pos c4, if_pos (by omega)]
          · rw [if_neg c4, if_neg (by omega)]
      · rw [e6, up_row _ _ _ _ _ (by omega)]; exact hc
      · rw [e6]; exact ho.up (Or.inl rfl)
  -- the outer loop
  have out : ∀ (m : Nat) (F : Nat → Int) (Z1 : Zt) (i : Int), i = (d : Int) + m - 1 → d + m ≤ 10 → InP p F → (∀ t, 10 ≤ t → F t = 0) → (∀ t : Nat, t < 10 → Z1 (a + 1) t = F t) → dvR p f g = dvr p g d iv m F → (∀ t : Nat, t < m → dvQ p f g t = dvq p g d iv m F t) → (∀ t : Nat, t < 10 → Z1 (c + 1) t = if t < m then 0 else dvQ p f g t) → Oth Z Z1 (fun q => q = a + 1 ∨ At2 c q) → V mX7_divide k n 48 [some (r_ a), some (r_ fl), some (r_ b), some (r_ c), some (i_ (d : Int)), some (i_ iv), some (i_ (Z a 0)), some (i_ i), none, none] [] x Z1 Q := by
    intro m
    induction m with
    | zero =>
      intro F Z1 i hi hm hF hF0 hz hR hQ hc ho
      have hcQ : ∀ t : Nat, t < 10 → Z1 (c + 1) t = dvQ p f g t := fun t ht => by rw [hc t ht, if_neg (by omega)]
      have inQ : InP p (dvQ p f g) := by rw [eQ]; exact dvq_in (by omega) _ _
      refine b_X7_divide_48 oc o ofl ⟨⟨by omega, by omega⟩, ⟨by omega, by omega⟩, fun _ => ⟨by omega, by omega, fun t ht => ?_, fun Z2 e2 => ?_⟩, fun c1 => by omega⟩
      · rw [hcQ t ht]; have := inQ t; exact ⟨by omega, by omega⟩
      have hPQ : PA Z2 c p (dvQ p f g) := by
        rw [e2]
        refine PA.settled hcQ (fun t ht => ?_) inQ (fun t ht => ?_)
        · rw [eQ]; exact dvq_hi _ _ _ (by omega)
        · rw [eQ]; exact dvq_hi _ _ _ (by omega)
      have er : ∀ t : Nat, t < 10 → Z2 (a + 1) t = dvR p f g t := fun t ht => by rw [e2, up_row _ _ _ _ _ (by omega), hz t ht, hR]; rfl
      have inR : InP p (dvR p f g) := by rw [hR]; exact hF
      refine ⟨by omega, by omega, fun t ht => ?_, fun Z3 e3 => h Z3 ⟨?_, ?_, fun q hq => ?_⟩⟩
      · rw [er t ht]; have := inR t; exact ⟨by omega, by omega⟩
      · rw [e3]
        refine PA.settled er (fun t ht => by rw [hR]; exact hF0 t ht) inR (fun t ht => ?_)
        rw [eR]
        by_cases c1 : (Z a 0 - d + 1).toNat = 0
        · rw [c1]; exact hf.hi t ht
        · rw [dvr_hi _ _ _ (by omega)]; exact hf.hi t ht
      · exact hPQ.kept (A := fun q => q = a) (fun q hq => by rw [e3]; exact up_row _ _ _ _ _ hq) (fun e => hac e.symm) (fun e => n3 e.symm)
      · rw [e3, up_row _ _ _ _ _ (fun e => hq (Or.inl (Or.inl e))), e2, up_row _ _ _ _ _ (fun e => hq (Or.inr (Or.inl e))), ho q (fun e => hq (e.elim (fun z => Or.inl (Or.inr z)) Or.inr))]
    | succ m ih =>
      intro F Z1 i hi hm hF hF0 hz hR hQ hc ho
      obtain ⟨k1, k2, k3, k4, k5⟩ := keep Z1 ho
      have hin : i.toNat = d + m := by omega
      have ez : Z1 (a + 1) i.toNat = F (d + m) := by rw [hin]; exact hz _ (by omega)
      have ep : Z1 fl 0 = p := by rw [k4]; exact hfl.1
      refine b_X7_divide_48 oc o ofl ⟨⟨by omega, by omega⟩, ⟨by omega, by omega⟩, fun c1 => by omega, fun c1 => ⟨by omega, by omega, ?_⟩⟩
      rw [ez, ep]
      have r1 := hF (d + m)
      have r3 := mulb (A := 13) (show -13 ≤ iv by omega) (by omega) r1.1 (show F (d + m) ≤ 13 by omega)
      have r4 : F (d + m) * iv = iv * F (d + m) := Int.mul_comm _ _
      refine ⟨⟨by omega, by omega⟩, by omega, by omega, by omega, by omega, fun Z2 e2 => ?_⟩
      have hi2 : i = ((d + m : Nat) : Int) := by omega
      rw [hi2]
      refine inn (d + m) F (by omega) (by omega) hF (fun _ _ _ _ _ _ => trivial) Z2 (fun Z3 hz3 hc3 ho3 => ?_) (d + 1) 0 Z2 (by omega) (by omega) (fun t ht => ?_) rfl ?_
      · refine ih (dstep p g d iv (d + m) F) Z3 _ (by omega) (by omega) (dstep_in (by omega) hF) (fun t ht => by rw [dstep_hi (by omega)]; exact hF0 t ht) hz3 hR (fun t ht => ?_) (fun t ht => ?_) ho3
        · rw [hQ t (by omega)]
          show (if t = m then _ else _) = _
          rw [if_neg (by omega)]
        · rw [hc3, e2, up_at, hc t ht, show (i - (d : Int)).toNat = m by omega]
          by_cases c3 : t = m
          · rw [if_pos c3, if_neg (by omega), hQ t (by omega)]
            show _ = (if t = m then F (d + m) * iv % p else _)
            rw [if_pos c3]
          · rw [if_neg c3]
            by_cases c4 : t < m
            · rw [if_pos c4, if_pos (by omega)]
            · rw [if_neg c4, if_neg (by omega)]
      · rw [e2, up_row _ _ _ _ _ (by omega), hz t ht]
        by_cases c3 : (t : Int) < ((d + m : Nat) : Int) - d + 0
        · rw [if_pos c3]; unfold dstep; rw [if_neg (by omega)]
        · rw [if_neg c3]
      · rw [e2]; exact ho.up (Or.inr (Or.inr rfl))
  refine b_X7_divide_0 oc ob ofl o (fun Z1 e1 Z2 e2 => ?_)
  have rest : ∀ q, ¬ At2 c q → Z2 q = Z q := fun q hq => by
    rw [e2, up_row _ _ _ _ _ (fun e => hq (Or.inl e)), e1]
    funext i
    unfold fillZ
    rw [if_neg (fun e => hq (Or.inr e.1))]
  have q1 : Z2 b 0 = (d : Int) := by rw [rest b (by unfold At2; omega)]; exact hd
  have q2 : Z2 (b + 1) d = g d := by rw [rest (b + 1) (by unfold At2; omega)]; exact hg.1 d (by omega)
  have q3 : Z2 a 0 = Z a 0 := by rw [rest a (by unfold At2; omega)]
  have q4 : Z2 (fl + 1) (g d).toNat = iv := by
    rw [rest (fl + 1) hfc.2.1, hfl.2.2.1 _ (by omega), show (((g d).toNat : Nat) : Int) = g d by omega]; exact hIv
  rw [q1, q3, show ((d : Int)).toNat = d from Int.toNat_natCast d, q2, q4]
  refine ⟨⟨by omega, by omega⟩, fun _ => ⟨by omega, by omega, by omega, ?_⟩, fun c1 => by omega⟩
  have hoz : Oth Z Z2 (fun q => q = a + 1 ∨ At2 c q) := fun q hq => rest q (fun e => hq (Or.inr e))
  have hcz : ∀ t : Nat, t < 10 → Z2 (c + 1) t = 0 := fun t ht => by
    rw [e2, up_row _ _ _ _ _ (by omega), e1]; unfold fillZ; rw [if_pos ⟨rfl, ht⟩]
  by_cases c1 : (d : Int) ≤ Z a 0 + 1
  · refine out (Z a 0 - d + 1).toNat f Z2 (Z a 0) (by omega) (by omega) hf.2.2.1 hf.2.1 (fun t ht => by rw [rest (a + 1) (by unfold At2; omega)]; exact hf.1 t ht) eR (fun t _ => by rw [eQ]) (fun t ht => ?_) hoz
    rw [hcz t ht]
    split
    · rfl
    · rw [eQ, dvq_hi _ _ _ (by omega)]
  · -- the divisor is longer: nothing is done
    have hm0 : (Z a 0 - d + 1).toNat = 0 := by omega
    have eR0 : dvR p f g = f := by rw [eR, hm0]; rfl
    have eQ0 : dvQ p f g = fun _ => 0 := by rw [eQ, hm0]; rfl
    have hcQ : ∀ t : Nat, t < 10 → Z2 (c + 1) t = dvQ p f g t := fun t ht => by rw [hcz t ht, eQ0]
    have inQ : InP p (dvQ p f g) := by rw [eQ]; exact dvq_in (by omega) _ _
    refine b_X7_divide_48 oc o ofl ⟨⟨by omega, by omega⟩, ⟨by omega, by omega⟩, fun _ => ⟨by omega, by omega, fun t ht => ?_, fun Z3 e3 => ?_⟩, fun c2 => by omega⟩
    · rw [hcz t ht]; exact ⟨by decide, by decide⟩
    have hPQ : PA Z3 c p (dvQ p f g) := by
      rw [e3]
      refine PA.settled hcQ (fun t ht => by rw [eQ0]) inQ (fun t ht => by rw [eQ0])
    have er : ∀ t : Nat, t < 10 → Z3 (a + 1) t = dvR p f g t := fun t ht => by rw [e3, up_row _ _ _ _ _ (by omega), rest (a + 1) (by unfold At2; omega), eR0]; exact hf.1 t ht
    refine ⟨by omega, by omega, fun t ht => ?_, fun Z4 e4 => h Z4 ⟨?_, ?_, fun q hq => ?_⟩⟩
    · rw [er t ht, eR0]; have := hf.2.2.1 t; exact ⟨by omega, by omega⟩
    · rw [e4]
      refine PA.settled er (fun t ht => by rw [eR0]; exact hf.2.1 t ht) (by rw [eR0]; exact hf.2.2.1) (fun t ht => by rw [eR0]; exact hf.hi t ht)
    · exact hPQ.kept (A := fun q => q = a) (fun q hq => by rw [e4]; exact up_row _ _ _ _ _ hq) (fun e => hac e.symm) (fun e => n3 e.symm)
    · rw [e4, up_row _ _ _ _ _ (fun e => hq (Or.inl (Or.inl e))), e3, up_row _ _ _ _ _ (fun e => hq (Or.inr (Or.inl e))), rest q (fun e => hq (Or.inr e))]
