/-! ===== Classes: of sums, times, orders, logs ===== -/
def CX (x : Wx) (a fl ff : Nat) : Prop := x.2.1 a 1 = some fl ∧ x.2.1 a 2 = some ff ∧ Is0 x a ∧ Is4 x fl ∧ Is7 x ff ∧ fl + 2 < a ∧ ff + 1 < a
def CZ (Z : Zt) (a fl ff : Nat) (p g : Int) (F : Nat → Int) : Prop := CF p g F ∧ PA Z ff p F ∧ FA Z fl p ∧ Z a 3 = g
theorem CZ.kept {x : Wx} {Z Z' : Zt} {a fl ff : Nat} {p g : Int} {F : Nat → Int} {A : Nat → Prop} (hX : CX x a fl ff) (h : CZ Z a fl ff p g F) (ho : Oth Z Z' A) (hA : ∀ q, A q → a < q) : CZ Z' a fl ff p g F := by
  obtain ⟨-, -, -, -, -, h1, h2⟩ := hX
  have n : ∀ q, q ≤ a → ¬ A q := fun q hq hh => by have := hA q hh; omega
  exact ⟨h.1, h.2.1.kept ho (n _ (by omega)) (n _ (by omega)), h.2.2.1.kept ho (n _ (by omega)) (n _ (by omega)) (n _ (by omega)), by rw [ho a (n _ (by omega))]; exact h.2.2.2⟩
/-- a sum into a pair, as a world keeps it -/
theorem sp_plus2 {k n : Nat} {x : Wx} {Z : Zt} {Q : Option Value → Wx → Zt → Prop} {a b c d fl ff : Nat} (hX : CX x a fl ff) (ob : Is6 x b) (oc : Is6 x c) (od : Is6 x d) {p g : Int} {F : Nat → Int} {A B : UV} (hZ : CZ Z a fl ff p g F) (hA : RP p g A) (hB : RP p g B) (hPA : PrA Z b p A.1 A.2) (hPB : PrA Z c p B.1 B.2) (hb2 : a + 40 ≤ b) (hc2 : a + 40 ≤ c) (hd2 : a + 40 ≤ d) (h : ∀ Z' : Zt, (PrA Z' d p (cplus p F g A B).1 (cplus p F g A B).2 ∧ Oth Z Z' (fun q => (a + 6 < q ∧ q ≤ a + 39) ∨ At5 d q)) → Q none x Z') : V mX0_plus k n 0 [some (r_ a), some (r_ b), some (r_ c), some (r_ d), none] [] x Z Q := by
  obtain ⟨h1, h2, h3, h4, h5, h6, h7⟩ := hX
  exact sp_X0_plus h1 h2 h3 ob oc od h4 h5 hZ.1 hA hB hPA hPB hZ.2.1 hZ.2.2.1 hZ.2.2.2 h6 h7 hb2 hc2 hd2 h
def czero : UV := (pone, pzero)
def pnt (p X Y : Int) : UV := (ulin p X, pcon (Y % p))
def cneg (p : Int) (A : UV) : UV := (A.1, pscl p A.2 (-1))
def addN (p : Int) (F : Nat → Int) (g : Int) (P : UV) : Nat → UV → UV
  | 0, A => A
  | m + 1, A => addN p F g P m (cplus p F g A P)
/-- entry i of a sum's row: X, Y, how often -/
def eX (r : Nat → Int) (i : Nat) : Int := r (2 + 3 * i)
def eY (r : Nat → Int) (i : Nat) : Int := r (2 + 3 * i + 1)
def eO (r : Nat → Int) (i : Nat) : Int := r (2 + 3 * i + 2)
def ePt (p : Int) (r : Nat → Int) (i : Nat) : UV := pnt p (eX r i) (if eO r i < 0 then -(eY r i) else eY r i)
def sumF (p : Int) (F : Nat → Int) (g : Int) (r : Nat → Int) : Nat → Nat → UV → UV
  | _, 0, A => A
  | i, m + 1, A => sumF p F g r (i + 1) m (addN p F g (ePt p r i) (min (eO r i).natAbs 5) A)
def mulB (p : Int) (F : Nat → Int) (g : Int) (P : UV) (l : Int) : Nat → UV → UV
  | 0, A => A
  | b + 1, A => mulB p F g P l b (if l / 2 ^ b % 2 = 1 then cplus p F g (cplus p F g A A) P else cplus p F g A A)
def ordF (p : Int) (F : Nat → Int) (g : Int) (P : UV) : Nat → Int → UV → Int
  | 0, n, _ => n
  | m + 1, n, W => if pd W.1 ≤ 0 then n else ordF p F g P m (n + 1) (cplus p F g W P)
noncomputable def logF (p : Int) (F : Nat → Int) (g : Int) (P T : UV) : Nat → Int → UV → Int
  | 0, _, _ => -1
  | m + 1, n, W => @ite _ (W = T) (Classical.propDecidable _) n (logF p F g P T m (n + 1) (cplus p F g W P))
theorem ulin_ok {p g X : Int} (hp : IsP p) (hg : 1 ≤ g) (Y : Int) : RP p g (pnt p X Y) := by
  have hp0 := hp.rg
  have m1 := emr (-X) (show 0 < p by omega)
  have m2 := emr Y (show 0 < p by omega)
  have d1 : pd (ulin p X) = 1 := pd_eq (m := 1) (by decide) (by show (1 : Int) ≠ 0; decide) (fun i hi => by unfold ulin; rw [if_neg (by omega), if_neg (by omega)])
  have d2 : pd (pcon (Y % p)) ≤ 0 := pd_le (by decide) (fun i hi => by unfold pcon; rw [if_neg (by omega)])
  refine ⟨⟨fun i => ?_, fun i hi => ?_⟩, ⟨fun i => ?_, fun i hi => ?_⟩, ?_, ?_, ?_, ?_⟩
  · show 0 ≤ ulin p X i ∧ ulin p X i < p
    unfold ulin
    split
    · exact m1
    · split <;> omega
  · show ulin p X i = 0
    unfold ulin; rw [if_neg (by omega), if_neg (by omega)]
  · show 0 ≤ pcon (Y % p) i ∧ pcon (Y % p) i < p
    unfold pcon
    split
    · exact m2
    · omega
  · show pcon (Y % p) i = 0
    unfold pcon; rw [if_neg (by omega)]
  · show 0 ≤ pd (ulin p X); omega
  · show pd (ulin p X) ≤ g; omega
  · show pd (pcon (Y % p)) < pd (ulin p X); omega
  · show ulin p X (pd (ulin p X)).toNat = 1
    rw [d1]; rfl
theorem czero_ok {p g : Int} (hp : IsP p) (hg : 1 ≤ g) : RP p g czero := by
  have hp0 := hp.rg
  have o1 := pone_ok (p := p) (by omega)
  have o0 := pzero_ok (p := p) (by omega)
  refine ⟨⟨o1.1, o1.2.1⟩, ⟨o0.1, o0.2.1⟩, ?_, ?_, ?_, ?_⟩
  · show 0 ≤ pd pone; omega
  · show pd pone ≤ g; omega
  · show pd pzero < pd pone; omega
  · show pone (pd pone).toNat = 1
    rw [o1.2.2]; rfl
theorem cneg_ok {p g : Int} (hp : IsP p) {A : UV} (h : RP p g A) : RP p g (cneg p A) := by
  have hp0 := hp.rg
  obtain ⟨u, v, h3, h4, h5, h6⟩ := h
  have hv : pd (pscl p A.2 (-1)) ≤ pd A.2 := by
    have := pd_ge A.2
    exact pd_le (by omega) (fun i hi => by unfold pscl; rw [pd_hi v.2 i (by omega)]; simp)
  exact ⟨u, ⟨pscl_in (by omega), pscl_fin v.2⟩, h3, h4, by show pd (pscl p A.2 (-1)) < pd A.1; omega, h6⟩
theorem addN_ok {p g : Int} {F : Nat → Int} {P : UV} (hC : CF p g F) (hP : RP p g P) : ∀ (m : Nat) (A : UV), RP p g A → RP p g (addN p F g P m A)
  | 0, A, h => h
  | m + 1, A, h => addN_ok hC hP m _ (cplus_ok hC h hP)
theorem sumF_ok {p g : Int} {F : Nat → Int} {r : Nat → Int} (hC : CF p g F) : ∀ (m i : Nat) (A : UV), RP p g A → RP p g (sumF p F g r i m A)
  | 0, i, A, h => h
  | m + 1, i, A, h => sumF_ok hC m (i + 1) _ (addN_ok hC (ulin_ok hC.1 (by have := hC.2.2.2.2; omega) _) _ A h)
theorem mulB_ok {p g l : Int} {F : Nat → Int} {P : UV} (hC : CF p g F) (hP : RP p g P) : ∀ (m : Nat) (A : UV), RP p g A → RP p g (mulB p F g P l m A)
  | 0, A, h => h
  | m + 1, A, h => by
    unfold mulB
    split
    · exact mulB_ok hC hP m _ (cplus_ok hC (cplus_ok hC h h) hP)
    · exact mulB_ok hC hP m _ (cplus_ok hC h h)
theorem dX0_ofSum_0 : decode cX0_ofSum 0 = .ok (.aload_n 2, 1) := by decide +kernel
theorem dX0_ofSum_1 : decode cX0_ofSum 1 = .ok (.invokevirtual 86, 3) := by decide +kernel
theorem dX0_ofSum_4 : decode cX0_ofSum 4 = .ok (.aload_n 1, 1) := by decide +kernel
theorem dX0_ofSum_5 : decode cX0_ofSum 5 = .ok (.ifnonnull 4, 3) := by decide +kernel
theorem dX0_ofSum_8 : decode cX0_ofSum 8 = .ok (.return_, 1) := by decide +kernel
theorem dX0_ofSum_9 : decode cX0_ofSum 9 = .ok (.iconst 0, 1) := by decide +kernel
theorem dX0_ofSum_10 : decode cX0_ofSum 10 = .ok (.istore_n 3, 1) := by decide +kernel
theorem dX0_ofSum_11 : decode cX0_ofSum 11 = .ok (.iload_n 3, 1) := by decide +kernel
theorem dX0_ofSum_12 : decode cX0_ofSum 12 = .ok (.aload_n 1, 1) := by decide +kernel
theorem dX0_ofSum_13 : decode cX0_ofSum 13 = .ok (.iconst 0, 1) := by decide +kernel
theorem dX0_ofSum_14 : decode cX0_ofSum 14 = .ok (.iaload, 1) := by decide +kernel
theorem dX0_ofSum_15 : decode cX0_ofSum 15 = .ok (.if_icmp .ge 98, 3) := by decide +kernel
theorem dX0_ofSum_18 : decode cX0_ofSum 18 = .ok (.iload_n 3, 1) := by decide +kernel
theorem dX0_ofSum_19 : decode cX0_ofSum 19 = .ok (.bipush 8, 2) := by decide +kernel
theorem dX0_ofSum_21 : decode cX0_ofSum 21 = .ok (.if_icmp .ge 92, 3) := by decide +kernel
theorem dX0_ofSum_24 : decode cX0_ofSum 24 = .ok (.iconst 2, 1) := by decide +kernel
theorem dX0_ofSum_25 : decode cX0_ofSum 25 = .ok (.iconst 3, 1) := by decide +kernel
theorem dX0_ofSum_26 : decode cX0_ofSum 26 = .ok (.iload_n 3, 1) := by decide +kernel
theorem dX0_ofSum_27 : decode cX0_ofSum 27 = .ok (.imul, 1) := by decide +kernel
theorem dX0_ofSum_28 : decode cX0_ofSum 28 = .ok (.iadd, 1) := by decide +kernel
theorem dX0_ofSum_29 : decode cX0_ofSum 29 = .ok (.istore 4, 2) := by decide +kernel
theorem dX0_ofSum_31 : decode cX0_ofSum 31 = .ok (.aload_n 1, 1) := by decide +kernel
theorem dX0_ofSum_32 : decode cX0_ofSum 32 = .ok (.iload 4, 2) := by decide +kernel
theorem dX0_ofSum_34 : decode cX0_ofSum 34 = .ok (.iconst 2, 1) := by decide +kernel
theorem dX0_ofSum_35 : decode cX0_ofSum 35 = .ok (.iadd, 1) := by decide +kernel
theorem dX0_ofSum_36 : decode cX0_ofSum 36 = .ok (.iaload, 1) := by decide +kernel
theorem dX0_ofSum_37 : decode cX0_ofSum 37 = .ok (.istore 5, 2) := by decide +kernel
theorem dX0_ofSum_39 : decode cX0_ofSum 39 = .ok (.aload_n 0, 1) := by decide +kernel
theorem dX0_ofSum_40 : decode cX0_ofSum 40 = .ok (.getfield 61, 3) := by decide +kernel
theorem dX0_ofSum_43 : decode cX0_ofSum 43 = .ok (.aload_n 0, 1) := by decide +kernel
theorem dX0_ofSum_44 : decode cX0_ofSum 44 = .ok (.getfield 12, 3) := by decide +kernel
theorem dX0_ofSum_47 : decode cX0_ofSum 47 = .ok (.aload_n 1, 1) := by decide +kernel
theorem dX0_ofSum_48 : decode cX0_ofSum 48 = .ok (.iload 4, 2) := by decide +kernel
theorem dX0_ofSum_50 : decode cX0_ofSum 50 = .ok (.iaload, 1) := by decide +kernel
theorem dX0_ofSum_51 : decode cX0_ofSum 51 = .ok (.iload 5, 2) := by decide +kernel
theorem dX0_ofSum_53 : decode cX0_ofSum 53 = .ok (.ifCond .ge 13, 3) := by decide +kernel
theorem dX0_ofSum_56 : decode cX0_ofSum 56 = .ok (.aload_n 1, 1) := by decide +kernel
theorem dX0_ofSum_57 : decode cX0_ofSum 57 = .ok (.iload 4, 2) := by decide +kernel
theorem dX0_ofSum_59 : decode cX0_ofSum 59 = .ok (.iconst 1, 1) := by decide +kernel
theorem dX0_ofSum_60 : decode cX0_ofSum 60 = .ok (.iadd, 1) := by decide +kernel
theorem dX0_ofSum_61 : decode cX0_ofSum 61 = .ok (.iaload, 1) := by decide +kernel
theorem dX0_ofSum_62 : decode cX0_ofSum 62 = .ok (.ineg, 1) := by decide +kernel
theorem dX0_ofSum_63 : decode cX0_ofSum 63 = .ok (.goto 9, 3) := by decide +kernel
theorem dX0_ofSum_66 : decode cX0_ofSum 66 = .ok (.aload_n 1, 1) := by decide +kernel
theorem dX0_ofSum_67 : decode cX0_ofSum 67 = .ok (.iload 4, 2) := by decide +kernel
theorem dX0_ofSum_69 : decode cX0_ofSum 69 = .ok (.iconst 1, 1) := by decide +kernel
theorem dX0_ofSum_70 : decode cX0_ofSum 70 = .ok (.iadd, 1) := by decide +kernel
theorem dX0_ofSum_71 : decode cX0_ofSum 71 = .ok (.iaload, 1) := by decide +kernel
theorem dX0_ofSum_72 : decode cX0_ofSum 72 = .ok (.invokevirtual 89, 3) := by decide +kernel
theorem dX0_ofSum_75 : decode cX0_ofSum 75 = .ok (.iload 5, 2) := by decide +kernel
theorem dX0_ofSum_77 : decode cX0_ofSum 77 = .ok (.invokestatic 93, 3) := by decide +kernel
theorem dX0_ofSum_80 : decode cX0_ofSum 80 = .ok (.iconst 5, 1) := by decide +kernel
theorem dX0_ofSum_81 : decode cX0_ofSum 81 = .ok (.invokestatic 99, 3) := by decide +kernel
theorem dX0_ofSum_84 : decode cX0_ofSum 84 = .ok (.istore 6, 2) := by decide +kernel
theorem dX0_ofSum_86 : decode cX0_ofSum 86 = .ok (.iload 6, 2) := by decide +kernel
theorem dX0_ofSum_88 : decode cX0_ofSum 88 = .ok (.ifCond .le 19, 3) := by decide +kernel
theorem dX0_ofSum_91 : decode cX0_ofSum 91 = .ok (.aload_n 0, 1) := by decide +kernel
theorem dX0_ofSum_92 : decode cX0_ofSum 92 = .ok (.aload_n 2, 1) := by decide +kernel
theorem dX0_ofSum_93 : decode cX0_ofSum 93 = .ok (.aload_n 0, 1) := by decide +kernel
theorem dX0_ofSum_94 : decode cX0_ofSum 94 = .ok (.getfield 61, 3) := by decide +kernel
theorem dX0_ofSum_97 : decode cX0_ofSum 97 = .ok (.aload_n 2, 1) := by decide +kernel
theorem dX0_ofSum_98 : decode cX0_ofSum 98 = .ok (.invokevirtual 103, 3) := by decide +kernel
theorem dX0_ofSum_101 : decode cX0_ofSum 101 = .ok (.iinc 6 (-1), 3) := by decide +kernel
theorem dX0_ofSum_104 : decode cX0_ofSum 104 = .ok (.goto (-18), 3) := by decide +kernel
theorem dX0_ofSum_107 : decode cX0_ofSum 107 = .ok (.iinc 3 1, 3) := by decide +kernel
theorem dX0_ofSum_110 : decode cX0_ofSum 110 = .ok (.goto (-99), 3) := by decide +kernel
theorem dX0_ofSum_113 : decode cX0_ofSum 113 = .ok (.return_, 1) := by decide +kernel
set_option maxRecDepth 20000 in
theorem b_X0_ofSum_0 {k n : Nat} {x : Wx} {Z : Zt} {Q : Option Value → Wx → Zt → Prop} {a0 : Nat} {a1 : Nat} {a2 : Nat} (o_a2 : Is6 x a2)
    (h : ∃ g1 : Int, ((3 ≤ g1 ∧ g1 ≤ 13) ∧ (∀ (Z'1 : Zt), (PrA Z'1 a2 g1 pone pzero ∧ Oth Z Z'1 (At5 a2)) → (V mX0_ofSum k n 11 [some (r_ a0), some (r_ a1), some (r_ a2), some (i_ 0), none, none, none] [] x Z'1 Q)))) :
    V mX0_ofSum k n 0 [some (r_ a0), some (r_ a1), some (r_ a2), none, none, none, none] [] x Z Q :=
  V_aload_n dX0_ofSum_0 rfl (Exists.elim h (fun g1 w1 => V_callV (k' := 0) (n' := 0) (t := 6) (q := (RX6, TX6, 2)) [] [] okX6_nothing o_a2.1 rfl rfl lm_0_86 liX6_nothing lqX6_nothing (Nat.le_of_ble_eq_true rfl) (Nat.le_of_ble_eq_true rfl) (Nat.le_of_ble_eq_true rfl) (cat_of rfl) (Nat.le_of_ble_eq_true rfl) (Nat.zero_le _) (Nat.zero_le _) rfl dX0_ofSum_1 (sp_X6_nothing o_a2 w1.1 (fun Z'1 p1 => V_aload_n dX0_ofSum_4 rfl (V_ifnonnull_r (tgt := 9) dX0_ofSum_5 rfl (V_iconst dX0_ofSum_9 (V_istore_n (lv' := [some (r_ a0), some (r_ a1), some (r_ a2), some (i_ 0), none, none, none]) dX0_ofSum_10 (Nat.le_of_ble_eq_true rfl) rfl (V_msk [true, true, true, true, false, false, false] rfl (w1.2 Z'1 p1)))))))))
set_option maxRecDepth 20000 in
theorem b_X0_ofSum_11 {k n : Nat} {x : Wx} {Z : Zt} {Q : Option Value → Wx → Zt → Prop} {a0 : Nat} {a1 : Nat} {a2 : Nat} {v3 : Int} {a0_field : Nat} (r_a0_field : x.2.1 a0 1 = some a0_field) (o_a0 : Is0 x a0) (s_a1 : x.1 a1 = some (100, 26))
    (h : Rg v3 ∧ Rg (Z a1 0) ∧ (((Z a1 0 ≤ v3) → (Q none x Z)) ∧ ((v3 < Z a1 0) → (((8 ≤ v3) → (Q none x Z)) ∧ ((v3 < 8) → (0 ≤ (2 + (3 * v3)) + 2 ∧ (2 + (3 * v3)) + 2 < 26 ∧ (0 ≤ 2 + (3 * v3) ∧ 2 + (3 * v3) < 26 ∧ (Rg (Z a1 ((2 + (3 * v3)) + 2).toNat) ∧ (((0 ≤ Z a1 ((2 + (3 * v3)) + 2).toNat) → (0 ≤ (2 + (3 * v3)) + 1 ∧ (2 + (3 * v3)) + 1 < 26 ∧ (V mX0_ofSum k n 72 [some (r_ a0), some (r_ a1), some (r_ a2), some (i_ v3), none, some (i_ (Z a1 ((2 + (3 * v3)) + 2).toNat)), none] [i_ (Z a1 ((2 + (3 * v3)) + 1).toNat), i_ (Z a1 (2 + (3 * v3)).toNat), r_ a0_field, r_ (a0 + 40)] x Z Q))) ∧ ((Z a1 ((2 + (3 * v3)) + 2).toNat < 0) → (0 ≤ (2 + (3 * v3)) + 1 ∧ (2 + (3 * v3)) + 1 < 26 ∧ (V mX0_ofSum k n 72 [some (r_ a0), some (r_ a1), some (r_ a2), some (i_ v3), none, some (i_ (Z a1 ((2 + (3 * v3)) + 2).toNat)), none] [i_ (-(Z a1 ((2 + (3 * v3)) + 1).toNat)), i_ (Z a1 (2 + (3 * v3)).toNat), r_ a0_field, r_ (a0 + 40)] x Z Q)))))))))))) :
    V mX0_ofSum k n 11 [some (r_ a0), some (r_ a1), some (r_ a2), some (i_ v3), none, none, none] [] x Z Q :=
  V_iload_n dX0_ofSum_11 rfl (V_aload_n dX0_ofSum_12 rfl (V_iconst dX0_ofSum_13 (V_iald (t := 100) s_a1 (by decide) rfl (by decide) (by decide) (Nat.le_of_ble_eq_true rfl) dX0_ofSum_14 (V_icmp_ge (tgt := 113) dX0_ofSum_15 rfl h.1 h.2.1 (fun c1 => V_ret dX0_ofSum_113 rfl (h.2.2.1 c1)) (fun c1 => V_iload_n dX0_ofSum_18 rfl (V_bipush dX0_ofSum_19 rfl (V_icmp_ge (tgt := 113) dX0_ofSum_21 rfl h.1 (rg_c rfl) (fun c2 => V_ret dX0_ofSum_113 rfl ((h.2.2.2 c1).1 c2)) (fun c2 => V_iconst dX0_ofSum_24 (V_iconst dX0_ofSum_25 (V_iload_n dX0_ofSum_26 rfl (V_imul dX0_ofSum_27 (V_iadd dX0_ofSum_28 (V_istore (lv' := [some (r_ a0), some (r_ a1), some (r_ a2), some (i_ v3), some (i_ (2 + (3 * v3))), none, none]) dX0_ofSum_29 (Nat.le_of_ble_eq_true rfl) rfl (V_aload_n dX0_ofSum_31 rfl (V_iload dX0_ofSum_32 rfl (V_iconst dX0_ofSum_34 (V_iadd dX0_ofSum_35 (V_iald (t := 100) s_a1 (by decide) rfl ((h.2.2.2 c1).2 c2).1 ((h.2.2.2 c1).2 c2).2.1 (Nat.le_of_ble_eq_true rfl) dX0_ofSum_36 (V_istore (lv' := [some (r_ a0), some (r_ a1), some (r_ a2), some (i_ v3), some (i_ (2 + (3 * v3))), some (i_ (Z a1 ((2 + (3 * v3)) + 2).toNat)), none]) dX0_ofSum_37 (Nat.le_of_ble_eq_true rfl) rfl (V_aload_n dX0_ofSum_39 rfl (G_0_12 o_a0.1 o_a0.2.2.2.2.2.2.2.2.2.2.2.2.2.2.2.2.2.1 lf_0_61 dX0_ofSum_40 (V_aload_n dX0_ofSum_43 rfl (G_0_1 o_a0.1 r_a0_field lf_0_12 dX0_ofSum_44 (V_aload_n dX0_ofSum_47 rfl (V_iload dX0_ofSum_48 rfl (V_iald (t := 100) s_a1 (by decide) rfl ((h.2.2.2 c1).2 c2).2.2.1 ((h.2.2.2 c1).2 c2).2.2.2.1 (Nat.le_of_ble_eq_true rfl) dX0_ofSum_50 (V_iload dX0_ofSum_51 rfl (V_if_ge (tgt := 66) dX0_ofSum_53 rfl ((h.2.2.2 c1).2 c2).2.2.2.2.1 (fun c3 => V_aload_n dX0_ofSum_66 rfl (V_iload dX0_ofSum_67 rfl (V_iconst dX0_ofSum_69 (V_iadd dX0_ofSum_70 (V_iald (t := 100) s_a1 (by decide) rfl (((h.2.2.2 c1).2 c2).2.2.2.2.2.1 c3).1 (((h.2.2.2 c1).2 c2).2.2.2.2.2.1 c3).2.1 (Nat.le_of_ble_eq_true rfl) dX0_ofSum_71 (V_msk [true, true, true, true, false, true, false] rfl (((h.2.2.2 c1).2 c2).2.2.2.2.2.1 c3).2.2)))))) (fun c3 => V_aload_n dX0_ofSum_56 rfl (V_iload dX0_ofSum_57 rfl (V_iconst dX0_ofSum_59 (V_iadd dX0_ofSum_60 (V_iald (t := 100) s_a1 (by decide) rfl (((h.2.2.2 c1).2 c2).2.2.2.2.2.2 c3).1 (((h.2.2.2 c1).2 c2).2.2.2.2.2.2 c3).2.1 (Nat.le_of_ble_eq_true rfl) dX0_ofSum_61 (V_ineg dX0_ofSum_62 (V_goto (tgt := 72) dX0_ofSum_63 rfl (V_msk [true, true, true, true, false, true, false] rfl (((h.2.2.2 c1).2 c2).2.2.2.2.2.2 c3).2.2))))))))))))))))))))))))))))))))))))
set_option maxRecDepth 20000 in
theorem b_X0_ofSum_72 {k n : Nat} {x : Wx} {Z : Zt} {Q : Option Value → Wx → Zt → Prop} {a0 : Nat} {a1 : Nat} {a2 : Nat} {v3 : Int} {v5 : Int} {b0_ : Nat} {b1_ : Nat} {t2 : Int} {t3 : Int} (o_b0 : Is6 x b0_) (o_b1 : Is4 x b1_)
    (h : ∃ g1 : Int, (Z b1_ 0 = g1 ∧ (3 ≤ g1 ∧ g1 ≤ 13) ∧ (b1_ + 2 < b0_ ∨ b0_ + 4 < b1_) ∧ ((-100) ≤ t2 ∧ t2 ≤ 100) ∧ ((-100) ≤ t3 ∧ t3 ≤ 100) ∧ (∀ (Z'1 : Zt), (PrA Z'1 b0_ g1 (ulin g1 t2) (pcon (t3 % g1)) ∧ Oth Z Z'1 (At5 b0_)) → (Rg v5 ∧ (Rg (v5.natAbs : Int) ∧ (V mX0_ofSum k n 86 [some (r_ a0), some (r_ a1), some (r_ a2), some (i_ v3), none, none, some (i_ (min (v5.natAbs : Int) 5))] [] x Z'1 Q)))))) :
    V mX0_ofSum k n 72 [some (r_ a0), some (r_ a1), some (r_ a2), some (i_ v3), none, some (i_ v5), none] [i_ t3, i_ t2, r_ b1_, r_ b0_] x Z Q :=
  Exists.elim h (fun g1 w1 => V_callV (k' := 0) (n' := 0) (t := 6) (q := (RX6, TX6, 2)) [r_ b1_, i_ t2, i_ t3] [] okX6_place o_b0.1 rfl rfl lm_0_89 liX6_place lqX6_place (Nat.le_of_ble_eq_true rfl) (Nat.le_of_ble_eq_true rfl) (Nat.le_of_ble_eq_true rfl) (cat_of rfl) (Nat.le_of_ble_eq_true rfl) (Nat.zero_le _) (Nat.zero_le _) rfl dX0_ofSum_72 (sp_X6_place o_b0 o_b1 w1.1 w1.2.1 w1.2.2.1 w1.2.2.2.1 w1.2.2.2.2.1 (fun Z'1 p1 => V_iload dX0_ofSum_75 rfl (V_mabs lm_0_93 (Nat.le_of_ble_eq_true rfl) (Nat.le_of_ble_eq_true rfl) (w1.2.2.2.2.2 Z'1 p1).1 dX0_ofSum_77 (V_iconst dX0_ofSum_80 (V_mmin lm_0_99 (Nat.le_of_ble_eq_true rfl) (Nat.le_of_ble_eq_true rfl) (w1.2.2.2.2.2 Z'1 p1).2.1 (rg_c rfl) dX0_ofSum_81 (V_istore (lv' := [some (r_ a0), some (r_ a1), some (r_ a2), some (i_ v3), none, some (i_ v5), some (i_ (min (v5.natAbs : Int) 5))]) dX0_ofSum_84 (Nat.le_of_ble_eq_true rfl) rfl (V_msk [true, true, true, true, false, false, true] rfl (w1.2.2.2.2.2 Z'1 p1).2.2))))))))
set_option maxRecDepth 20000 in
theorem b_X0_ofSum_86 {k n : Nat} {x : Wx} {Z : Zt} {Q : Option Value → Wx → Zt → Prop} {a0 : Nat} {a1 : Nat} {a2 : Nat} {v3 : Int} {v6 : Int} {a0_field : Nat} {a0_f : Nat} (r_a0_field : x.2.1 a0 1 = some a0_field) (r_a0_f : x.2.1 a0 2 = some a0_f) (o_a0 : Is0 x a0) (o_a2 : Is6 x a2) (o_a0_field : Is4 x a0_field) (o_a0_f : Is7 x a0_f)
    (h : Rg v6 ∧ (((v6 ≤ 0) → (V mX0_ofSum k n 11 [some (r_ a0), some (r_ a1), some (r_ a2), some (i_ (v3 + 1)), none, none, none] [] x Z Q)) ∧ ((0 < v6) → (∃ g1 : Int, (∃ g2 : Int, (∃ g3 : Nat → Int, (∃ g4 : UV, (∃ g5 : UV, (CF g1 g2 g3 ∧ RP g1 g2 g4 ∧ RP g1 g2 g5 ∧ PrA Z a2 g1 g4.1 g4.2 ∧ PrA Z (a0 + 40) g1 g5.1 g5.2 ∧ PA Z a0_f g1 g3 ∧ FA Z a0_field g1 ∧ Z a0 3 = g2 ∧ a0_field + 2 < a0 ∧ a0_f + 1 < a0 ∧ a0 + 40 ≤ a2 ∧ a0 + 40 ≤ (a0 + 40) ∧ (∀ (Z'1 : Zt), (PrA Z'1 a2 g1 (cplus g1 g3 g2 g4 g5).1 (cplus g1 g3 g2 g4 g5).2 ∧ Oth Z Z'1 (fun q => (a0 + 6 < q ∧ q ≤ a0 + 39) ∨ At5 a2 q)) → (V mX0_ofSum k n 86 [some (r_ a0), some (r_ a1), some (r_ a2), some (i_ v3), none, none, some (i_ (v6 + (-1)))] [] x Z'1 Q))))))))))) :
    V mX0_ofSum k n 86 [some (r_ a0), some (r_ a1), some (r_ a2), some (i_ v3), none, none, some (i_ v6)] [] x Z Q :=
  V_iload dX0_ofSum_86 rfl (V_if_le (tgt := 107) dX0_ofSum_88 rfl h.1 (fun c1 => V_iinc (lv' := [some (r_ a0), some (r_ a1), some (r_ a2), some (i_ (v3 + 1)), none, none, some (i_ v6)]) dX0_ofSum_107 rfl (Nat.le_of_ble_eq_true rfl) rfl (V_goto (tgt := 11) dX0_ofSum_110 rfl (V_msk [true, true, true, true, false, false, false] rfl (h.2.1 c1)))) (fun c1 => V_aload_n dX0_ofSum_91 rfl (V_aload_n dX0_ofSum_92 rfl (V_aload_n dX0_ofSum_93 rfl (G_0_12 o_a0.1 o_a0.2.2.2.2.2.2.2.2.2.2.2.2.2.2.2.2.2.1 lf_0_61 dX0_ofSum_94 (V_aload_n dX0_ofSum_97 rfl (Exists.elim (h.2.2 c1) (fun g1 w1 => Exists.elim w1 (fun g2 w2 => Exists.elim w2 (fun g3 w3 => Exists.elim w3 (fun g4 w4 => Exists.elim w4 (fun g5 w5 => V_callV (k' := 0) (n' := 0) (t := 0) (q := (RX0, TX0, 18)) [r_ a2, r_ (a0 + 40), r_ a2] [] okX0_plus o_a0.1 rfl rfl lm_0_103 liX0_plus lqX0_plus (Nat.le_of_ble_eq_true rfl) (Nat.le_of_ble_eq_true rfl) (Nat.le_of_ble_eq_true rfl) (cat_of rfl) (Nat.le_of_ble_eq_true rfl) (Nat.zero_le _) (Nat.zero_le _) rfl dX0_ofSum_98 (sp_X0_plus r_a0_field r_a0_f o_a0 o_a2 o_a0.2.2.2.2.2.2.2.2.2.2.2.2.2.2.2.2.2.2.1 o_a2 o_a0_field o_a0_f w5.1 w5.2.1 w5.2.2.1 w5.2.2.2.1 w5.2.2.2.2.1 w5.2.2.2.2.2.1 w5.2.2.2.2.2.2.1 w5.2.2.2.2.2.2.2.1 w5.2.2.2.2.2.2.2.2.1 w5.2.2.2.2.2.2.2.2.2.1 w5.2.2.2.2.2.2.2.2.2.2.1 w5.2.2.2.2.2.2.2.2.2.2.2.1 w5.2.2.2.2.2.2.2.2.2.2.1 (fun Z'1 p1 => V_iinc (lv' := [some (r_ a0), some (r_ a1), some (r_ a2), some (i_ v3), none, none, some (i_ (v6 + (-1)))]) dX0_ofSum_101 rfl (Nat.le_of_ble_eq_true rfl) rfl (V_goto (tgt := 86) dX0_ofSum_104 rfl (V_msk [true, true, true, true, false, false, true] rfl (w5.2.2.2.2.2.2.2.2.2.2.2.2 Z'1 p1)))))))))))))))))
/-- a sum's row, as it is told: numbers in their ranges -/
def SumR (r : Nat → Int) : Prop := (0 ≤ r 0 ∧ r 0 ≤ 8) ∧ (-9 ≤ r 1 ∧ r 1 ≤ 9) ∧ ∀ i : Nat, i < 8 → (0 ≤ eX r i ∧ eX r i ≤ 12) ∧ (0 ≤ eY r i ∧ eY r i ≤ 12) ∧ (-5 ≤ eO r i ∧ eO r i ≤ 5)
theorem sp_X0_ofSum {k n : Nat} {x : Wx} {Z : Zt} {Q : Option Value → Wx → Zt → Prop} {a r d fl ff : Nat} (hX : CX x a fl ff) (sr : x.1 r = some (100, 26)) (od : Is6 x d) {p g : Int} {F : Nat → Int} (hZ : CZ Z a fl ff p g F) (hr : SumR (Z r)) (hrd : r < a ∨ d + 5 ≤ r) (hd2 : a + 50 ≤ d) (h : ∀ Z' : Zt, (PrA Z' d p (sumF p F g (Z r) 0 (Z r 0).toNat czero).1 (sumF p F g (Z r) 0 (Z r 0).toNat czero).2 ∧ Oth Z Z' (fun q => (a + 6 < q ∧ q ≤ a + 44) ∨ At5 d q)) → Q none x Z') : V mX0_ofSum k n 0 [some (r_ a), some (r_ r), some (r_ d), none, none, none, none] [] x Z Q := by
  have hC := hZ.1
  have hp := hC.1.rg
  have hg := hC.2.2.2.2
  have hXX := hX
  obtain ⟨x1, x2, x3, x4, x5, x6, x7⟩ := hX
  have o40 : Is6 x (a + 40) := x3.2.2.2.2.2.2.2.2.2.2.2.2.2.2.2.2.2.2.1
  have hset : ∀ q, ((a + 6 < q ∧ q ≤ a + 44) ∨ At5 d q) → a < q := fun q hq => by unfold At5 at hq; omega
  have hrn : ¬ ((a + 6 < r ∧ r ≤ a + 44) ∨ At5 d r) := by unfold At5; omega
  -- so often
  have inn : ∀ (v : Int) (P : UV), RP p g P → (∀ (Z1 : Zt) (B : UV), RP p g B → PrA Z1 d p B.1 B.2 → Oth Z Z1 (fun q => (a + 6 < q ∧ q ≤ a + 44) ∨ At5 d q) → ∀ A : UV, B = A → V mX0_ofSum k n 11 [some (r_ a), some (r_ r), some (r_ d), some (i_ (v + 1)), none, none, none] [] x Z1 Q → True) → ∀ (m : Nat) (w : Int) (A : UV) (Z1 : Zt), w = (m : Int) → m ≤ 5 → RP p g A → PrA Z1 d p A.1 A.2 → PrA Z1 (a + 40) p P.1 P.2 → Oth Z Z1 (fun q => (a + 6 < q ∧ q ≤ a + 44) ∨ At5 d q) → (∀ (Z2 : Zt), PrA Z2 d p (addN p F g P m A).1 (addN p F g P m A).2 → Oth Z Z2 (fun q => (a + 6 < q ∧ q ≤ a + 44) ∨ At5 d q) → V mX0_ofSum k n 11 [some (r_ a), some (r_ r), some (r_ d), some (i_ (v + 1)), none, none, none] [] x Z2 Q) → V mX0_ofSum k n 86 [some (r_ a), some (r_ r), some (r_ d), some (i_ v), none, none, some (i_ w)] [] x Z1 Q := by
    intro v P hP _ m
    induction m with
    | zero =>
      intro w A Z1 hw hm hA hPA hPP hO hk
      exact b_X0_ofSum_86 x1 x2 x3 od x4 x5 ⟨⟨by omega, by omega⟩, fun _ => hk Z1 hPA hO, fun c1 => by omega⟩
    | succ m ih =>
      intro w A Z1 hw hm hA hPA hPP hO hk
      have hZ1 := CZ.kept hXX hZ hO hset
      refine b_X0_ofSum_86 x1 x2 x3 od x4 x5 ⟨⟨by omega, by omega⟩, fun c1 => by omega, fun _ => ⟨p, g, F, A, P, hC, hA, hP, hPA, hPP, hZ1.2.1, hZ1.2.2.1, hZ1.2.2.2, x6, x7, by omega, by omega, fun Z2 hh => ?_⟩⟩
      refine ih (w + (-1)) (cplus p F g A P) Z2 (by omega) (by omega) (cplus_ok hC hA hP) hh.1 (hPP.kept hh.2 (fun q hq => by unfold At5 at hq ⊢; omega)) (hO.tr (hh.2.wk (fun q hq => by unfold At5 at hq ⊢; omega))) hk
  have out : ∀ (m : Nat) (v : Int) (A : UV) (Z1 : Zt), 0 ≤ v → v + m = Z r 0 → RP p g A → PrA Z1 d p A.1 A.2 → Oth Z Z1 (fun q => (a + 6 < q ∧ q ≤ a + 44) ∨ At5 d q) → sumF p F g (Z r) v.toNat m A = sumF p F g (Z r) 0 (Z r 0).toNat czero → V mX0_ofSum k n 11 [some (r_ a), some (r_ r), some (r_ d), some (i_ v), none, none, none] [] x Z1 Q := by
    intro m
    induction m with
    | zero =>
      intro v A Z1 hv hm hA hPA hO he
      have er : Z1 r = Z r := hO r hrn
      have h0 := hr.1
      refine b_X0_ofSum_11 x1 x3 sr ?_
      rw [er]
      have hf : Q none x Z1 := h Z1 ⟨by rw [← he]; exact hPA, hO⟩
      exact ⟨⟨by omega, by omega⟩, ⟨by omega, by omega⟩, fun _ => hf, fun c1 => by omega⟩
    | succ m ih =>
      intro v A Z1 hv hm hA hPA hO he
      have er : Z1 r = Z r := hO r hrn
      have h0 := hr.1
      obtain ⟨i1, i2, i3⟩ := hr.2.2 v.toNat (by omega)
      have eo : Z r ((2 + (3 * v)) + 2).toNat = eO (Z r) v.toNat := by unfold eO; congr 1; omega
      have ey : Z r ((2 + (3 * v)) + 1).toNat = eY (Z r) v.toNat := by unfold eY; congr 1; omega
      have ex : Z r (2 + (3 * v)).toNat = eX (Z r) v.toNat := by unfold eX; congr 1; omega
      have hZ1 := CZ.kept hXX hZ hO hset
      have go : ∀ Y : Int, -100 ≤ Y ∧ Y ≤ 100 → Y = (if eO (Z r) v.toNat < 0 then -(eY (Z r) v.toNat) else eY (Z r) v.toNat) → V mX0_ofSum k n 72 [some (r_ a), some (r_ r), some (r_ d), some (i_ v), none, some (i_ (eO (Z r) v.toNat)), none] [i_ Y, i_ (eX (Z r) v.toNat), r_ fl, r_ (a + 40)] x Z1 Q := by
        intro Y hY hYe
        refine b_X0_ofSum_72 o40 x4 ⟨p, hZ1.2.2.1.1, hp, by omega, ⟨by omega, by omega⟩, hY, fun Z2 hh => ⟨⟨by omega, by omega⟩, ⟨by omega, by omega⟩, ?_⟩⟩
        refine inn v (pnt p (eX (Z r) v.toNat) Y) (ulin_ok hC.1 (by omega) _) (fun _ _ _ _ _ _ _ _ => trivial) (min (eO (Z r) v.toNat).natAbs 5) _ A Z2 (by omega) (by omega) hA (hPA.kept hh.2 (fun q hq => by unfold At5 at hq ⊢; omega)) hh.1 (hO.tr (hh.2.wk (fun q hq => by unfold At5 at hq ⊢; omega))) (fun Z3 hP3 hO3 => ?_)
        refine ih (v + 1) _ Z3 (by omega) (by omega) (addN_ok hC (ulin_ok hC.1 (by omega) _) _ A hA) hP3 hO3 ?_
        rw [← he, hYe, show (v + 1).toNat = v.toNat + 1 by omega]
        rfl
      refine b_X0_ofSum_11 x1 x3 sr ?_
      rw [er, eo, ey, ex]
      refine ⟨⟨by omega, by omega⟩, ⟨by omega, by omega⟩, fun c1 => by omega, fun c1 => ⟨fun c2 => by omega, fun c2 => ⟨by omega, by omega, by omega, by omega, ⟨by omega, by omega⟩, fun c3 => ⟨by omega, by omega, go _ (by omega) (by rw [if_neg (by omega)])⟩, fun c3 => ⟨by omega, by omega, go _ (by omega) (by rw [if_pos c3])⟩⟩⟩⟩
  refine b_X0_ofSum_0 od ⟨p, hp, fun Z1 hh => ?_⟩
  have h0 := hr.1
  exact out (Z r 0).toNat 0 czero Z1 (by omega) (by omega) (czero_ok hC.1 (by omega)) hh.1 (hh.2.wk (fun q hq => Or.inr hq)) rfl
theorem dX0_multiply_0 : decode cX0_multiply 0 = .ok (.aload_n 0, 1) := by decide +kernel
theorem dX0_multiply_1 : decode cX0_multiply 1 = .ok (.getfield 61, 3) := by decide +kernel
theorem dX0_multiply_4 : decode cX0_multiply 4 = .ok (.aload_n 1, 1) := by decide +kernel
theorem dX0_multiply_5 : decode cX0_multiply 5 = .ok (.invokevirtual 107, 3) := by decide +kernel
theorem dX0_multiply_8 : decode cX0_multiply 8 = .ok (.iload_n 2, 1) := by decide +kernel
theorem dX0_multiply_9 : decode cX0_multiply 9 = .ok (.ifCond .ge 18, 3) := by decide +kernel
theorem dX0_multiply_12 : decode cX0_multiply 12 = .ok (.aload_n 0, 1) := by decide +kernel
theorem dX0_multiply_13 : decode cX0_multiply 13 = .ok (.getfield 61, 3) := by decide +kernel
theorem dX0_multiply_16 : decode cX0_multiply 16 = .ok (.getfield 111, 3) := by decide +kernel
theorem dX0_multiply_19 : decode cX0_multiply 19 = .ok (.aload_n 0, 1) := by decide +kernel
theorem dX0_multiply_20 : decode cX0_multiply 20 = .ok (.getfield 12, 3) := by decide +kernel
theorem dX0_multiply_23 : decode cX0_multiply 23 = .ok (.iconst (-1), 1) := by decide +kernel
theorem dX0_multiply_24 : decode cX0_multiply 24 = .ok (.invokevirtual 114, 3) := by decide +kernel
theorem dX0_multiply_27 : decode cX0_multiply 27 = .ok (.iload_n 2, 1) := by decide +kernel
theorem dX0_multiply_28 : decode cX0_multiply 28 = .ok (.invokestatic 93, 3) := by decide +kernel
theorem dX0_multiply_31 : decode cX0_multiply 31 = .ok (.bipush 99, 2) := by decide +kernel
theorem dX0_multiply_33 : decode cX0_multiply 33 = .ok (.invokestatic 99, 3) := by decide +kernel
theorem dX0_multiply_36 : decode cX0_multiply 36 = .ok (.istore 4, 2) := by decide +kernel
theorem dX0_multiply_38 : decode cX0_multiply 38 = .ok (.aload_n 3, 1) := by decide +kernel
theorem dX0_multiply_39 : decode cX0_multiply 39 = .ok (.invokevirtual 86, 3) := by decide +kernel
theorem dX0_multiply_42 : decode cX0_multiply 42 = .ok (.bipush 6, 2) := by decide +kernel
theorem dX0_multiply_44 : decode cX0_multiply 44 = .ok (.istore 5, 2) := by decide +kernel
theorem dX0_multiply_46 : decode cX0_multiply 46 = .ok (.iload 5, 2) := by decide +kernel
theorem dX0_multiply_48 : decode cX0_multiply 48 = .ok (.ifCond .lt 37, 3) := by decide +kernel
theorem dX0_multiply_51 : decode cX0_multiply 51 = .ok (.aload_n 0, 1) := by decide +kernel
theorem dX0_multiply_52 : decode cX0_multiply 52 = .ok (.aload_n 3, 1) := by decide +kernel
theorem dX0_multiply_53 : decode cX0_multiply 53 = .ok (.aload_n 3, 1) := by decide +kernel
theorem dX0_multiply_54 : decode cX0_multiply 54 = .ok (.aload_n 3, 1) := by decide +kernel
theorem dX0_multiply_55 : decode cX0_multiply 55 = .ok (.invokevirtual 103, 3) := by decide +kernel
theorem dX0_multiply_58 : decode cX0_multiply 58 = .ok (.iload 4, 2) := by decide +kernel
theorem dX0_multiply_60 : decode cX0_multiply 60 = .ok (.iload 5, 2) := by decide +kernel
theorem dX0_multiply_62 : decode cX0_multiply 62 = .ok (.ishr, 1) := by decide +kernel
theorem dX0_multiply_63 : decode cX0_multiply 63 = .ok (.iconst 1, 1) := by decide +kernel
theorem dX0_multiply_64 : decode cX0_multiply 64 = .ok (.iand, 1) := by decide +kernel
theorem dX0_multiply_65 : decode cX0_multiply 65 = .ok (.iconst 1, 1) := by decide +kernel
theorem dX0_multiply_66 : decode cX0_multiply 66 = .ok (.if_icmp .ne 13, 3) := by decide +kernel
theorem dX0_multiply_69 : decode cX0_multiply 69 = .ok (.aload_n 0, 1) := by decide +kernel
theorem dX0_multiply_70 : decode cX0_multiply 70 = .ok (.aload_n 3, 1) := by decide +kernel
theorem dX0_multiply_71 : decode cX0_multiply 71 = .ok (.aload_n 0, 1) := by decide +kernel
theorem dX0_multiply_72 : decode cX0_multiply 72 = .ok (.getfield 61, 3) := by decide +kernel
theorem dX0_multiply_75 : decode cX0_multiply 75 = .ok (.aload_n 3, 1) := by decide +kernel
theorem dX0_multiply_76 : decode cX0_multiply 76 = .ok (.invokevirtual 103, 3) := by decide +kernel
theorem dX0_multiply_79 : decode cX0_multiply 79 = .ok (.iinc 5 (-1), 3) := by decide +kernel
theorem dX0_multiply_82 : decode cX0_multiply 82 = .ok (.goto (-36), 3) := by decide +kernel
theorem dX0_multiply_85 : decode cX0_multiply 85 = .ok (.return_, 1) := by decide +kernel
set_option maxRecDepth 20000 in
theorem b_X0_multiply_0 {k n : Nat} {x : Wx} {Z : Zt} {Q : Option Value → Wx → Zt → Prop} {a0 : Nat} {a1 : Nat} {v2 : Int} {a3 : Nat} {a0_field : Nat} (r_a0_field : x.2.1 a0 1 = some a0_field) (o_a0 : Is0 x a0) (o_a1 : Is6 x a1) (o_a0_field : Is4 x a0_field)
    (h : ∃ g1 : Int, (∃ g2 : Nat → Int, (∃ g3 : Nat → Int, (PrA Z a1 g1 g2 g3 ∧ (a1 + 4 < (a0 + 40) ∨ (a0 + 40) + 4 < a1) ∧ (∀ (Z'1 : Zt), (PrA Z'1 (a0 + 40) g1 g2 g3 ∧ Oth Z Z'1 (At5 (a0 + 40))) → (Rg v2 ∧ (((0 ≤ v2) → (V mX0_multiply k n 27 [some (r_ a0), none, some (i_ v2), some (r_ a3), none, none] [] x Z'1 Q)) ∧ ((v2 < 0) → (∃ g4 : Int, (∃ g5 : Nat → Int, (PA Z'1 (a0 + 43) g4 g5 ∧ Z'1 a0_field 0 = g4 ∧ (2 ≤ g4 ∧ g4 ≤ 13) ∧ ((-1000) ≤ (-1 : Int) ∧ (-1 : Int) ≤ 1000) ∧ (∀ (Z'2 : Zt), (PA Z'2 (a0 + 43) g4 (pscl g4 g5 (-1 : Int)) ∧ Oth Z'1 Z'2 (At2 (a0 + 43))) → (V mX0_multiply k n 27 [some (r_ a0), none, some (i_ v2), some (r_ a3), none, none] [] x Z'2 Q))))))))))))) :
    V mX0_multiply k n 0 [some (r_ a0), some (r_ a1), some (i_ v2), some (r_ a3), none, none] [] x Z Q :=
  V_aload_n dX0_multiply_0 rfl (G_0_12 o_a0.1 o_a0.2.2.2.2.2.2.2.2.2.2.2.2.2.2.2.2.2.1 lf_0_61 dX0_multiply_1 (V_aload_n dX0_multiply_4 rfl (Exists.elim h (fun g1 w1 => Exists.elim w1 (fun g2 w2 => Exists.elim w2 (fun g3 w3 => V_callV (k' := 0) (n' := 0) (t := 6) (q := (RX6, TX6, 2)) [r_ a1] [] okX6_copy o_a0.2.2.2.2.2.2.2.2.2.2.2.2.2.2.2.2.2.2.1.1 rfl rfl lm_0_107 liX6_copy lqX6_copy (Nat.le_of_ble_eq_true rfl) (Nat.le_of_ble_eq_true rfl) (Nat.le_of_ble_eq_true rfl) (cat_of rfl) (Nat.le_of_ble_eq_true rfl) (Nat.zero_le _) (Nat.zero_le _) rfl dX0_multiply_5 (sp_X6_copy o_a0.2.2.2.2.2.2.2.2.2.2.2.2.2.2.2.2.2.2.1 o_a1 w3.1 w3.2.1 (fun Z'1 p1 => V_iload_n dX0_multiply_8 rfl (V_if_ge (tgt := 27) dX0_multiply_9 rfl (w3.2.2 Z'1 p1).1 (fun c1 => V_msk [true, false, true, true, false, false] rfl ((w3.2.2 Z'1 p1).2.1 c1)) (fun c1 => V_aload_n dX0_multiply_12 rfl (G_0_12 o_a0.1 o_a0.2.2.2.2.2.2.2.2.2.2.2.2.2.2.2.2.2.1 lf_0_61 dX0_multiply_13 (G_6_1 o_a0.2.2.2.2.2.2.2.2.2.2.2.2.2.2.2.2.2.2.1.1 o_a0.2.2.2.2.2.2.2.2.2.2.2.2.2.2.2.2.2.2.1.2.2.2.1 lf_0_111 dX0_multiply_16 (V_aload_n dX0_multiply_19 rfl (G_0_1 o_a0.1 r_a0_field lf_0_12 dX0_multiply_20 (V_iconst dX0_multiply_23 (Exists.elim ((w3.2.2 Z'1 p1).2.2 c1) (fun g4 w4 => Exists.elim w4 (fun g5 w5 => V_callV (k' := 0) (n' := 0) (t := 7) (q := (RX7, TX7, 2)) [r_ a0_field, i_ (-1)] [] okX7_scale o_a0.2.2.2.2.2.2.2.2.2.2.2.2.2.2.2.2.2.2.1.2.2.2.2.1 rfl rfl lm_0_114 liX7_scale lqX7_scale (Nat.le_of_ble_eq_true rfl) (Nat.le_of_ble_eq_true rfl) (Nat.le_of_ble_eq_true rfl) (cat_of rfl) (Nat.le_of_ble_eq_true rfl) (Nat.zero_le _) (Nat.zero_le _) rfl dX0_multiply_24 (sp_X7_scale o_a0.2.2.2.2.2.2.2.2.2.2.2.2.2.2.2.2.2.2.1.2.2.2.2 o_a0_field w5.1 w5.2.1 w5.2.2.1 w5.2.2.2.1 (fun Z'2 p2 => V_msk [true, false, true, true, false, false] rfl (w5.2.2.2.2 Z'2 p2)))))))))))))))))))))
set_option maxRecDepth 20000 in
theorem b_X0_multiply_27 {k n : Nat} {x : Wx} {Z : Zt} {Q : Option Value → Wx → Zt → Prop} {a0 : Nat} {v2 : Int} {a3 : Nat} (o_a3 : Is6 x a3)
    (h : Rg v2 ∧ (Rg (v2.natAbs : Int) ∧ (∃ g1 : Int, ((3 ≤ g1 ∧ g1 ≤ 13) ∧ (∀ (Z'1 : Zt), (PrA Z'1 a3 g1 pone pzero ∧ Oth Z Z'1 (At5 a3)) → (V mX0_multiply k n 46 [some (r_ a0), none, none, some (r_ a3), some (i_ (min (v2.natAbs : Int) 99)), some (i_ 6)] [] x Z'1 Q)))))) :
    V mX0_multiply k n 27 [some (r_ a0), none, some (i_ v2), some (r_ a3), none, none] [] x Z Q :=
  V_iload_n dX0_multiply_27 rfl (V_mabs lm_0_93 (Nat.le_of_ble_eq_true rfl) (Nat.le_of_ble_eq_true rfl) h.1 dX0_multiply_28 (V_bipush dX0_multiply_31 rfl (V_mmin lm_0_99 (Nat.le_of_ble_eq_true rfl) (Nat.le_of_ble_eq_true rfl) h.2.1 (rg_c rfl) dX0_multiply_33 (V_istore (lv' := [some (r_ a0), none, some (i_ v2), some (r_ a3), some (i_ (min (v2.natAbs : Int) 99)), none]) dX0_multiply_36 (Nat.le_of_ble_eq_true rfl) rfl (V_aload_n dX0_multiply_38 rfl (Exists.elim h.2.2 (fun g1 w1 => V_callV (k' := 0) (n' := 0) (t := 6) (q := (RX6, TX6, 2)) [] [] okX6_nothing o_a3.1 rfl rfl lm_0_86 liX6_nothing lqX6_nothing (Nat.le_of_ble_eq_true rfl) (Nat.le_of_ble_eq_true rfl) (Nat.le_of_ble_eq_true rfl) (cat_of rfl) (Nat.le_of_ble_eq_true rfl) (Nat.zero_le _) (Nat.zero_le _) rfl dX0_multiply_39 (sp_X6_nothing o_a3 w1.1 (fun Z'1 p1 => V_bipush dX0_multiply_42 rfl (V_istore (lv' := [some (r_ a0), none, some (i_ v2), some (r_ a3), some (i_ (min (v2.natAbs : Int) 99)), some (i_ 6)]) dX0_multiply_44 (Nat.le_of_ble_eq_true rfl) rfl (V_msk [true, false, false, true, true, true] rfl (w1.2 Z'1 p1))))))))))))
set_option maxRecDepth 20000 in
theorem b_X0_multiply_46 {k n : Nat} {x : Wx} {Z : Zt} {Q : Option Value → Wx → Zt → Prop} {a0 : Nat} {a3 : Nat} {v4 : Int} {v5 : Int} {a0_field : Nat} {a0_f : Nat} (r_a0_field : x.2.1 a0 1 = some a0_field) (r_a0_f : x.2.1 a0 2 = some a0_f) (o_a0 : Is0 x a0) (o_a3 : Is6 x a3) (o_a0_field : Is4 x a0_field) (o_a0_f : Is7 x a0_f)
    (h : Rg v5 ∧ (((v5 < 0) → (Q none x Z)) ∧ ((0 ≤ v5) → (∃ g1 : Int, (∃ g2 : Int, (∃ g3 : Nat → Int, (∃ g4 : UV, (∃ g5 : UV, (CF g1 g2 g3 ∧ RP g1 g2 g4 ∧ RP g1 g2 g5 ∧ PrA Z a3 g1 g4.1 g4.2 ∧ PrA Z a3 g1 g5.1 g5.2 ∧ PA Z a0_f g1 g3 ∧ FA Z a0_field g1 ∧ Z a0 3 = g2 ∧ a0_field + 2 < a0 ∧ a0_f + 1 < a0 ∧ a0 + 40 ≤ a3 ∧ (∀ (Z'1 : Zt), (PrA Z'1 a3 g1 (cplus g1 g3 g2 g4 g5).1 (cplus g1 g3 g2 g4 g5).2 ∧ Oth Z Z'1 (fun q => (a0 + 6 < q ∧ q ≤ a0 + 39) ∨ At5 a3 q)) → (Rg v4 ∧ v5 < 32 ∧ (Rg ((v4 / 2 ^ v5.toNat) % 2) ∧ ((((v4 / 2 ^ v5.toNat) % 2 ≠ 1) → (V mX0_multiply k n 79 [some (r_ a0), none, none, some (r_ a3), some (i_ v4), some (i_ v5)] [] x Z'1 Q)) ∧ (((v4 / 2 ^ v5.toNat) % 2 = 1) → (∃ g6 : Int, (∃ g7 : Int, (∃ g8 : Nat → Int, (∃ g9 : UV, (∃ g10 : UV, (CF g6 g7 g8 ∧ RP g6 g7 g9 ∧ RP g6 g7 g10 ∧ PrA Z'1 a3 g6 g9.1 g9.2 ∧ PrA Z'1 (a0 + 40) g6 g10.1 g10.2 ∧ PA Z'1 a0_f g6 g8 ∧ FA Z'1 a0_field g6 ∧ Z'1 a0 3 = g7 ∧ a0_field + 2 < a0 ∧ a0_f + 1 < a0 ∧ a0 + 40 ≤ a3 ∧ a0 + 40 ≤ (a0 + 40) ∧ (∀ (Z'2 : Zt), (PrA Z'2 a3 g6 (cplus g6 g8 g7 g9 g10).1 (cplus g6 g8 g7 g9 g10).2 ∧ Oth Z'1 Z'2 (fun q => (a0 + 6 < q ∧ q ≤ a0 + 39) ∨ At5 a3 q)) → (V mX0_multiply k n 79 [some (r_ a0), none, none, some (r_ a3), some (i_ v4), some (i_ v5)] [] x Z'2 Q)))))))))))))))))))))) :
    V mX0_multiply k n 46 [some (r_ a0), none, none, some (r_ a3), some (i_ v4), some (i_ v5)] [] x Z Q :=
  V_iload dX0_multiply_46 rfl (V_if_lt (tgt := 85) dX0_multiply_48 rfl h.1 (fun c1 => V_ret dX0_multiply_85 rfl (h.2.1 c1)) (fun c1 => V_aload_n dX0_multiply_51 rfl (V_aload_n dX0_multiply_52 rfl (V_aload_n dX0_multiply_53 rfl (V_aload_n dX0_multiply_54 rfl (Exists.elim (h.2.2 c1) (fun g1 w1 => Exists.elim w1 (fun g2 w2 => Exists.elim w2 (fun g3 w3 => Exists.elim w3 (fun g4 w4 => Exists.elim w4 (fun g5 w5 => V_callV (k' := 0) (n' := 0) (t := 0) (q := (RX0, TX0, 18)) [r_ a3, r_ a3, r_ a3] [] okX0_plus o_a0.1 rfl rfl lm_0_103 liX0_plus lqX0_plus (Nat.le_of_ble_eq_true rfl) (Nat.le_of_ble_eq_true rfl) (Nat.le_of_ble_eq_true rfl) (cat_of rfl) (Nat.le_of_ble_eq_true rfl) (Nat.zero_le _) (Nat.zero_le _) rfl dX0_multiply_55 (sp_X0_plus r_a0_field r_a0_f o_a0 o_a3 o_a3 o_a3 o_a0_field o_a0_f w5.1 w5.2.1 w5.2.2.1 w5.2.2.2.1 w5.2.2.2.2.1 w5.2.2.2.2.2.1 w5.2.2.2.2.2.2.1 w5.2.2.2.2.2.2.2.1 w5.2.2.2.2.2.2.2.2.1 w5.2.2.2.2.2.2.2.2.2.1 w5.2.2.2.2.2.2.2.2.2.2.1 w5.2.2.2.2.2.2.2.2.2.2.1 w5.2.2.2.2.2.2.2.2.2.2.1 (fun Z'1 p1 => V_iload dX0_multiply_58 rfl (V_iload dX0_multiply_60 rfl (V_ishr dX0_multiply_62 (shr_eq _ _ (w5.2.2.2.2.2.2.2.2.2.2.2 Z'1 p1).1 c1 (w5.2.2.2.2.2.2.2.2.2.2.2 Z'1 p1).2.1) (V_iconst dX0_multiply_63 (V_iand dX0_multiply_64 (and_1 _) (V_iconst dX0_multiply_65 (V_icmp_ne (tgt := 79) dX0_multiply_66 rfl (w5.2.2.2.2.2.2.2.2.2.2.2 Z'1 p1).2.2.1 (rg_c rfl) (fun c2 => V_msk [true, false, false, true, true, true] rfl ((w5.2.2.2.2.2.2.2.2.2.2.2 Z'1 p1).2.2.2.1 c2)) (fun c2 => V_aload_n dX0_multiply_69 rfl (V_aload_n dX0_multiply_70 rfl (V_aload_n dX0_multiply_71 rfl (G_0_12 o_a0.1 o_a0.2.2.2.2.2.2.2.2.2.2.2.2.2.2.2.2.2.1 lf_0_61 dX0_multiply_72 (V_aload_n dX0_multiply_75 rfl (Exists.elim ((w5.2.2.2.2.2.2.2.2.2.2.2 Z'1 p1).2.2.2.2 c2) (fun g6 w6 => Exists.elim w6 (fun g7 w7 => Exists.elim w7 (fun g8 w8 => Exists.elim w8 (fun g9 w9 => Exists.elim w9 (fun g10 w10 => V_callV (k' := 0) (n' := 0) (t := 0) (q := (RX0, TX0, 18)) [r_ a3, r_ (a0 + 40), r_ a3] [] okX0_plus o_a0.1 rfl rfl lm_0_103 liX0_plus lqX0_plus (Nat.le_of_ble_eq_true rfl) (Nat.le_of_ble_eq_true rfl) (Nat.le_of_ble_eq_true rfl) (cat_of rfl) (Nat.le_of_ble_eq_true rfl) (Nat.zero_le _) (Nat.zero_le _) rfl dX0_multiply_76 (sp_X0_plus r_a0_field r_a0_f o_a0 o_a3 o_a0.2.2.2.2.2.2.2.2.2.2.2.2.2.2.2.2.2.2.1 o_a3 o_a0_field o_a0_f w10.1 w10.2.1 w10.2.2.1 w10.2.2.2.1 w10.2.2.2.2.1 w10.2.2.2.2.2.1 w10.2.2.2.2.2.2.1 w10.2.2.2.2.2.2.2.1 w10.2.2.2.2.2.2.2.2.1 w10.2.2.2.2.2.2.2.2.2.1 w10.2.2.2.2.2.2.2.2.2.2.1 w10.2.2.2.2.2.2.2.2.2.2.2.1 w10.2.2.2.2.2.2.2.2.2.2.1 (fun Z'2 p2 => V_msk [true, false, false, true, true, true] rfl (w10.2.2.2.2.2.2.2.2.2.2.2.2 Z'2 p2)))))))))))))))))))))))))))))))))
set_option maxRecDepth 20000 in
theorem b_X0_multiply_79 {k n : Nat} {x : Wx} {Z : Zt} {Q : Option Value → Wx → Zt → Prop} {a0 : Nat} {a3 : Nat} {v4 : Int} {v5 : Int} 
    (h : V mX0_multiply k n 46 [some (r_ a0), none, none, some (r_ a3), some (i_ v4), some (i_ (v5 + (-1)))] [] x Z Q) :
    V mX0_multiply k n 79 [some (r_ a0), none, none, some (r_ a3), some (i_ v4), some (i_ v5)] [] x Z Q :=
  V_iinc (lv' := [some (r_ a0), none, none, some (r_ a3), some (i_ v4), some (i_ (v5 + (-1)))]) dX0_multiply_79 rfl (Nat.le_of_ble_eq_true rfl) rfl (V_goto (tgt := 46) dX0_multiply_82 rfl (V_msk [true, false, false, true, true, true] rfl h))
theorem dX0_orderOfClass_0 : decode cX0_orderOfClass 0 = .ok (.aload_n 0, 1) := by decide +kernel
theorem dX0_orderOfClass_1 : decode cX0_orderOfClass 1 = .ok (.getfield 64, 3) := by decide +kernel
theorem dX0_orderOfClass_4 : decode cX0_orderOfClass 4 = .ok (.aload_n 1, 1) := by decide +kernel
theorem dX0_orderOfClass_5 : decode cX0_orderOfClass 5 = .ok (.invokevirtual 107, 3) := by decide +kernel
theorem dX0_orderOfClass_8 : decode cX0_orderOfClass 8 = .ok (.iconst 1, 1) := by decide +kernel
theorem dX0_orderOfClass_9 : decode cX0_orderOfClass 9 = .ok (.istore_n 3, 1) := by decide +kernel
theorem dX0_orderOfClass_10 : decode cX0_orderOfClass 10 = .ok (.iload_n 3, 1) := by decide +kernel
theorem dX0_orderOfClass_11 : decode cX0_orderOfClass 11 = .ok (.iload_n 2, 1) := by decide +kernel
theorem dX0_orderOfClass_12 : decode cX0_orderOfClass 12 = .ok (.if_icmp .ge 32, 3) := by decide +kernel
theorem dX0_orderOfClass_15 : decode cX0_orderOfClass 15 = .ok (.aload_n 0, 1) := by decide +kernel
theorem dX0_orderOfClass_16 : decode cX0_orderOfClass 16 = .ok (.getfield 64, 3) := by decide +kernel
theorem dX0_orderOfClass_19 : decode cX0_orderOfClass 19 = .ok (.invokevirtual 118, 3) := by decide +kernel
theorem dX0_orderOfClass_22 : decode cX0_orderOfClass 22 = .ok (.ifCond .ne 22, 3) := by decide +kernel
theorem dX0_orderOfClass_25 : decode cX0_orderOfClass 25 = .ok (.aload_n 0, 1) := by decide +kernel
theorem dX0_orderOfClass_26 : decode cX0_orderOfClass 26 = .ok (.aload_n 0, 1) := by decide +kernel
theorem dX0_orderOfClass_27 : decode cX0_orderOfClass 27 = .ok (.getfield 64, 3) := by decide +kernel
theorem dX0_orderOfClass_30 : decode cX0_orderOfClass 30 = .ok (.aload_n 1, 1) := by decide +kernel
theorem dX0_orderOfClass_31 : decode cX0_orderOfClass 31 = .ok (.aload_n 0, 1) := by decide +kernel
theorem dX0_orderOfClass_32 : decode cX0_orderOfClass 32 = .ok (.getfield 64, 3) := by decide +kernel
theorem dX0_orderOfClass_35 : decode cX0_orderOfClass 35 = .ok (.invokevirtual 103, 3) := by decide +kernel
theorem dX0_orderOfClass_38 : decode cX0_orderOfClass 38 = .ok (.iinc 3 1, 3) := by decide +kernel
theorem dX0_orderOfClass_41 : decode cX0_orderOfClass 41 = .ok (.goto (-31), 3) := by decide +kernel
theorem dX0_orderOfClass_44 : decode cX0_orderOfClass 44 = .ok (.iload_n 3, 1) := by decide +kernel
theorem dX0_orderOfClass_45 : decode cX0_orderOfClass 45 = .ok (.ireturn, 1) := by decide +kernel
set_option maxRecDepth 20000 in
theorem b_X0_orderOfClass_0 {k n : Nat} {x : Wx} {Z : Zt} {Q : Option Value → Wx → Zt → Prop} {a0 : Nat} {a1 : Nat} {v2 : Int} (o_a0 : Is0 x a0) (o_a1 : Is6 x a1)
    (h : ∃ g1 : Int, (∃ g2 : Nat → Int, (∃ g3 : Nat → Int, (PrA Z a1 g1 g2 g3 ∧ (a1 + 4 < (a0 + 45) ∨ (a0 + 45) + 4 < a1) ∧ (∀ (Z'1 : Zt), (PrA Z'1 (a0 + 45) g1 g2 g3 ∧ Oth Z Z'1 (At5 (a0 + 45))) → (V mX0_orderOfClass k n 10 [some (r_ a0), some (r_ a1), some (i_ v2), some (i_ 1)] [] x Z'1 Q)))))) :
    V mX0_orderOfClass k n 0 [some (r_ a0), some (r_ a1), some (i_ v2), none] [] x Z Q :=
  V_aload_n dX0_orderOfClass_0 rfl (G_0_13 o_a0.1 o_a0.2.2.2.2.2.2.2.2.2.2.2.2.2.2.2.2.2.2.2.1 lf_0_64 dX0_orderOfClass_1 (V_aload_n dX0_orderOfClass_4 rfl (Exists.elim h (fun g1 w1 => Exists.elim w1 (fun g2 w2 => Exists.elim w2 (fun g3 w3 => V_callV (k' := 0) (n' := 0) (t := 6) (q := (RX6, TX6, 2)) [r_ a1] [] okX6_copy o_a0.2.2.2.2.2.2.2.2.2.2.2.2.2.2.2.2.2.2.2.2.1.1 rfl rfl lm_0_107 liX6_copy lqX6_copy (Nat.le_of_ble_eq_true rfl) (Nat.le_of_ble_eq_true rfl) (Nat.le_of_ble_eq_true rfl) (cat_of rfl) (Nat.le_of_ble_eq_true rfl) (Nat.zero_le _) (Nat.zero_le _) rfl dX0_orderOfClass_5 (sp_X6_copy o_a0.2.2.2.2.2.2.2.2.2.2.2.2.2.2.2.2.2.2.2.2.1 o_a1 w3.1 w3.2.1 (fun Z'1 p1 => V_iconst dX0_orderOfClass_8 (V_istore_n (lv' := [some (r_ a0), some (r_ a1), some (i_ v2), some (i_ 1)]) dX0_orderOfClass_9 (Nat.le_of_ble_eq_true rfl) rfl (V_msk [true, true, true, true] rfl (w3.2.2 Z'1 p1)))))))))))
set_option maxRecDepth 20000 in
theorem b_X0_orderOfClass_10 {k n : Nat} {x : Wx} {Z : Zt} {Q : Option Value → Wx → Zt → Prop} {a0 : Nat} {a1 : Nat} {v2 : Int} {v3 : Int} {a0_field : Nat} {a0_f : Nat} (r_a0_field : x.2.1 a0 1 = some a0_field) (r_a0_f : x.2.1 a0 2 = some a0_f) (o_a0 : Is0 x a0) (o_a1 : Is6 x a1) (o_a0_field : Is4 x a0_field) (o_a0_f : Is7 x a0_f)
    (h : Rg v3 ∧ Rg v2 ∧ (((v2 ≤ v3) → (V mX0_orderOfClass k n 44 [none, none, none, some (i_ v3)] [] x Z Q)) ∧ ((v3 < v2) → (∃ g1 : Int, (∃ g2 : Nat → Int, (∃ g3 : Nat → Int, (PrA Z (a0 + 45) g1 g2 g3 ∧ (∀ (r1 : Int), ((r1 = 0 ∨ r1 = 1) ∧ (r1 = 1 ↔ pd g2 ≤ 0)) → (Rg r1 ∧ (((r1 ≠ 0) → (V mX0_orderOfClass k n 44 [none, none, none, some (i_ v3)] [] x Z Q)) ∧ ((r1 = 0) → (∃ g4 : Int, (∃ g5 : Int, (∃ g6 : Nat → Int, (∃ g7 : UV, (∃ g8 : UV, (CF g4 g5 g6 ∧ RP g4 g5 g7 ∧ RP g4 g5 g8 ∧ PrA Z (a0 + 45) g4 g7.1 g7.2 ∧ PrA Z a1 g4 g8.1 g8.2 ∧ PA Z a0_f g4 g6 ∧ FA Z a0_field g4 ∧ Z a0 3 = g5 ∧ a0_field + 2 < a0 ∧ a0_f + 1 < a0 ∧ a0 + 40 ≤ (a0 + 45) ∧ a0 + 40 ≤ a1 ∧ (∀ (Z'1 : Zt), (PrA Z'1 (a0 + 45) g4 (cplus g4 g6 g5 g7 g8).1 (cplus g4 g6 g5 g7 g8).2 ∧ Oth Z Z'1 (fun q => (a0 + 6 < q ∧ q ≤ a0 + 39) ∨ At5 (a0 + 45) q)) → (V mX0_orderOfClass k n 10 [some (r_ a0), some (r_ a1), some (i_ v2), some (i_ (v3 + 1))] [] x Z'1 Q))))))))))))))))))) :
    V mX0_orderOfClass k n 10 [some (r_ a0), some (r_ a1), some (i_ v2), some (i_ v3)] [] x Z Q :=
  V_iload_n dX0_orderOfClass_10 rfl (V_iload_n dX0_orderOfClass_11 rfl (V_icmp_ge (tgt := 44) dX0_orderOfClass_12 rfl h.1 h.2.1 (fun c1 => V_msk [false, false, false, true] rfl (h.2.2.1 c1)) (fun c1 => V_aload_n dX0_orderOfClass_15 rfl (G_0_13 o_a0.1 o_a0.2.2.2.2.2.2.2.2.2.2.2.2.2.2.2.2.2.2.2.1 lf_0_64 dX0_orderOfClass_16 (Exists.elim (h.2.2.2 c1) (fun g1 w1 => Exists.elim w1 (fun g2 w2 => Exists.elim w2 (fun g3 w3 => V_callV (k' := 0) (n' := 0) (t := 6) (q := (RX6, TX6, 2)) [] [] okX6_isNothing o_a0.2.2.2.2.2.2.2.2.2.2.2.2.2.2.2.2.2.2.2.2.1.1 rfl rfl lm_0_118 liX6_isNothing lqX6_isNothing (Nat.le_of_ble_eq_true rfl) (Nat.le_of_ble_eq_true rfl) (Nat.le_of_ble_eq_true rfl) (cat_of rfl) (Nat.le_of_ble_eq_true rfl) (Nat.zero_le _) (Nat.zero_le _) rfl dX0_orderOfClass_19 (sp_X6_isNothing o_a0.2.2.2.2.2.2.2.2.2.2.2.2.2.2.2.2.2.2.2.2.1 w3.1 (fun r1 p1 => V_if_ne (tgt := 44) dX0_orderOfClass_22 rfl (w3.2 r1 p1).1 (fun c2 => V_msk [false, false, false, true] rfl ((w3.2 r1 p1).2.1 c2)) (fun c2 => V_aload_n dX0_orderOfClass_25 rfl (V_aload_n dX0_orderOfClass_26 rfl (G_0_13 o_a0.1 o_a0.2.2.2.2.2.2.2.2.2.2.2.2.2.2.2.2.2.2.2.1 lf_0_64 dX0_orderOfClass_27 (V_aload_n dX0_orderOfClass_30 rfl (V_aload_n dX0_orderOfClass_31 rfl (G_0_13 o_a0.1 o_a0.2.2.2.2.2.2.2.2.2.2.2.2.2.2.2.2.2.2.2.1 lf_0_64 dX0_orderOfClass_32 (Exists.elim ((w3.2 r1 p1).2.2 c2) (fun g4 w4 => Exists.elim w4 (fun g5 w5 => Exists.elim w5 (fun g6 w6 => Exists.elim w6 (fun g7 w7 => Exists.elim w7 (fun g8 w8 => V_callV (k' := 0) (n' := 0) (t := 0) (q := (RX0, TX0, 18)) [r_ (a0 + 45), r_ a1, r_ (a0 + 45)] [] okX0_plus o_a0.1 rfl rfl lm_0_103 liX0_plus lqX0_plus (Nat.le_of_ble_eq_true rfl) (Nat.le_of_ble_eq_true rfl) (Nat.le_of_ble_eq_true rfl) (cat_of rfl) (Nat.le_of_ble_eq_true rfl) (Nat.zero_le _) (Nat.zero_le _) rfl dX0_orderOfClass_35 (sp_X0_plus r_a0_field r_a0_f o_a0 o_a0.2.2.2.2.2.2.2.2.2.2.2.2.2.2.2.2.2.2.2.2.1 o_a1 o_a0.2.2.2.2.2.2.2.2.2.2.2.2.2.2.2.2.2.2.2.2.1 o_a0_field o_a0_f w8.1 w8.2.1 w8.2.2.1 w8.2.2.2.1 w8.2.2.2.2.1 w8.2.2.2.2.2.1 w8.2.2.2.2.2.2.1 w8.2.2.2.2.2.2.2.1 w8.2.2.2.2.2.2.2.2.1 w8.2.2.2.2.2.2.2.2.2.1 w8.2.2.2.2.2.2.2.2.2.2.1 w8.2.2.2.2.2.2.2.2.2.2.2.1 w8.2.2.2.2.2.2.2.2.2.2.1 (fun Z'1 p2 => V_iinc (lv' := [some (r_ a0), some (r_ a1), some (i_ v2), some (i_ (v3 + 1))]) dX0_orderOfClass_38 rfl (Nat.le_of_ble_eq_true rfl) rfl (V_goto (tgt := 10) dX0_orderOfClass_41 rfl (V_msk [true, true, true, true] rfl (w8.2.2.2.2.2.2.2.2.2.2.2.2 Z'1 p2)))))))))))))))))))))))))))
set_option maxRecDepth 20000 in
theorem b_X0_orderOfClass_44 {k n : Nat} {x : Wx} {Z : Zt} {Q : Option Value → Wx → Zt → Prop} {v3 : Int} 
    (h : Q (some (i_ v3)) x Z) :
    V mX0_orderOfClass k n 44 [none, none, none, some (i_ v3)] [] x Z Q :=
  V_iload_n dX0_orderOfClass_44 rfl (V_iret (ty := .int) dX0_orderOfClass_45 rfl rfl h)
theorem dX0_logOf_0 : decode cX0_logOf 0 = .ok (.aload_n 0, 1) := by decide +kernel
theorem dX0_logOf_1 : decode cX0_logOf 1 = .ok (.getfield 64, 3) := by decide +kernel
theorem dX0_logOf_4 : decode cX0_logOf 4 = .ok (.invokevirtual 86, 3) := by decide +kernel
theorem dX0_logOf_7 : decode cX0_logOf 7 = .ok (.iconst 0, 1) := by decide +kernel
theorem dX0_logOf_8 : decode cX0_logOf 8 = .ok (.istore 4, 2) := by decide +kernel
theorem dX0_logOf_10 : decode cX0_logOf 10 = .ok (.iload 4, 2) := by decide +kernel
theorem dX0_logOf_12 : decode cX0_logOf 12 = .ok (.iload_n 3, 1) := by decide +kernel
theorem dX0_logOf_13 : decode cX0_logOf 13 = .ok (.if_icmp .ge 36, 3) := by decide +kernel
theorem dX0_logOf_16 : decode cX0_logOf 16 = .ok (.aload_n 0, 1) := by decide +kernel
theorem dX0_logOf_17 : decode cX0_logOf 17 = .ok (.getfield 64, 3) := by decide +kernel
theorem dX0_logOf_20 : decode cX0_logOf 20 = .ok (.aload_n 2, 1) := by decide +kernel
theorem dX0_logOf_21 : decode cX0_logOf 21 = .ok (.invokevirtual 122, 3) := by decide +kernel
theorem dX0_logOf_24 : decode cX0_logOf 24 = .ok (.ifCond .eq 6, 3) := by decide +kernel
theorem dX0_logOf_27 : decode cX0_logOf 27 = .ok (.iload 4, 2) := by decide +kernel
theorem dX0_logOf_29 : decode cX0_logOf 29 = .ok (.ireturn, 1) := by decide +kernel
theorem dX0_logOf_30 : decode cX0_logOf 30 = .ok (.aload_n 0, 1) := by decide +kernel
theorem dX0_logOf_31 : decode cX0_logOf 31 = .ok (.aload_n 0, 1) := by decide +kernel
theorem dX0_logOf_32 : decode cX0_logOf 32 = .ok (.getfield 64, 3) := by decide +kernel
theorem dX0_logOf_35 : decode cX0_logOf 35 = .ok (.aload_n 1, 1) := by decide +kernel
theorem dX0_logOf_36 : decode cX0_logOf 36 = .ok (.aload_n 0, 1) := by decide +kernel
theorem dX0_logOf_37 : decode cX0_logOf 37 = .ok (.getfield 64, 3) := by decide +kernel
theorem dX0_logOf_40 : decode cX0_logOf 40 = .ok (.invokevirtual 103, 3) := by decide +kernel
theorem dX0_logOf_43 : decode cX0_logOf 43 = .ok (.iinc 4 1, 3) := by decide +kernel
theorem dX0_logOf_46 : decode cX0_logOf 46 = .ok (.goto (-36), 3) := by decide +kernel
theorem dX0_logOf_49 : decode cX0_logOf 49 = .ok (.iconst (-1), 1) := by decide +kernel
theorem dX0_logOf_50 : decode cX0_logOf 50 = .ok (.ireturn, 1) := by decide +kernel
set_option maxRecDepth 20000 in
theorem b_X0_logOf_0 {k n : Nat} {x : Wx} {Z : Zt} {Q : Option Value → Wx → Zt → Prop} {a0 : Nat} {a1 : Nat} {a2 : Nat} {v3 : Int} (o_a0 : Is0 x a0)
    (h : ∃ g1 : Int, ((3 ≤ g1 ∧ g1 ≤ 13) ∧ (∀ (Z'1 : Zt), (PrA Z'1 (a0 + 45) g1 pone pzero ∧ Oth Z Z'1 (At5 (a0 + 45))) → (V mX0_logOf k n 10 [some (r_ a0), some (r_ a1), some (r_ a2), some (i_ v3), some (i_ 0)] [] x Z'1 Q)))) :
    V mX0_logOf k n 0 [some (r_ a0), some (r_ a1), some (r_ a2), some (i_ v3), none] [] x Z Q :=
  V_aload_n dX0_logOf_0 rfl (G_0_13 o_a0.1 o_a0.2.2.2.2.2.2.2.2.2.2.2.2.2.2.2.2.2.2.2.1 lf_0_64 dX0_logOf_1 (Exists.elim h (fun g1 w1 => V_callV (k' := 0) (n' := 0) (t := 6) (q := (RX6, TX6, 2)) [] [] okX6_nothing o_a0.2.2.2.2.2.2.2.2.2.2.2.2.2.2.2.2.2.2.2.2.1.1 rfl rfl lm_0_86 liX6_nothing lqX6_nothing (Nat.le_of_ble_eq_true rfl) (Nat.le_of_ble_eq_true rfl) (Nat.le_of_ble_eq_true rfl) (cat_of rfl) (Nat.le_of_ble_eq_true rfl) (Nat.zero_le _) (Nat.zero_le _) rfl dX0_logOf_4 (sp_X6_nothing o_a0.2.2.2.2.2.2.2.2.2.2.2.2.2.2.2.2.2.2.2.2.1 w1.1 (fun Z'1 p1 => V_iconst dX0_logOf_7 (V_istore (lv' := [some (r_ a0), some (r_ a1), some (r_ a2), some (i_ v3), some (i_ 0)]) dX0_logOf_8 (Nat.le_of_ble_eq_true rfl) rfl (V_msk [true, true, true, true, true] rfl (w1.2 Z'1 p1))))))))
set_option maxRecDepth 20000 in
theorem b_X0_logOf_10 {k n : Nat} {x : Wx} {Z : Zt} {Q : Option Value → Wx → Zt → Prop} {a0 : Nat} {a1 : Nat} {a2 : Nat} {v3 : Int} {v4 : Int} {a0_field : Nat} {a0_f : Nat} (r_a0_field : x.2.1 a0 1 = some a0_field) (r_a0_f : x.2.1 a0 2 = some a0_f) (o_a0 : Is0 x a0) (o_a2 : Is6 x a2) (o_a1 : Is6 x a1) (o_a0_field : Is4 x a0_field) (o_a0_f : Is7 x a0_f)
    (h : Rg v4 ∧ Rg v3 ∧ (((v3 ≤ v4) → (Q (some (i_ (-1))) x Z)) ∧ ((v4 < v3) → (∃ g1 : Int, (∃ g2 : Nat → Int, (∃ g3 : Nat → Int, (∃ g4 : Nat → Int, (∃ g5 : Nat → Int, (PrA Z (a0 + 45) g1 g2 g3 ∧ PrA Z a2 g1 g4 g5 ∧ g1 ≤ 13 ∧ (∀ (r1 : Int), ((r1 = 0 ∨ r1 = 1) ∧ (r1 = 1 ↔ (g2 = g4 ∧ g3 = g5))) → (Rg r1 ∧ (((r1 = 0) → (∃ g6 : Int, (∃ g7 : Int, (∃ g8 : Nat → Int, (∃ g9 : UV, (∃ g10 : UV, (CF g6 g7 g8 ∧ RP g6 g7 g9 ∧ RP g6 g7 g10 ∧ PrA Z (a0 + 45) g6 g9.1 g9.2 ∧ PrA Z a1 g6 g10.1 g10.2 ∧ PA Z a0_f g6 g8 ∧ FA Z a0_field g6 ∧ Z a0 3 = g7 ∧ a0_field + 2 < a0 ∧ a0_f + 1 < a0 ∧ a0 + 40 ≤ (a0 + 45) ∧ a0 + 40 ≤ a1 ∧ (∀ (Z'1 : Zt), (PrA Z'1 (a0 + 45) g6 (cplus g6 g8 g7 g9 g10).1 (cplus g6 g8 g7 g9 g10).2 ∧ Oth Z Z'1 (fun q => (a0 + 6 < q ∧ q ≤ a0 + 39) ∨ At5 (a0 + 45) q)) → (V mX0_logOf k n 10 [some (r_ a0), some (r_ a1), some (r_ a2), some (i_ v3), some (i_ (v4 + 1))] [] x Z'1 Q))))))))) ∧ ((r1 ≠ 0) → (Q (some (i_ v4)) x Z)))))))))))))) :
    V mX0_logOf k n 10 [some (r_ a0), some (r_ a1), some (r_ a2), some (i_ v3), some (i_ v4)] [] x Z Q :=
  V_iload dX0_logOf_10 rfl (V_iload_n dX0_logOf_12 rfl (V_icmp_ge (tgt := 49) dX0_logOf_13 rfl h.1 h.2.1 (fun c1 => V_iconst dX0_logOf_49 (V_iret (ty := .int) dX0_logOf_50 rfl rfl (h.2.2.1 c1))) (fun c1 => V_aload_n dX0_logOf_16 rfl (G_0_13 o_a0.1 o_a0.2.2.2.2.2.2.2.2.2.2.2.2.2.2.2.2.2.2.2.1 lf_0_64 dX0_logOf_17 (V_aload_n dX0_logOf_20 rfl (Exists.elim (h.2.2.2 c1) (fun g1 w1 => Exists.elim w1 (fun g2 w2 => Exists.elim w2 (fun g3 w3 => Exists.elim w3 (fun g4 w4 => Exists.elim w4 (fun g5 w5 => V_callV (k' := 0) (n' := 0) (t := 6) (q := (RX6, TX6, 2)) [r_ a2] [] okX6_matches o_a0.2.2.2.2.2.2.2.2.2.2.2.2.2.2.2.2.2.2.2.2.1.1 rfl rfl lm_0_122 liX6_matches lqX6_matches (Nat.le_of_ble_eq_true rfl) (Nat.le_of_ble_eq_true rfl) (Nat.le_of_ble_eq_true rfl) (cat_of rfl) (Nat.le_of_ble_eq_true rfl) (Nat.zero_le _) (Nat.zero_le _) rfl dX0_logOf_21 (sp_X6_matches o_a0.2.2.2.2.2.2.2.2.2.2.2.2.2.2.2.2.2.2.2.2.1 o_a2 w5.1 w5.2.1 w5.2.2.1 (fun r1 p1 => V_if_eq (tgt := 30) dX0_logOf_24 rfl (w5.2.2.2 r1 p1).1 (fun c2 => V_aload_n dX0_logOf_30 rfl (V_aload_n dX0_logOf_31 rfl (G_0_13 o_a0.1 o_a0.2.2.2.2.2.2.2.2.2.2.2.2.2.2.2.2.2.2.2.1 lf_0_64 dX0_logOf_32 (V_aload_n dX0_logOf_35 rfl (V_aload_n dX0_logOf_36 rfl (G_0_13 o_a0.1 o_a0.2.2.2.2.2.2.2.2.2.2.2.2.2.2.2.2.2.2.2.1 lf_0_64 dX0_logOf_37 (Exists.elim ((w5.2.2.2 r1 p1).2.1 c2) (fun g6 w6 => Exists.elim w6 (fun g7 w7 => Exists.elim w7 (fun g8 w8 => Exists.elim w8 (fun g9 w9 => Exists.elim w9 (fun g10 w10 => V_callV (k' := 0) (n' := 0) (t := 0) (q := (RX0, TX0, 18)) [r_ (a0 + 45), r_ a1, r_ (a0 + 45)] [] okX0_plus o_a0.1 rfl rfl lm_0_103 liX0_plus lqX0_plus (Nat.le_of_ble_eq_true rfl) (Nat.le_of_ble_eq_true rfl) (Nat.le_of_ble_eq_true rfl) (cat_of rfl) (Nat.le_of_ble_eq_true rfl) (Nat.zero_le _) (Nat.zero_le _) rfl dX0_logOf_40 (sp_X0_plus r_a0_field r_a0_f o_a0 o_a0.2.2.2.2.2.2.2.2.2.2.2.2.2.2.2.2.2.2.2.2.1 o_a1 o_a0.2.2.2.2.2.2.2.2.2.2.2.2.2.2.2.2.2.2.2.2.1 o_a0_field o_a0_f w10.1 w10.2.1 w10.2.2.1 w10.2.2.2.1 w10.2.2.2.2.1 w10.2.2.2.2.2.1 w10.2.2.2.2.2.2.1 w10.2.2.2.2.2.2.2.1 w10.2.2.2.2.2.2.2.2.1 w10.2.2.2.2.2.2.2.2.2.1 w10.2.2.2.2.2.2.2.2.2.2.1 w10.2.2.2.2.2.2.2.2.2.2.2.1 w10.2.2.2.2.2.2.2.2.2.2.1 (fun Z'1 p2 => V_iinc (lv' := [some (r_ a0), some (r_ a1), some (r_ a2), some (i_ v3), some (i_ (v4 + 1))]) dX0_logOf_43 rfl (Nat.le_of_ble_eq_true rfl) rfl (V_goto (tgt := 10) dX0_logOf_46 rfl (V_msk [true, true, true, true, true] rfl (w10.2.2.2.2.2.2.2.2.2.2.2.2 Z'1 p2))))))))))))))))) (fun c2 => V_iload dX0_logOf_27 rfl (V_iret (ty := .int) dX0_logOf_29 rfl rfl ((w5.2.2.2 r1 p1).2.2 c2))))))))))))))))
theorem sp_X0_multiply {k n : Nat} {x : Wx} {Z : Zt} {Q : Option Value → Wx → Zt → Prop} {a b d fl ff : Nat} {w : Int} (hX : CX x a fl ff) (ob : Is6 x b) (od : Is6 x d) {p g : Int} {F : Nat → Int} {A : UV} (hZ : CZ Z a fl ff p g F) (hA : RP p g A) (hPA : PrA Z b p A.1 A.2) (hw : -99 ≤ w ∧ w ≤ 99) (hb2 : a + 50 ≤ b) (hd2 : a + 50 ≤ d) (h : ∀ Z' : Zt, (PrA Z' d p (mulB p F g (if w < 0 then cneg p A else A) (w.natAbs : Int) 7 czero).1 (mulB p F g (if w < 0 then cneg p A else A) (w.natAbs : Int) 7 czero).2 ∧ Oth Z Z' (fun q => (a + 6 < q ∧ q ≤ a + 44) ∨ At5 d q)) → Q none x Z') : V mX0_multiply k n 0 [some (r_ a), some (r_ b), some (i_ w), some (r_ d), none, none] [] x Z Q := by
  have hC := hZ.1
  have hp := hC.1.rg
  have hg := hC.2.2.2.2
  have hXX := hX
  obtain ⟨x1, x2, x3, x4, x5, x6, x7⟩ := hX
  have o40 : Is6 x (a + 40) := x3.2.2.2.2.2.2.2.2.2.2.2.2.2.2.2.2.2.2.1
  have hset : ∀ q, ((a + 6 < q ∧ q ≤ a + 44) ∨ At5 d q) → a < q := fun q hq => by unfold At5 at hq; omega
  have lp : ∀ (P : UV), RP p g P → P = (if w < 0 then cneg p A else A) → ∀ (m : Nat) (v : Int) (B : UV) (Z1 : Zt), v = (m : Int) - 1 → m ≤ 7 → RP p g B → PrA Z1 d p B.1 B.2 → PrA Z1 (a + 40) p P.1 P.2 → Oth Z Z1 (fun q => (a + 6 < q ∧ q ≤ a + 44) ∨ At5 d q) → mulB p F g P (w.natAbs : Int) m B = mulB p F g P (w.natAbs : Int) 7 czero → V mX0_multiply k n 46 [some (r_ a), none, none, some (r_ d), some (i_ (w.natAbs : Int)), some (i_ v)] [] x Z1 Q := by
    intro P hP hPe m
    induction m with
    | zero =>
      intro v B Z1 hv hm hB hPB hPP hO he
      refine b_X0_multiply_46 x1 x2 x3 od x4 x5 ⟨⟨by omega, by omega⟩, fun _ => h Z1 ⟨?_, hO⟩, fun c1 => by omega⟩
      rw [← hPe, ← he]; exact hPB
    | succ m ih =>
      intro v B Z1 hv hm hB hPB hPP hO he
      have hvm : v.toNat = m := by omega
      have hZ1 := CZ.kept hXX hZ hO hset
      have hm2 := Int.emod_two_eq ((w.natAbs : Int) / 2 ^ m)
      refine b_X0_multiply_46 x1 x2 x3 od x4 x5 ⟨⟨by omega, by omega⟩, fun c1 => by omega, fun _ => ⟨p, g, F, B, B, hC, hB, hB, hPB, hPB, hZ1.2.1, hZ1.2.2.1, hZ1.2.2.2, x6, x7, by omega, fun Z2 hh => ⟨⟨by omega, by omega⟩, by omega, ?_⟩⟩⟩
      rw [hvm]
      have hP2 := hPP.kept hh.2 (fun q hq => by unfold At5 at hq ⊢; omega)
      have hO2 := hO.tr (hh.2.wk (B := fun q => (a + 6 < q ∧ q ≤ a + 44) ∨ At5 d q) (fun q hq => by unfold At5 at hq ⊢; omega))
      have hZ2 := CZ.kept hXX hZ hO2 hset
      have hBB := cplus_ok hC hB hB
      refine ⟨⟨by omega, by omega⟩, fun c2 => ?_, fun c2 => ⟨p, g, F, cplus p F g B B, P, hC, hBB, hP, hh.1, hP2, hZ2.2.1, hZ2.2.2.1, hZ2.2.2.2, x6, x7, by omega, by omega, fun Z3 hh3 => ?_⟩⟩
      · refine b_X0_multiply_79 (ih (v + (-1)) (cplus p F g B B) Z2 (by omega) (by omega) hBB hh.1 hP2 hO2 ?_)
        rw [← he]
        show _ = mulB p F g P _ m (if (w.natAbs : Int) / 2 ^ m % 2 = 1 then _ else _)
        rw [if_neg c2]
      · refine b_X0_multiply_79 (ih (v + (-1)) (cplus p F g (cplus p F g B B) P) Z3 (by omega) (by omega) (cplus_ok hC hBB hP) hh3.1 (hP2.kept hh3.2 (fun q hq => by unfold At5 at hq ⊢; omega)) (hO2.tr (hh3.2.wk (fun q hq => by unfold At5 at hq ⊢; omega))) ?_)
        rw [← he]
        show _ = mulB p F g P _ m (if (w.natAbs : Int) / 2 ^ m % 2 = 1 then _ else _)
        rw [if_pos c2]
  have mid : ∀ (P : UV) (Z1 : Zt), RP p g P → P = (if w < 0 then cneg p A else A) → PrA Z1 (a + 40) p P.1 P.2 → Oth Z Z1 (fun q => (a + 6 < q ∧ q ≤ a + 44) ∨ At5 d q) → V mX0_multiply k n 27 [some (r_ a), none, some (i_ w), some (r_ d), none, none] [] x Z1 Q := by
    intro P Z1 hP hPe hPP hO
    refine b_X0_multiply_27 od ⟨⟨by omega, by omega⟩, ⟨by omega, by omega⟩, p, hp, fun Z2 hh => ?_⟩
    rw [show min (w.natAbs : Int) 99 = (w.natAbs : Int) by omega]
    exact lp P hP hPe 7 6 czero Z2 (by omega) (by omega) (czero_ok hC.1 (by omega)) hh.1 (hPP.kept hh.2 (fun q hq => by unfold At5 at hq ⊢; omega)) (hO.tr (hh.2.wk (fun q hq => Or.inr hq))) rfl
  refine b_X0_multiply_0 x1 x3 ob x4 ⟨p, _, _, hPA, by omega, fun Z1 hh => ⟨⟨by omega, by omega⟩, fun c1 => ?_, fun c1 => ?_⟩⟩
  · exact mid A Z1 hA (by rw [if_neg (by omega)]) hh.1 (hh.2.wk (fun q hq => by unfold At5 at hq; omega))
  · have hO1 : Oth Z Z1 (fun q => (a + 6 < q ∧ q ≤ a + 44) ∨ At5 d q) := hh.2.wk (fun q hq => by unfold At5 at hq; omega)
    have hZ1 := CZ.kept hXX hZ hO1 hset
    refine ⟨p, _, hh.1.2, hZ1.2.2.1.1, ⟨by omega, by omega⟩, ⟨by omega, by omega⟩, fun Z2 hh2 => ?_⟩
    refine mid (cneg p A) Z2 (cneg_ok hC.1 hA) (by rw [if_pos c1]) ⟨hh.1.1.kept hh2.2 (by unfold At2; omega) (by unfold At2; omega), hh2.1⟩ (hO1.tr (hh2.2.wk (fun q hq => by unfold At2 at hq; omega)))
theorem sp_X0_orderOfClass {k n : Nat} {x : Wx} {Z : Zt} {Q : Option Value → Wx → Zt → Prop} {a b fl ff : Nat} {w : Int} (hX : CX x a fl ff) (ob : Is6 x b) {p g : Int} {F : Nat → Int} {A : UV} (hZ : CZ Z a fl ff p g F) (hA : RP p g A) (hPA : PrA Z b p A.1 A.2) (hw : 1 ≤ w ∧ w ≤ 10000) (hb2 : a + 50 ≤ b) (h : ∀ Z' : Zt, Oth Z Z' (fun q => a + 6 < q ∧ q ≤ a + 49) → Q (some (i_ (ordF p F g A (w.toNat - 1) 1 A))) x Z') : V mX0_orderOfClass k n 0 [some (r_ a), some (r_ b), some (i_ w), none] [] x Z Q := by
  have hC := hZ.1
  have hXX := hX
  obtain ⟨x1, x2, x3, x4, x5, x6, x7⟩ := hX
  have o45 : Is6 x (a + 45) := x3.2.2.2.2.2.2.2.2.2.2.2.2.2.2.2.2.2.2.2.2.1
  have lp : ∀ (m : Nat) (v : Int) (B : UV) (Z1 : Zt), v + m = w → 1 ≤ v → RP p g B → PrA Z1 (a + 45) p B.1 B.2 → Oth Z Z1 (fun q => a + 6 < q ∧ q ≤ a + 49) → ordF p F g A m v B = ordF p F g A (w.toNat - 1) 1 A → V mX0_orderOfClass k n 10 [some (r_ a), some (r_ b), some (i_ w), some (i_ v)] [] x Z1 Q := by
    intro m
    induction m with
    | zero =>
      intro v B Z1 hm hv hB hPB hO he
      exact b_X0_orderOfClass_10 x1 x2 x3 ob x4 x5 ⟨⟨by omega, by omega⟩, ⟨by omega, by omega⟩, fun _ => b_X0_orderOfClass_44 (by have := h Z1 hO; rw [← he] at this; exact this), fun c1 => by omega⟩
    | succ m ih =>
      intro v B Z1 hm hv hB hPB hO he
      have hZ1 := CZ.kept hXX hZ hO (fun q hq => by omega)
      have hst : ordF p F g A (m + 1) v B = if pd B.1 ≤ 0 then v else ordF p F g A m (v + 1) (cplus p F g B A) := rfl
      refine b_X0_orderOfClass_10 x1 x2 x3 ob x4 x5 ⟨⟨by omega, by omega⟩, ⟨by omega, by omega⟩, fun c1 => by omega, fun c1 => ⟨p, _, _, hPB, fun r hr => ⟨by rcases hr.1 with e | e <;> rw [e] <;> exact ⟨by decide, by decide⟩, fun c2 => b_X0_orderOfClass_44 ?_, fun c2 => ?_⟩⟩⟩
      · have h1 := hr.2.mp (hr.1.resolve_left c2)
        have := h Z1 hO
        rw [← he, hst, if_pos h1] at this
        exact this
      · have h1 : ¬ pd B.1 ≤ 0 := fun q => by have := hr.2.mpr q; omega
        refine ⟨p, g, F, B, A, hC, hB, hA, hPB, hPA.kept hO (fun q hq => by unfold At5 at hq; omega), hZ1.2.1, hZ1.2.2.1, hZ1.2.2.2, x6, x7, by omega, by omega, fun Z2 hh => ?_⟩
        refine ih (v + 1) _ Z2 (by omega) (by omega) (cplus_ok hC hB hA) hh.1 (hO.tr (hh.2.wk (fun q hq => by unfold At5 at hq; omega))) ?_
        rw [← he, hst, if_neg h1]
  refine b_X0_orderOfClass_0 x3 ob ⟨p, _, _, hPA, by omega, fun Z1 hh => ?_⟩
  exact lp (w.toNat - 1) 1 A Z1 (by omega) (by omega) hA hh.1 (hh.2.wk (fun q hq => by unfold At5 at hq; omega)) rfl
theorem sp_X0_logOf {k n : Nat} {x : Wx} {Z : Zt} {Q : Option Value → Wx → Zt → Prop} {a b c fl ff : Nat} {w : Int} (hX : CX x a fl ff) (ob : Is6 x b) (oc : Is6 x c) {p g : Int} {F : Nat → Int} {A B : UV} (hZ : CZ Z a fl ff p g F) (hA : RP p g A) (hB : RP p g B) (hPA : PrA Z b p A.1 A.2) (hPB : PrA Z c p B.1 B.2) (hw : 0 ≤ w ∧ w ≤ 10000) (hb2 : a + 50 ≤ b) (hc2 : a + 50 ≤ c) (h : ∀ Z' : Zt, Oth Z Z' (fun q => a + 6 < q ∧ q ≤ a + 49) → Q (some (i_ (logF p F g A B w.toNat 0 czero))) x Z') : V mX0_logOf k n 0 [some (r_ a), some (r_ b), some (r_ c), some (i_ w), none] [] x Z Q := by
  have hC := hZ.1
  have hp := hC.1.rg
  have hg := hC.2.2.2.2
  have hXX := hX
  obtain ⟨x1, x2, x3, x4, x5, x6, x7⟩ := hX
  have o45 : Is6 x (a + 45) := x3.2.2.2.2.2.2.2.2.2.2.2.2.2.2.2.2.2.2.2.2.1
  have lp : ∀ (m : Nat) (v : Int) (W : UV) (Z1 : Zt), v + m = w → 0 ≤ v → RP p g W → PrA Z1 (a + 45) p W.1 W.2 → Oth Z Z1 (fun q => a + 6 < q ∧ q ≤ a + 49) → logF p F g A B m v W = logF p F g A B w.toNat 0 czero → V mX0_logOf k n 10 [some (r_ a), some (r_ b), some (r_ c), some (i_ w), some (i_ v)] [] x Z1 Q := by
    intro m
    induction m with
    | zero =>
      intro v W Z1 hm hv hW hPW hO he
      exact b_X0_logOf_10 x1 x2 x3 oc ob x4 x5 ⟨⟨by omega, by omega⟩, ⟨by omega, by omega⟩, fun _ => (by have := h Z1 hO; rw [← he] at this; exact this), fun c1 => by omega⟩
    | succ m ih =>
      intro v W Z1 hm hv hW hPW hO he
      have hZ1 := CZ.kept hXX hZ hO (fun q hq => by omega)
      have hst : logF p F g A B (m + 1) v W = @ite _ (W = B) (Classical.propDecidable _) v (logF p F g A B m (v + 1) (cplus p F g W A)) := rfl
      refine b_X0_logOf_10 x1 x2 x3 oc ob x4 x5 ⟨⟨by omega, by omega⟩, ⟨by omega, by omega⟩, fun c1 => by omega, fun c1 => ⟨p, W.1, W.2, B.1, B.2, hPW, hPB.kept hO (fun q hq => by unfold At5 at hq; omega), hp.2, fun r hr => ⟨by rcases hr.1 with e | e <;> rw [e] <;> exact ⟨by decide, by decide⟩, fun c2 => ?_, fun c2 => ?_⟩⟩⟩
      · have h1 : ¬ W = B := fun q => by have := hr.2.mpr (by rw [q]; exact ⟨rfl, rfl⟩); omega
        refine ⟨p, g, F, W, A, hC, hW, hA, hPW, hPA.kept hO (fun q hq => by unfold At5 at hq; omega), hZ1.2.1, hZ1.2.2.1, hZ1.2.2.2, x6, x7, by omega, by omega, fun Z2 hh => ?_⟩
        refine ih (v + 1) _ Z2 (by omega) (by omega) (cplus_ok hC hW hA) hh.1 (hO.tr (hh.2.wk (fun q hq => by unfold At5 at hq; omega))) ?_
        rw [← he, hst, if_neg h1]
      · have h1 := hr.2.mp (hr.1.resolve_left c2)
        have := h Z1 hO
        rw [← he, hst, if_pos (Prod.ext h1.1 h1.2)] at this
        exact this
  refine b_X0_logOf_0 x3 ⟨p, hp, fun Z1 hh => ?_⟩
  exact lp w.toNat 0 czero Z1 (by omega) (by omega) (czero_ok hC.1 (by omega)) hh.1 (hh.2.wk (fun q hq => by unfold At5 at hq; omega)) rfl
