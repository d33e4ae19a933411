/-! ===== Curve: its points ===== -/
def hor (p : Int) (F : Nat → Int) (x : Int) : Nat → Int → Int
  | 0, v => v
  | n + 1, v => hor p F x n ((v * x + F n) % p)
/-- F where x is that number -/
def ev (p : Int) (F : Nat → Int) (x : Int) : Int := hor p F x 24 0
theorem hor_0 {p : Int} {F : Nat → Int} {x : Int} : ∀ (m n : Nat), (∀ i : Nat, n ≤ i → i < n + m → F i = 0) → hor p F x (n + m) 0 = hor p F x n 0
  | 0, n, _ => rfl
  | m + 1, n, h => by
    show hor p F x (n + m) ((0 * x + F (n + m)) % p) = _
    rw [h (n + m) (by omega) (by omega), Int.zero_mul, Int.zero_add, Int.zero_emod]
    exact hor_0 m n (fun i h1 h2 => h i h1 (by omega))
theorem hor_rg {p : Int} (hp : 0 < p) {F : Nat → Int} {x : Int} : ∀ (n : Nat) (v : Int), (0 ≤ v ∧ v < p) → 0 ≤ hor p F x n v ∧ hor p F x n v < p
  | 0, v, h => h
  | n + 1, v, _ => hor_rg hp n _ ⟨Int.emod_nonneg _ (by omega), Int.emod_lt_of_pos _ hp⟩
theorem ev_rg {p : Int} (hp : 0 < p) (F : Nat → Int) (x : Int) : 0 ≤ ev p F x ∧ ev p F x < p := hor_rg hp 24 0 ⟨by omega, hp⟩
theorem ev_dg {p : Int} {F : Nat → Int} (hF : ∀ i : Nat, 10 ≤ i → F i = 0) (x : Int) : hor p F x (dg F 10 + 1).toNat 0 = ev p F x := by
  have h1 := dg_lt F 10
  have h2 := dg_ge F 10
  unfold ev
  rw [show 24 = (dg F 10 + 1).toNat + (24 - (dg F 10 + 1).toNat) by omega]
  symm
  apply hor_0
  intro i h3 h4
  by_cases c : i < 10
  · exact dg_above F 10 i (by omega) c
  · exact hF i (by omega)
/-- the points over x with F's value v: m more y, from y on -/
def rowY (p v x : Int) : Nat → Int → List (Int × Int)
  | 0, _ => []
  | m + 1, y => if y * y % p = v then (x, y) :: rowY p v x m (y + 1) else rowY p v x m (y + 1)
def colX (p : Int) (F : Nat → Int) : Nat → Int → List (Int × Int)
  | 0, _ => []
  | m + 1, x => rowY p (ev p F x) x p.toNat 0 ++ colX p F m (x + 1)
def pts (p : Int) (F : Nat → Int) : List (Int × Int) := colX p F p.toNat 0
/-- all POINTS, FAR last -/
def pall (p : Int) (F : Nat → Int) : List (Int × Int) := pts p F ++ [(-2, -2)]
def cntY (p v : Int) : Nat → Int → Nat
  | 0, _ => 0
  | m + 1, y => if y * y % p = v then cntY p v m (y + 1) + 1 else cntY p v m (y + 1)
theorem rowY_len (p v x : Int) : ∀ (m : Nat) (y : Int), (rowY p v x m y).length = cntY p v m y
  | 0, _ => rfl
  | m + 1, y => by
    unfold rowY cntY
    split
    · rw [List.length_cons, rowY_len p v x m (y + 1)]
    · exact rowY_len p v x m (y + 1)
theorem cntY_2 {p v : Int} (hp : IsP p) (hv : 0 ≤ v ∧ v < p) : cntY p v p.toNat 0 ≤ 2 := by
  have h3 : ∀ i : Nat, i < 3 → cntY 3 i 3 0 ≤ 2 := by decide
  have h5 : ∀ i : Nat, i < 5 → cntY 5 i 5 0 ≤ 2 := by decide
  have h7 : ∀ i : Nat, i < 7 → cntY 7 i 7 0 ≤ 2 := by decide
  have h11 : ∀ i : Nat, i < 11 → cntY 11 i 11 0 ≤ 2 := by decide
  have h13 : ∀ i : Nat, i < 13 → cntY 13 i 13 0 ≤ 2 := by decide
  have hc : ((v.toNat : Nat) : Int) = v := by omega
  rcases hp with e | e | e | e | e
  · subst e; have := h3 v.toNat (by omega); rw [hc] at this; exact this
  · subst e; have := h5 v.toNat (by omega); rw [hc] at this; exact this
  · subst e; have := h7 v.toNat (by omega); rw [hc] at this; exact this
  · subst e; have := h11 v.toNat (by omega); rw [hc] at this; exact this
  · subst e; have := h13 v.toNat (by omega); rw [hc] at this; exact this
theorem colX_len {p : Int} (hp : IsP p) (F : Nat → Int) : ∀ (m : Nat) (x : Int), (colX p F m x).length ≤ 2 * m
  | 0, _ => Nat.le_refl 0
  | m + 1, x => by
    unfold colX
    rw [List.length_append, rowY_len]
    have := cntY_2 hp (ev_rg (by have := hp.rg; omega) F x)
    have := colX_len hp F m (x + 1)
    omega
theorem pts_len {p : Int} (hp : IsP p) (F : Nat → Int) : (pts p F).length ≤ 26 := by
  have := colX_len hp F p.toNat 0
  have := hp.rg
  unfold pts
  omega
theorem pall_len {p : Int} (hp : IsP p) (F : Nat → Int) : 1 ≤ (pall p F).length ∧ (pall p F).length ≤ 27 := by
  have := pts_len hp F
  unfold pall
  rw [List.length_append]
  show 1 ≤ (pts p F).length + 1 ∧ (pts p F).length + 1 ≤ 27
  omega
def PtA (Z : Zt) (a : Nat) (L : List (Int × Int)) : Prop := Z a 3 = L.length ∧ ∀ k : Nat, k < L.length → Z (a + 6) k = (L.getD k (0, 0)).1 ∧ Z (a + 7) k = (L.getD k (0, 0)).2
/-- L is told, and all else of the curve and of the world is as in Z -/
def FS (Z : Zt) (Z1 : Zt) (a : Nat) (L : List (Int × Int)) : Prop := PtA Z1 a L ∧ (∀ b, b ≠ a → b ≠ a + 6 → b ≠ a + 7 → Z1 b = Z b) ∧ ∀ i, i ≠ 3 → Z1 a i = Z a i
theorem getD_app {L : List (Int × Int)} {e : Int × Int} {k : Nat} : (L ++ [e]).getD k (0, 0) = if k < L.length then L.getD k (0, 0) else if k = L.length then e else (0, 0) := by
  rw [List.getD_eq_getElem?_getD, List.getD_eq_getElem?_getD]
  by_cases c : k < L.length
  · rw [if_pos c, List.getElem?_append_left c]
  · rw [if_neg c, List.getElem?_append_right (by omega)]
    by_cases c2 : k = L.length
    · rw [if_pos c2, c2, Nat.sub_self]; rfl
    · rw [if_neg c2, List.getElem?_eq_none (by show 1 ≤ k - L.length; omega)]; rfl
theorem FS.push {Z Z1 Z2 Z3 Z4 : Zt} {a : Nat} {L : List (Int × Int)} {x y : Int} (h : FS Z Z1 a L) (e2 : Z2 = up Z1 (a + 6) (Z1 a 3).toNat x) (e3 : Z3 = up Z2 (a + 7) (Z2 a 3).toNat y) (e4 : Z4 = up Z3 a 3 (Z3 a 3 + 1)) : FS Z Z4 a (L ++ [(x, y)]) := by
  have hl := h.1.1
  have a2 : Z2 a = Z1 a := by rw [e2, up_row _ _ _ _ _ (by omega)]
  have a3 : Z3 a = Z1 a := by rw [e3, up_row _ _ _ _ _ (by omega), a2]
  have b6 : ∀ k : Nat, Z4 (a + 6) k = if k = L.length then x else Z1 (a + 6) k := fun k => by
    rw [e4, up_row _ _ _ _ _ (by omega), e3, up_row _ _ _ _ _ (by omega), e2, up_at, hl, Int.toNat_natCast]
  have b7 : ∀ k : Nat, Z4 (a + 7) k = if k = L.length then y else Z1 (a + 7) k := fun k => by
    rw [e4, up_row _ _ _ _ _ (by omega), e3, up_at, a2, hl, Int.toNat_natCast, e2, up_row _ _ _ _ _ (by omega)]
  refine ⟨⟨?_, fun k hk => ?_⟩, fun b h1 h2 h3 => ?_, fun i hi => ?_⟩
  · rw [e4, up_at, if_pos rfl, a3, hl, List.length_append]; rfl
  · rw [b6, b7, getD_app]
    rw [List.length_append] at hk
    have hk2 : k < L.length + 1 := hk
    by_cases c : k = L.length
    · rw [if_pos c, if_pos c, if_neg (by omega), if_pos c]; exact ⟨rfl, rfl⟩
    · simp only [if_neg c, if_pos (show k < L.length by omega)]
      exact h.1.2 k (by omega)
  · rw [e4, up_row _ _ _ _ _ h1, e3, up_row _ _ _ _ _ h3, e2, up_row _ _ _ _ _ h2]
    exact h.2.1 b h1 h2 h3
  · rw [e4, up_at, if_neg hi, a3]
    exact h.2.2 i hi
theorem dX2_findPoints_0 : decode cX2_findPoints 0 = .ok (.aload_n 0, 1) := by decide +kernel
theorem dX2_findPoints_1 : decode cX2_findPoints 1 = .ok (.iconst 0, 1) := by decide +kernel
theorem dX2_findPoints_2 : decode cX2_findPoints 2 = .ok (.putfield 89, 3) := by decide +kernel
theorem dX2_findPoints_5 : decode cX2_findPoints 5 = .ok (.iconst 0, 1) := by decide +kernel
theorem dX2_findPoints_6 : decode cX2_findPoints 6 = .ok (.istore_n 1, 1) := by decide +kernel
theorem dX2_findPoints_7 : decode cX2_findPoints 7 = .ok (.iload_n 1, 1) := by decide +kernel
theorem dX2_findPoints_8 : decode cX2_findPoints 8 = .ok (.aload_n 0, 1) := by decide +kernel
theorem dX2_findPoints_9 : decode cX2_findPoints 9 = .ok (.getfield 12, 3) := by decide +kernel
theorem dX2_findPoints_12 : decode cX2_findPoints 12 = .ok (.getfield 102, 3) := by decide +kernel
theorem dX2_findPoints_15 : decode cX2_findPoints 15 = .ok (.if_icmp .ge 121, 3) := by decide +kernel
theorem dX2_findPoints_18 : decode cX2_findPoints 18 = .ok (.iconst 0, 1) := by decide +kernel
theorem dX2_findPoints_19 : decode cX2_findPoints 19 = .ok (.istore_n 2, 1) := by decide +kernel
theorem dX2_findPoints_20 : decode cX2_findPoints 20 = .ok (.aload_n 0, 1) := by decide +kernel
theorem dX2_findPoints_21 : decode cX2_findPoints 21 = .ok (.getfield 21, 3) := by decide +kernel
theorem dX2_findPoints_24 : decode cX2_findPoints 24 = .ok (.getfield 65, 3) := by decide +kernel
theorem dX2_findPoints_27 : decode cX2_findPoints 27 = .ok (.istore_n 3, 1) := by decide +kernel
theorem dX2_findPoints_28 : decode cX2_findPoints 28 = .ok (.iload_n 3, 1) := by decide +kernel
theorem dX2_findPoints_29 : decode cX2_findPoints 29 = .ok (.ifCond .lt 29, 3) := by decide +kernel
theorem dX2_findPoints_32 : decode cX2_findPoints 32 = .ok (.aload_n 0, 1) := by decide +kernel
theorem dX2_findPoints_33 : decode cX2_findPoints 33 = .ok (.getfield 12, 3) := by decide +kernel
theorem dX2_findPoints_36 : decode cX2_findPoints 36 = .ok (.iload_n 2, 1) := by decide +kernel
theorem dX2_findPoints_37 : decode cX2_findPoints 37 = .ok (.iload_n 1, 1) := by decide +kernel
theorem dX2_findPoints_38 : decode cX2_findPoints 38 = .ok (.imul, 1) := by decide +kernel
theorem dX2_findPoints_39 : decode cX2_findPoints 39 = .ok (.aload_n 0, 1) := by decide +kernel
theorem dX2_findPoints_40 : decode cX2_findPoints 40 = .ok (.getfield 21, 3) := by decide +kernel
theorem dX2_findPoints_43 : decode cX2_findPoints 43 = .ok (.iload_n 3, 1) := by decide +kernel
theorem dX2_findPoints_44 : decode cX2_findPoints 44 = .ok (.invokevirtual 105, 3) := by decide +kernel
theorem dX2_findPoints_47 : decode cX2_findPoints 47 = .ok (.iadd, 1) := by decide +kernel
theorem dX2_findPoints_48 : decode cX2_findPoints 48 = .ok (.invokevirtual 109, 3) := by decide +kernel
theorem dX2_findPoints_51 : decode cX2_findPoints 51 = .ok (.istore_n 2, 1) := by decide +kernel
theorem dX2_findPoints_52 : decode cX2_findPoints 52 = .ok (.iinc 3 (-1), 3) := by decide +kernel
theorem dX2_findPoints_55 : decode cX2_findPoints 55 = .ok (.goto (-27), 3) := by decide +kernel
theorem dX2_findPoints_58 : decode cX2_findPoints 58 = .ok (.iconst 0, 1) := by decide +kernel
theorem dX2_findPoints_59 : decode cX2_findPoints 59 = .ok (.istore_n 3, 1) := by decide +kernel
theorem dX2_findPoints_60 : decode cX2_findPoints 60 = .ok (.iload_n 3, 1) := by decide +kernel
theorem dX2_findPoints_61 : decode cX2_findPoints 61 = .ok (.aload_n 0, 1) := by decide +kernel
theorem dX2_findPoints_62 : decode cX2_findPoints 62 = .ok (.getfield 12, 3) := by decide +kernel
theorem dX2_findPoints_65 : decode cX2_findPoints 65 = .ok (.getfield 102, 3) := by decide +kernel
theorem dX2_findPoints_68 : decode cX2_findPoints 68 = .ok (.if_icmp .ge 62, 3) := by decide +kernel
theorem dX2_findPoints_71 : decode cX2_findPoints 71 = .ok (.aload_n 0, 1) := by decide +kernel
theorem dX2_findPoints_72 : decode cX2_findPoints 72 = .ok (.getfield 89, 3) := by decide +kernel
theorem dX2_findPoints_75 : decode cX2_findPoints 75 = .ok (.bipush 26, 2) := by decide +kernel
theorem dX2_findPoints_77 : decode cX2_findPoints 77 = .ok (.if_icmp .ge 53, 3) := by decide +kernel
theorem dX2_findPoints_80 : decode cX2_findPoints 80 = .ok (.aload_n 0, 1) := by decide +kernel
theorem dX2_findPoints_81 : decode cX2_findPoints 81 = .ok (.getfield 12, 3) := by decide +kernel
theorem dX2_findPoints_84 : decode cX2_findPoints 84 = .ok (.iload_n 3, 1) := by decide +kernel
theorem dX2_findPoints_85 : decode cX2_findPoints 85 = .ok (.iload_n 3, 1) := by decide +kernel
theorem dX2_findPoints_86 : decode cX2_findPoints 86 = .ok (.imul, 1) := by decide +kernel
theorem dX2_findPoints_87 : decode cX2_findPoints 87 = .ok (.invokevirtual 109, 3) := by decide +kernel
theorem dX2_findPoints_90 : decode cX2_findPoints 90 = .ok (.iload_n 2, 1) := by decide +kernel
theorem dX2_findPoints_91 : decode cX2_findPoints 91 = .ok (.if_icmp .ne 33, 3) := by decide +kernel
theorem dX2_findPoints_94 : decode cX2_findPoints 94 = .ok (.aload_n 0, 1) := by decide +kernel
theorem dX2_findPoints_95 : decode cX2_findPoints 95 = .ok (.getfield 25, 3) := by decide +kernel
theorem dX2_findPoints_98 : decode cX2_findPoints 98 = .ok (.aload_n 0, 1) := by decide +kernel
theorem dX2_findPoints_99 : decode cX2_findPoints 99 = .ok (.getfield 89, 3) := by decide +kernel
theorem dX2_findPoints_102 : decode cX2_findPoints 102 = .ok (.iload_n 1, 1) := by decide +kernel
theorem dX2_findPoints_103 : decode cX2_findPoints 103 = .ok (.iastore, 1) := by decide +kernel
theorem dX2_findPoints_104 : decode cX2_findPoints 104 = .ok (.aload_n 0, 1) := by decide +kernel
theorem dX2_findPoints_105 : decode cX2_findPoints 105 = .ok (.getfield 29, 3) := by decide +kernel
theorem dX2_findPoints_108 : decode cX2_findPoints 108 = .ok (.aload_n 0, 1) := by decide +kernel
theorem dX2_findPoints_109 : decode cX2_findPoints 109 = .ok (.getfield 89, 3) := by decide +kernel
theorem dX2_findPoints_112 : decode cX2_findPoints 112 = .ok (.iload_n 3, 1) := by decide +kernel
theorem dX2_findPoints_113 : decode cX2_findPoints 113 = .ok (.iastore, 1) := by decide +kernel
theorem dX2_findPoints_114 : decode cX2_findPoints 114 = .ok (.aload_n 0, 1) := by decide +kernel
theorem dX2_findPoints_115 : decode cX2_findPoints 115 = .ok (.dup, 1) := by decide +kernel
theorem dX2_findPoints_116 : decode cX2_findPoints 116 = .ok (.getfield 89, 3) := by decide +kernel
theorem dX2_findPoints_119 : decode cX2_findPoints 119 = .ok (.iconst 1, 1) := by decide +kernel
theorem dX2_findPoints_120 : decode cX2_findPoints 120 = .ok (.iadd, 1) := by decide +kernel
theorem dX2_findPoints_121 : decode cX2_findPoints 121 = .ok (.putfield 89, 3) := by decide +kernel
theorem dX2_findPoints_124 : decode cX2_findPoints 124 = .ok (.iinc 3 1, 3) := by decide +kernel
theorem dX2_findPoints_127 : decode cX2_findPoints 127 = .ok (.goto (-67), 3) := by decide +kernel
theorem dX2_findPoints_130 : decode cX2_findPoints 130 = .ok (.iinc 1 1, 3) := by decide +kernel
theorem dX2_findPoints_133 : decode cX2_findPoints 133 = .ok (.goto (-126), 3) := by decide +kernel
theorem dX2_findPoints_136 : decode cX2_findPoints 136 = .ok (.aload_n 0, 1) := by decide +kernel
theorem dX2_findPoints_137 : decode cX2_findPoints 137 = .ok (.getfield 25, 3) := by decide +kernel
theorem dX2_findPoints_140 : decode cX2_findPoints 140 = .ok (.aload_n 0, 1) := by decide +kernel
theorem dX2_findPoints_141 : decode cX2_findPoints 141 = .ok (.getfield 89, 3) := by decide +kernel
theorem dX2_findPoints_144 : decode cX2_findPoints 144 = .ok (.bipush (-2), 2) := by decide +kernel
theorem dX2_findPoints_146 : decode cX2_findPoints 146 = .ok (.iastore, 1) := by decide +kernel
theorem dX2_findPoints_147 : decode cX2_findPoints 147 = .ok (.aload_n 0, 1) := by decide +kernel
theorem dX2_findPoints_148 : decode cX2_findPoints 148 = .ok (.getfield 29, 3) := by decide +kernel
theorem dX2_findPoints_151 : decode cX2_findPoints 151 = .ok (.aload_n 0, 1) := by decide +kernel
theorem dX2_findPoints_152 : decode cX2_findPoints 152 = .ok (.getfield 89, 3) := by decide +kernel
theorem dX2_findPoints_155 : decode cX2_findPoints 155 = .ok (.bipush (-2), 2) := by decide +kernel
theorem dX2_findPoints_157 : decode cX2_findPoints 157 = .ok (.iastore, 1) := by decide +kernel
theorem dX2_findPoints_158 : decode cX2_findPoints 158 = .ok (.aload_n 0, 1) := by decide +kernel
theorem dX2_findPoints_159 : decode cX2_findPoints 159 = .ok (.dup, 1) := by decide +kernel
theorem dX2_findPoints_160 : decode cX2_findPoints 160 = .ok (.getfield 89, 3) := by decide +kernel
theorem dX2_findPoints_163 : decode cX2_findPoints 163 = .ok (.iconst 1, 1) := by decide +kernel
theorem dX2_findPoints_164 : decode cX2_findPoints 164 = .ok (.iadd, 1) := by decide +kernel
theorem dX2_findPoints_165 : decode cX2_findPoints 165 = .ok (.putfield 89, 3) := by decide +kernel
theorem dX2_findPoints_168 : decode cX2_findPoints 168 = .ok (.return_, 1) := by decide +kernel
set_option maxRecDepth 20000 in
theorem b_X2_findPoints_0 {k n : Nat} {x : Wx} {Z : Zt} {Q : Option Value → Wx → Zt → Prop} {a0 : Nat} (o_a0 : Is2 x a0)
    (h : ∀ Z1 : Zt, Z1 = up Z a0 3 0 → (V mX2_findPoints k n 7 [some (r_ a0), some (i_ 0), none, none] [] x Z1 Q)) :
    V mX2_findPoints k n 0 [some (r_ a0), none, none, none] [] x Z Q :=
  V_aload_n dX2_findPoints_0 rfl (V_iconst dX2_findPoints_1 (P_2_3 o_a0.1 lf_2_89 dX2_findPoints_2 (V_nmZ (fun Z1 eZ1 => V_iconst dX2_findPoints_5 (V_istore_n (lv' := [some (r_ a0), some (i_ 0), none, none]) dX2_findPoints_6 (Nat.le_of_ble_eq_true rfl) rfl (V_msk [true, true, false, false] rfl (h Z1 eZ1)))))))
set_option maxRecDepth 20000 in
theorem b_X2_findPoints_7 {k n : Nat} {x : Wx} {Z : Zt} {Q : Option Value → Wx → Zt → Prop} {a0 : Nat} {v1 : Int} (o_a0 : Is2 x a0)
    (h : Rg v1 ∧ Rg (Z (a0 + 1) 0) ∧ (((Z (a0 + 1) 0 ≤ v1) → (0 ≤ Z a0 3 ∧ Z a0 3 < 27 ∧ (∀ Z1 : Zt, Z1 = up Z (a0 + 6) (Z a0 3).toNat (-2) → (0 ≤ Z1 a0 3 ∧ Z1 a0 3 < 27 ∧ (∀ Z2 : Zt, Z2 = up Z1 (a0 + 7) (Z1 a0 3).toNat (-2) → (∀ Z3 : Zt, Z3 = up Z2 a0 3 ((Z2 a0 3) + 1) → (Q none x Z3))))))) ∧ ((v1 < Z (a0 + 1) 0) → (V mX2_findPoints k n 28 [some (r_ a0), some (i_ v1), some (i_ 0), some (i_ (Z (a0 + 4) 0))] [] x Z Q)))) :
    V mX2_findPoints k n 7 [some (r_ a0), some (i_ v1), none, none] [] x Z Q :=
  V_iload_n dX2_findPoints_7 rfl (V_aload_n dX2_findPoints_8 rfl (G_2_0 o_a0.1 o_a0.2.1 lf_2_12 dX2_findPoints_9 (G_4_0 o_a0.2.2.1.1 lf_2_102 dX2_findPoints_12 (V_icmp_ge (tgt := 136) dX2_findPoints_15 rfl h.1 h.2.1 (fun c1 => V_aload_n dX2_findPoints_136 rfl (G_2_4 o_a0.1 o_a0.2.2.2.2.2.1 lf_2_25 dX2_findPoints_137 (V_aload_n dX2_findPoints_140 rfl (G_2_3 o_a0.1 lf_2_89 dX2_findPoints_141 (V_bipush dX2_findPoints_144 rfl (V_iast (t := 100) o_a0.2.2.2.2.2.2.1 (by decide) (by decide) rfl (h.2.2.1 c1).1 (h.2.2.1 c1).2.1 (Nat.le_of_ble_eq_true rfl) dX2_findPoints_146 (V_nmZ (fun Z1 eZ1 => V_aload_n dX2_findPoints_147 rfl (G_2_5 o_a0.1 o_a0.2.2.2.2.2.2.2.1 lf_2_29 dX2_findPoints_148 (V_aload_n dX2_findPoints_151 rfl (G_2_3 o_a0.1 lf_2_89 dX2_findPoints_152 (V_bipush dX2_findPoints_155 rfl (V_iast (t := 100) o_a0.2.2.2.2.2.2.2.2.1 (by decide) (by decide) rfl ((h.2.2.1 c1).2.2 Z1 eZ1).1 ((h.2.2.1 c1).2.2 Z1 eZ1).2.1 (Nat.le_of_ble_eq_true rfl) dX2_findPoints_157 (V_nmZ (fun Z2 eZ2 => V_aload_n dX2_findPoints_158 rfl (V_dup dX2_findPoints_159 rfl (G_2_3 o_a0.1 lf_2_89 dX2_findPoints_160 (V_iconst dX2_findPoints_163 (V_iadd dX2_findPoints_164 (P_2_3 o_a0.1 lf_2_89 dX2_findPoints_165 (V_nmZ (fun Z3 eZ3 => V_ret dX2_findPoints_168 rfl ((((h.2.2.1 c1).2.2 Z1 eZ1).2.2 Z2 eZ2) Z3 eZ3))))))))))))))))))))))) (fun c1 => V_iconst dX2_findPoints_18 (V_istore_n (lv' := [some (r_ a0), some (i_ v1), some (i_ 0), none]) dX2_findPoints_19 (Nat.le_of_ble_eq_true rfl) rfl (V_aload_n dX2_findPoints_20 rfl (G_2_1 o_a0.1 o_a0.2.2.2.1 lf_2_21 dX2_findPoints_21 (G_7_0 o_a0.2.2.2.2.1.1 lf_2_65 dX2_findPoints_24 (V_istore_n (lv' := [some (r_ a0), some (i_ v1), some (i_ 0), some (i_ (Z (a0 + 4) 0))]) dX2_findPoints_27 (Nat.le_of_ble_eq_true rfl) rfl (V_msk [true, true, true, true] rfl (h.2.2.2 c1))))))))))))
set_option maxRecDepth 20000 in
theorem b_X2_findPoints_28 {k n : Nat} {x : Wx} {Z : Zt} {Q : Option Value → Wx → Zt → Prop} {a0 : Nat} {v1 : Int} {v2 : Int} {v3 : Int} (o_a0 : Is2 x a0)
    (h : Rg v3 ∧ (((v3 < 0) → (V mX2_findPoints k n 60 [some (r_ a0), some (i_ v1), some (i_ v2), some (i_ 0)] [] x Z Q)) ∧ ((0 ≤ v3) → (v3 < 10 ∧ (Rg ((v2 * v1) + (Z ((a0 + 4) + 1) (Int.toNat v3))) ∧ 2 ≤ Z (a0 + 1) 0 ∧ Z (a0 + 1) 0 ≤ 13 ∧ (∀ i1 : Int, i1 = ((v2 * v1) + (Z ((a0 + 4) + 1) (Int.toNat v3))) % Z (a0 + 1) 0 → (V mX2_findPoints k n 28 [some (r_ a0), some (i_ v1), some (i_ i1), some (i_ (v3 + (-1)))] [] x Z Q))))))) :
    V mX2_findPoints k n 28 [some (r_ a0), some (i_ v1), some (i_ v2), some (i_ v3)] [] x Z Q :=
  V_iload_n dX2_findPoints_28 rfl (V_if_lt (tgt := 58) dX2_findPoints_29 rfl h.1 (fun c1 => V_iconst dX2_findPoints_58 (V_istore_n (lv' := [some (r_ a0), some (i_ v1), some (i_ v2), some (i_ 0)]) dX2_findPoints_59 (Nat.le_of_ble_eq_true rfl) rfl (V_msk [true, true, true, true] rfl (h.2.1 c1)))) (fun c1 => V_aload_n dX2_findPoints_32 rfl (G_2_0 o_a0.1 o_a0.2.1 lf_2_12 dX2_findPoints_33 (V_iload_n dX2_findPoints_36 rfl (V_iload_n dX2_findPoints_37 rfl (V_imul dX2_findPoints_38 (V_aload_n dX2_findPoints_39 rfl (G_2_1 o_a0.1 o_a0.2.2.2.1 lf_2_21 dX2_findPoints_40 (V_iload_n dX2_findPoints_43 rfl (V_callV (k' := 0) (n' := 0) (t := 7) (q := (RX7, TX7, 2)) [i_ v3] [i_ (v2 * v1), r_ (a0 + 1)] okX7_at o_a0.2.2.2.2.1.1 rfl rfl lm_2_105 liX7_at lqX7_at (Nat.le_of_ble_eq_true rfl) (Nat.le_of_ble_eq_true rfl) (Nat.le_of_ble_eq_true rfl) (cat_of rfl) (Nat.le_of_ble_eq_true rfl) (Nat.zero_le _) (Nat.zero_le _) rfl dX2_findPoints_44 (sp_X7_at o_a0.2.2.2.2.1 c1 (h.2.2 c1).1 (V_iadd dX2_findPoints_47 (V_callV (k' := 0) (n' := 0) (t := 4) (q := (RX4, TX4, 4)) [i_ ((v2 * v1) + (Z ((a0 + 4) + 1) (Int.toNat v3)))] [] okX4_rem o_a0.2.2.1.1 rfl rfl lm_2_109 liX4_rem lqX4_rem (Nat.le_of_ble_eq_true rfl) (Nat.le_of_ble_eq_true rfl) (Nat.le_of_ble_eq_true rfl) (cat_of rfl) (Nat.le_of_ble_eq_true rfl) (Nat.zero_le _) (Nat.zero_le _) rfl dX2_findPoints_48 (sp_X4_rem o_a0.2.2.1 (h.2.2 c1).2.1 (h.2.2 c1).2.2.1 (h.2.2 c1).2.2.2.1 (V_nmi (fun i1 ei1 => V_istore_n (lv' := [some (r_ a0), some (i_ v1), some (i_ i1), some (i_ v3)]) dX2_findPoints_51 (Nat.le_of_ble_eq_true rfl) rfl (V_iinc (lv' := [some (r_ a0), some (i_ v1), some (i_ i1), some (i_ (v3 + (-1)))]) dX2_findPoints_52 rfl (Nat.le_of_ble_eq_true rfl) rfl (V_goto (tgt := 28) dX2_findPoints_55 rfl (V_msk [true, true, true, true] rfl ((h.2.2 c1).2.2.2.2 i1 ei1))))))))))))))))))))
set_option maxRecDepth 20000 in
theorem b_X2_findPoints_60 {k n : Nat} {x : Wx} {Z : Zt} {Q : Option Value → Wx → Zt → Prop} {a0 : Nat} {v1 : Int} {v2 : Int} {v3 : Int} (o_a0 : Is2 x a0)
    (h : Rg v3 ∧ Rg (Z (a0 + 1) 0) ∧ (((Z (a0 + 1) 0 ≤ v3) → (V mX2_findPoints k n 130 [some (r_ a0), some (i_ v1), none, none] [] x Z Q)) ∧ ((v3 < Z (a0 + 1) 0) → (Rg (Z a0 3) ∧ (((26 ≤ Z a0 3) → (V mX2_findPoints k n 130 [some (r_ a0), some (i_ v1), none, none] [] x Z Q)) ∧ ((Z a0 3 < 26) → (Rg (v3 * v3) ∧ 2 ≤ Z (a0 + 1) 0 ∧ Z (a0 + 1) 0 ≤ 13 ∧ (Rg ((v3 * v3) % Z (a0 + 1) 0) ∧ Rg v2 ∧ ((((v3 * v3) % Z (a0 + 1) 0 ≠ v2) → (V mX2_findPoints k n 124 [some (r_ a0), some (i_ v1), some (i_ v2), some (i_ v3)] [] x Z Q)) ∧ (((v3 * v3) % Z (a0 + 1) 0 = v2) → (0 ≤ Z a0 3 ∧ Z a0 3 < 27 ∧ (∀ Z1 : Zt, Z1 = up Z (a0 + 6) (Z a0 3).toNat v1 → (0 ≤ Z1 a0 3 ∧ Z1 a0 3 < 27 ∧ (∀ Z2 : Zt, Z2 = up Z1 (a0 + 7) (Z1 a0 3).toNat v3 → (∀ Z3 : Zt, Z3 = up Z2 a0 3 ((Z2 a0 3) + 1) → (V mX2_findPoints k n 124 [some (r_ a0), some (i_ v1), some (i_ v2), some (i_ v3)] [] x Z3 Q)))))))))))))))) :
    V mX2_findPoints k n 60 [some (r_ a0), some (i_ v1), some (i_ v2), some (i_ v3)] [] x Z Q :=
  V_iload_n dX2_findPoints_60 rfl (V_aload_n dX2_findPoints_61 rfl (G_2_0 o_a0.1 o_a0.2.1 lf_2_12 dX2_findPoints_62 (G_4_0 o_a0.2.2.1.1 lf_2_102 dX2_findPoints_65 (V_icmp_ge (tgt := 130) dX2_findPoints_68 rfl h.1 h.2.1 (fun c1 => V_msk [true, true, false, false] rfl (h.2.2.1 c1)) (fun c1 => V_aload_n dX2_findPoints_71 rfl (G_2_3 o_a0.1 lf_2_89 dX2_findPoints_72 (V_bipush dX2_findPoints_75 rfl (V_icmp_ge (tgt := 130) dX2_findPoints_77 rfl (h.2.2.2 c1).1 (rg_c rfl) (fun c2 => V_msk [true, true, false, false] rfl ((h.2.2.2 c1).2.1 c2)) (fun c2 => V_aload_n dX2_findPoints_80 rfl (G_2_0 o_a0.1 o_a0.2.1 lf_2_12 dX2_findPoints_81 (V_iload_n dX2_findPoints_84 rfl (V_iload_n dX2_findPoints_85 rfl (V_imul dX2_findPoints_86 (V_callV (k' := 0) (n' := 0) (t := 4) (q := (RX4, TX4, 4)) [i_ (v3 * v3)] [] okX4_rem o_a0.2.2.1.1 rfl rfl lm_2_109 liX4_rem lqX4_rem (Nat.le_of_ble_eq_true rfl) (Nat.le_of_ble_eq_true rfl) (Nat.le_of_ble_eq_true rfl) (cat_of rfl) (Nat.le_of_ble_eq_true rfl) (Nat.zero_le _) (Nat.zero_le _) rfl dX2_findPoints_87 (sp_X4_rem o_a0.2.2.1 ((h.2.2.2 c1).2.2 c2).1 ((h.2.2.2 c1).2.2 c2).2.1 ((h.2.2.2 c1).2.2 c2).2.2.1 (V_iload_n dX2_findPoints_90 rfl (V_icmp_ne (tgt := 124) dX2_findPoints_91 rfl ((h.2.2.2 c1).2.2 c2).2.2.2.1 ((h.2.2.2 c1).2.2 c2).2.2.2.2.1 (fun c3 => V_msk [true, true, true, true] rfl (((h.2.2.2 c1).2.2 c2).2.2.2.2.2.1 c3)) (fun c3 => V_aload_n dX2_findPoints_94 rfl (G_2_4 o_a0.1 o_a0.2.2.2.2.2.1 lf_2_25 dX2_findPoints_95 (V_aload_n dX2_findPoints_98 rfl (G_2_3 o_a0.1 lf_2_89 dX2_findPoints_99 (V_iload_n dX2_findPoints_102 rfl (V_iast (t := 100) o_a0.2.2.2.2.2.2.1 (by decide) (by decide) rfl (((h.2.2.2 c1).2.2 c2).2.2.2.2.2.2 c3).1 (((h.2.2.2 c1).2.2 c2).2.2.2.2.2.2 c3).2.1 (Nat.le_of_ble_eq_true rfl) dX2_findPoints_103 (V_nmZ (fun Z1 eZ1 => V_aload_n dX2_findPoints_104 rfl (G_2_5 o_a0.1 o_a0.2.2.2.2.2.2.2.1 lf_2_29 dX2_findPoints_105 (V_aload_n dX2_findPoints_108 rfl (G_2_3 o_a0.1 lf_2_89 dX2_findPoints_109 (V_iload_n dX2_findPoints_112 rfl (V_iast (t := 100) o_a0.2.2.2.2.2.2.2.2.1 (by decide) (by decide) rfl ((((h.2.2.2 c1).2.2 c2).2.2.2.2.2.2 c3).2.2 Z1 eZ1).1 ((((h.2.2.2 c1).2.2 c2).2.2.2.2.2.2 c3).2.2 Z1 eZ1).2.1 (Nat.le_of_ble_eq_true rfl) dX2_findPoints_113 (V_nmZ (fun Z2 eZ2 => V_aload_n dX2_findPoints_114 rfl (V_dup dX2_findPoints_115 rfl (G_2_3 o_a0.1 lf_2_89 dX2_findPoints_116 (V_iconst dX2_findPoints_119 (V_iadd dX2_findPoints_120 (P_2_3 o_a0.1 lf_2_89 dX2_findPoints_121 (V_nmZ (fun Z3 eZ3 => V_msk [true, true, true, true] rfl ((((((h.2.2.2 c1).2.2 c2).2.2.2.2.2.2 c3).2.2 Z1 eZ1).2.2 Z2 eZ2) Z3 eZ3))))))))))))))))))))))))))))))))))))))))
set_option maxRecDepth 20000 in
theorem b_X2_findPoints_124 {k n : Nat} {x : Wx} {Z : Zt} {Q : Option Value → Wx → Zt → Prop} {a0 : Nat} {v1 : Int} {v2 : Int} {v3 : Int} 
    (h : V mX2_findPoints k n 60 [some (r_ a0), some (i_ v1), some (i_ v2), some (i_ (v3 + 1))] [] x Z Q) :
    V mX2_findPoints k n 124 [some (r_ a0), some (i_ v1), some (i_ v2), some (i_ v3)] [] x Z Q :=
  V_iinc (lv' := [some (r_ a0), some (i_ v1), some (i_ v2), some (i_ (v3 + 1))]) dX2_findPoints_124 rfl (Nat.le_of_ble_eq_true rfl) rfl (V_goto (tgt := 60) dX2_findPoints_127 rfl (V_msk [true, true, true, true] rfl h))
set_option maxRecDepth 20000 in
theorem b_X2_findPoints_130 {k n : Nat} {x : Wx} {Z : Zt} {Q : Option Value → Wx → Zt → Prop} {a0 : Nat} {v1 : Int} 
    (h : V mX2_findPoints k n 7 [some (r_ a0), some (i_ (v1 + 1)), none, none] [] x Z Q) :
    V mX2_findPoints k n 130 [some (r_ a0), some (i_ v1), none, none] [] x Z Q :=
  V_iinc (lv' := [some (r_ a0), some (i_ (v1 + 1)), none, none]) dX2_findPoints_130 rfl (Nat.le_of_ble_eq_true rfl) rfl (V_goto (tgt := 7) dX2_findPoints_133 rfl (V_msk [true, true, false, false] rfl h))
theorem sp_X2_findPoints {k n : Nat} {x : Wx} {Z : Zt} {Q : Option Value → Wx → Zt → Prop} {a : Nat} (o : Is2 x a) {p : Int} {F : Nat → Int} (hp : IsP p) (hfl : Z (a + 1) 0 = p) (hF : PA Z (a + 4) p F) (h : ∀ Z' : Zt, FS Z Z' a (pall p F) → Q none x Z') : V mX2_findPoints k n 0 [some (r_ a), none, none, none] [] x Z Q := by
  have hpr := hp.rg
  have pv : ∀ {Z1 L}, FS Z Z1 a L → Z1 (a + 1) 0 = p := fun hz => by rw [hz.2.1 (a + 1) (by omega) (by omega) (by omega)]; exact hfl
  have lpY : ∀ (m : Nat) (v1 v2 y : Int) (L : List (Int × Int)) (Z1 : Zt), 0 ≤ y → y + m = p → (0 ≤ v1 ∧ v1 < p) → (0 ≤ v2 ∧ v2 < p) → FS Z Z1 a L → L.length + (rowY p v2 v1 m y).length ≤ 26 → (∀ Z2 : Zt, FS Z Z2 a (L ++ rowY p v2 v1 m y) → V mX2_findPoints k n 130 [some (r_ a), some (i_ v1), none, none] [] x Z2 Q) → V mX2_findPoints k n 60 [some (r_ a), some (i_ v1), some (i_ v2), some (i_ y)] [] x Z1 Q := by
    intro m
    induction m with
    | zero =>
      intro v1 v2 y L Z1 h0 hm hv1 hv2 hz hl hn
      refine b_X2_findPoints_60 o ?_
      rw [pv hz]
      refine ⟨⟨by omega, by omega⟩, ⟨by omega, by omega⟩, fun _ => hn Z1 ?_, fun c => by omega⟩
      unfold rowY
      rw [List.append_nil]; exact hz
    | succ m ih =>
      intro v1 v2 y L Z1 h0 hm hv1 hv2 hz hl hn
      have h3 := hz.1.1
      have hyy : 0 ≤ y * y ∧ y * y ≤ 169 := ⟨Int.mul_nonneg h0 h0, by have := Int.mul_le_mul (show y ≤ 13 by omega) (show y ≤ 13 by omega) h0 (by decide); omega⟩
      have hmd : 0 ≤ y * y % p ∧ y * y % p < p := ⟨Int.emod_nonneg _ (by omega), Int.emod_lt_of_pos _ (by omega)⟩
      refine b_X2_findPoints_60 o ?_
      rw [pv hz]
      refine ⟨⟨by omega, by omega⟩, ⟨by omega, by omega⟩, fun c => by omega, fun _ => ⟨⟨by omega, by omega⟩, fun c => hn Z1 ?_, fun c => ⟨⟨by omega, by omega⟩, by omega, by omega, ⟨by omega, by omega⟩, ⟨by omega, by omega⟩, fun c2 => b_X2_findPoints_124 ?_, fun c2 => ⟨by omega, by omega, fun Z2 e2 => ⟨?_, ?_, fun Z3 e3 Z4 e4 => b_X2_findPoints_124 ?_⟩⟩⟩⟩⟩
      · have : rowY p v2 v1 (m + 1) y = [] := List.eq_nil_of_length_eq_zero (by omega)
        rw [this, List.append_nil]; exact hz
      · unfold rowY at hl hn
        rw [if_neg c2] at hl hn
        exact ih v1 v2 (y + 1) L Z1 (by omega) (by omega) hv1 hv2 hz hl hn
      · rw [e2, up_row _ _ _ _ _ (by omega)]; omega
      · rw [e2, up_row _ _ _ _ _ (by omega)]; omega
      · unfold rowY at hl hn
        rw [if_pos c2] at hl hn
        refine ih v1 v2 (y + 1) (L ++ [(v1, y)]) Z4 (by omega) (by omega) hv1 hv2 (hz.push e2 e3 e4) ?_ ?_
        · rw [List.length_append]
          rw [List.length_cons] at hl
          show L.length + 1 + _ ≤ 26
          omega
        · rw [List.append_assoc]; exact hn
  have lpH : ∀ (m : Nat) (v1 v2 v3 : Int) (L : List (Int × Int)) (Z1 : Zt), v3 + 1 = m → m ≤ 10 → (0 ≤ v1 ∧ v1 < p) → (0 ≤ v2 ∧ v2 < p) → FS Z Z1 a L → V mX2_findPoints k n 60 [some (r_ a), some (i_ v1), some (i_ (hor p F v1 m v2)), some (i_ 0)] [] x Z1 Q → V mX2_findPoints k n 28 [some (r_ a), some (i_ v1), some (i_ v2), some (i_ v3)] [] x Z1 Q := by
    intro m
    induction m with
    | zero =>
      intro v1 v2 v3 L Z1 hm hm2 hv1 hv2 hz hn
      exact b_X2_findPoints_28 o ⟨⟨by omega, by omega⟩, fun _ => hn, fun c => by omega⟩
    | succ m ih =>
      intro v1 v2 v3 L Z1 hm hm2 hv1 hv2 hz hn
      have hFi : Z1 (a + 4 + 1) (Int.toNat v3) = F m := by
        rw [hz.2.1 (a + 4 + 1) (by omega) (by omega) (by omega), show v3.toNat = m by omega]
        exact hF.1 m (by omega)
      have hFr := hF.2.2.1 m
      have hprod : 0 ≤ v2 * v1 ∧ v2 * v1 ≤ 169 := ⟨Int.mul_nonneg hv2.1 hv1.1, by have := Int.mul_le_mul (show v2 ≤ 13 by omega) (show v1 ≤ 13 by omega) hv1.1 (by decide); omega⟩
      refine b_X2_findPoints_28 o ?_
      rw [pv hz, hFi]
      refine ⟨⟨by omega, by omega⟩, fun c => by omega, fun _ => ⟨by omega, ⟨by omega, by omega⟩, by omega, by omega, fun i1 e1 => ?_⟩⟩
      refine ih v1 i1 (v3 + (-1)) L Z1 (by omega) (by omega) hv1 ?_ hz ?_
      · rw [e1]; exact ⟨Int.emod_nonneg _ (by omega), Int.emod_lt_of_pos _ (by omega)⟩
      · rw [e1]; exact hn
  have lpX : ∀ (m : Nat) (v1 : Int) (L : List (Int × Int)) (Z1 : Zt), 0 ≤ v1 → v1 + m = p → FS Z Z1 a L → L.length ≤ 2 * v1.toNat → L ++ colX p F m v1 = pts p F → V mX2_findPoints k n 7 [some (r_ a), some (i_ v1), none, none] [] x Z1 Q := by
    intro m
    induction m with
    | zero =>
      intro v1 L Z1 h0 hm hz hl he
      have h3 := hz.1.1
      refine b_X2_findPoints_7 o ?_
      rw [pv hz]
      refine ⟨⟨by omega, by omega⟩, ⟨by omega, by omega⟩, fun _ => ⟨by omega, by omega, fun Z2 e2 => ⟨?_, ?_, fun Z3 e3 Z4 e4 => h Z4 ?_⟩⟩, fun c => by omega⟩
      · rw [e2, up_row _ _ _ _ _ (by omega)]; omega
      · rw [e2, up_row _ _ _ _ _ (by omega)]; omega
      · have := hz.push e2 e3 e4
        unfold colX at he
        rw [List.append_nil] at he
        rw [he] at this
        exact this
    | succ m ih =>
      intro v1 L Z1 h0 hm hz hl he
      have hev := ev_rg (p := p) (by omega) F v1
      have hc := cntY_2 hp hev
      refine b_X2_findPoints_7 o ?_
      rw [pv hz]
      refine ⟨⟨by omega, by omega⟩, ⟨by omega, by omega⟩, fun c => by omega, fun _ => ?_⟩
      have hdeg : Z1 (a + 4) 0 = dg F 10 := by rw [hz.2.1 (a + 4) (by omega) (by omega) (by omega)]; exact hF.2.2.2
      have hd1 := dg_lt F 10
      have hd2 := dg_ge F 10
      rw [hdeg]
      refine lpH (dg F 10 + 1).toNat v1 0 (dg F 10) L Z1 (by omega) (by omega) ⟨h0, by omega⟩ ⟨by omega, by omega⟩ hz ?_
      rw [ev_dg hF.2.1]
      refine lpY p.toNat v1 (ev p F v1) 0 L Z1 (by omega) (by omega) ⟨h0, by omega⟩ hev hz ?_ ?_
      · rw [rowY_len]; omega
      · intro Z2 hz2
        refine b_X2_findPoints_130 (ih (v1 + 1) _ Z2 (by omega) (by omega) hz2 ?_ ?_)
        · rw [List.length_append, rowY_len]; omega
        · rw [List.append_assoc]; exact he
  refine b_X2_findPoints_0 o fun Z1 e1 => lpX p.toNat 0 [] Z1 (by omega) (by omega) ⟨⟨?_, fun k hk => absurd hk (Nat.not_lt_zero k)⟩, fun b h1 _ _ => ?_, fun i hi => ?_⟩ (Nat.zero_le _) rfl
  · rw [e1, up_at, if_pos rfl]; rfl
  · rw [e1, up_row _ _ _ _ _ h1]
  · rw [e1, up_at, if_neg hi]
