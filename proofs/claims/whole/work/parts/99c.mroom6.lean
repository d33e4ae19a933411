/-! ===== the reference: rooms ===== -/
def mDt (p : Int) (F O D : Nat → Int) (q : Nat) : Int := if D q = 0 then 0 else mDp p F O q
/-- UNDER, as the reference has it -/
def mUn (p : Int) (F O D : Nat → Int) : Un := und p (mDt p F O D)
def mMo (p : Int) (F : Nat → Int) (fr : Int) (O D : Nat → Int) : Int := fr + 2 * ((mUn p F O D).1 : Int)
def mRx (p : Int) (F O D : Nat → Int) (g : Nat) (mo : Int) : Nat → Nat → Lq → Lq
  | 0, _, W => W
  | m + 1, q, W => mRx p F O D g mo m (q + 1) (if D q = 0 then W else mCd p F O g mo q W)
def mRw (p : Int) (F O D : Nat → Int) (mo : Int) : Lq := mRx p F O D (gen F).toNat mo p.toNat 0 (fun _ _ => 0, 0)
def mSl (p : Int) (F : Nat → Int) (fr : Int) (O D : Nat → Int) : Sv := slvN p (gen F).toNat (mMo p F fr O D).toNat (mRw p F O D (mMo p F fr O D)).2 (mRw p F O D (mMo p F fr O D)).1 ((mMo p F fr O D).toNat + 1)
/-- ROOM, as the reference has it -/
def mRm (p : Int) (F : Nat → Int) (fr : Int) (O D : Nat → Int) : Nat := if mMo p F fr O D < 0 then 0 else (mSl p F fr O D).2.2.2.2
def RmK (p : Int) (F : Nat → Int) (fr : Int) (O D : Nat → Int) : Prop := ORg O ∧ (∀ q : Nat, q < 13 → D q = 0 ∨ D q = 1) ∧ (mUn p F O D).1 ≤ 42 ∧ (-100 ≤ fr ∧ fr ≤ 11) ∧ (0 ≤ mMo p F fr O D → (mRw p F O D (mMo p F fr O D)).2 ≤ 100)
theorem mRx_le {p : Int} {F O D : Nat → Int} {g : Nat} {mo : Int} : ∀ (m q : Nat) (W : Lq), W.2 ≤ (mRx p F O D g mo m q W).2
  | 0, _, _ => Nat.le_refl _
  | m + 1, q, W => by
    unfold mRx
    have := mRx_le (p := p) (F := F) (O := O) (D := D) (g := g) (mo := mo) m (q + 1) (if D q = 0 then W else mCd p F O g mo q W)
    split at this
    · rw [if_pos (by assumption)]; exact this
    · rw [if_neg (by assumption)]
      have h2 := mCd_le (p := p) (F := F) (O := O) (g := g) (mo := mo) (X := (q : Int)) W
      omega
/-- rows as they ought to be -/
def LqK (p : Int) (g : Nat) (mo : Int) (W : Lq) : Prop := ∀ q j : Nat, (0 ≤ W.1 q j ∧ W.1 q j < p) ∧ (mo < (j : Int) → W.1 q j = 0) ∧ (j % 2 = 1 ∧ j < 2 * g + 1 → W.1 q j = 0)
theorem wtM_k {p : Int} (hp : 1 < p) {g : Nat} {mo X : Int} {S : Nat → Int} {t : Int} {w : Nat} {W : Lq} (hmo : 0 ≤ mo) (h : LqK p g mo W) : LqK p g mo (wtM p g mo X S t w W) := fun q j => by
  have e : (wtM p g mo X S t w W).1 q j = if W.2 ≤ q ∧ q < W.2 + w then askW (wtP p X t) (wtY p X S t) g mo (pwN mo) (q - W.2) j else W.1 q j := rfl
  rw [e]
  by_cases c : W.2 ≤ q ∧ q < W.2 + w
  · rw [if_pos c]
    refine ⟨askW_rg (by omega) (fun i k => ?_) (fun i k => ?_) g mo _ _ _, fun hj => ?_, fun hj => ?_⟩
    · unfold wtP
      split
      · omega
      · exact npI_in hp i k
    · unfold wtY
      split
      · omega
      · split
        · exact emr _ (by omega)
        · exact npI_in hp i k
    · unfold askW pwN
      split
      · rw [if_neg (by omega)]
      · rw [if_neg (by omega)]
    · unfold askW
      rw [if_neg (by omega), if_neg (by omega)]
  · rw [if_neg c]; exact h q j
theorem mCy_k {p : Int} (hp : 1 < p) {F O : Nat → Int} {g : Nat} {mo X e : Int} (hmo : 0 ≤ mo) : ∀ (m : Nat) (y : Int) (W : Lq), LqK p g mo W → LqK p g mo (mCy p F O g mo X e m y W)
  | 0, _, _, h => h
  | m + 1, y, W, h => by
    unfold mCy
    refine mCy_k hp hmo m (y + 1) _ ?_
    split
    · exact wtM_k hp hmo h
    · exact h
theorem mCd_k {p : Int} (hp : 1 < p) {F O : Nat → Int} {g : Nat} {mo X : Int} (hmo : 0 ≤ mo) {W : Lq} (h : LqK p g mo W) : LqK p g mo (mCd p F O g mo X W) := by
  unfold mCd
  split
  · exact wtM_k hp hmo (wtM_k hp hmo h)
  · exact mCy_k hp hmo _ _ _ h
theorem mRx_k {p : Int} (hp : 1 < p) {F O D : Nat → Int} {g : Nat} {mo : Int} (hmo : 0 ≤ mo) : ∀ (m q : Nat) (W : Lq), LqK p g mo W → LqK p g mo (mRx p F O D g mo m q W)
  | 0, _, _, h => h
  | m + 1, q, W, h => by
    unfold mRx
    refine mRx_k hp hmo m (q + 1) _ ?_
    split
    · exact h
    · exact mCd_k hp hmo h
/-- the ROOM that was reckoned -/
def RMs (Z : Zt) (b : Nat) (p : Int) (F : Nat → Int) (fr : Int) (O D : Nat → Int) : Prop := MU Z b (mUn p F O D) ∧ Z b 24 = mMo p F fr O D ∧ Z b 28 = (mRm p F fr O D : Int) ∧ (0 ≤ mMo p F fr O D → SV Z b (mMo p F fr O D).toNat (mRw p F O D (mMo p F fr O D)).2 ((mMo p F fr O D).toNat + 1) (mSl p F fr O D))
def RmF (b : Nat) (Z Z' : Zt) : Prop := (∀ c, c ≠ b → (c < b + 12 ∨ b + 19 < c) → Z' c = Z c) ∧ ∀ i : Nat, i ≠ 23 → i ≠ 24 → i ≠ 26 → i ≠ 28 → Z' b i = Z b i
theorem RmF.rf {b : Nat} {Z : Zt} : RmF b Z Z := ⟨fun _ _ _ => rfl, fun _ _ _ _ _ => rfl⟩
theorem RmF.tr {b : Nat} {Z Z1 Z2 : Zt} (h : RmF b Z Z1) (g : RmF b Z1 Z2) : RmF b Z Z2 := ⟨fun c h1 h2 => (g.1 c h1 h2).trans (h.1 c h1 h2), fun i h1 h2 h3 h4 => (g.2 i h1 h2 h3 h4).trans (h.2 i h1 h2 h3 h4)⟩
theorem UF.rm {b : Nat} {Z Z1 : Zt} (h : UF b Z Z1) : RmF b Z Z1 := ⟨fun c h1 h2 => h.1 c h1 (by omega), fun i h1 _ _ _ => h.2 i h1⟩
theorem CFr.rm {b : Nat} {Z Z1 : Zt} (h : CFr b Z Z1) : RmF b Z Z1 := ⟨fun c h1 h2 => h.1 c h1 (by omega) (by omega) (by omega) (by omega) (by omega), fun i _ _ h3 _ => h.2 i h3⟩
theorem EFr.rm {b : Nat} {Z Z1 : Zt} (h : EFr b Z Z1) : RmF b Z Z1 := ⟨fun c h1 h2 => h.1 c h1 (by omega) (by omega) (by omega), fun i _ _ _ h4 => h.2 i h4⟩
theorem RmF.mq {b : Nat} {Z Z1 : Zt} (h : RmF b Z Z1) : Mq b Z Z1 := ⟨h.1 _ (by omega) (by omega), h.1 _ (by omega) (by omega), fun c hc => h.1 c (by omega) (by omega)⟩
theorem MF.rm {b : Nat} {Z Z1 : Zt} {p : Int} {F : Nat → Int} (h : MF Z b p F) (g : RmF b Z Z1) : MF Z1 b p F := by
  obtain ⟨h1, h2, P, h3, h4⟩ := h
  exact ⟨h1.kept ⟨g.2 _ (by decide) (by decide) (by decide) (by decide), g.2 _ (by decide) (by decide) (by decide) (by decide), g.2 _ (by decide) (by decide) (by decide) (by decide)⟩ (g.1 _ (by omega) (by omega)) (g.1 _ (by omega) (by omega)), h2, P, h3.kept (g.1 _ (by omega) (by omega)), h4⟩
theorem MSq.rm {b : Nat} {Z Z1 : Zt} {fr : Int} {O D : Nat → Int} (h : MSq Z b fr O D) (g : RmF b Z Z1) : MSq Z1 b fr O D := by
  obtain ⟨h1, h2, h3⟩ := h
  refine ⟨by rw [g.2 21 (by decide) (by decide) (by decide) (by decide)]; exact h1, fun j hj => ?_, fun q hq => ?_⟩
  · rw [g.1 _ (by omega) (by omega)]; exact h2 j hj
  · rw [g.1 _ (by omega) (by omega)]; exact h3 q hq
theorem dX12_rooms_0 : decode cX12_rooms 0 = .ok (.iconst 0, 1) := by decide +kernel
theorem dX12_rooms_1 : decode cX12_rooms 1 = .ok (.istore_n 1, 1) := by decide +kernel
theorem dX12_rooms_2 : decode cX12_rooms 2 = .ok (.iload_n 1, 1) := by decide +kernel
theorem dX12_rooms_3 : decode cX12_rooms 3 = .ok (.bipush 96, 2) := by decide +kernel
theorem dX12_rooms_5 : decode cX12_rooms 5 = .ok (.if_icmp .ge 24, 3) := by decide +kernel
theorem dX12_rooms_8 : decode cX12_rooms 8 = .ok (.aload_n 0, 1) := by decide +kernel
theorem dX12_rooms_9 : decode cX12_rooms 9 = .ok (.getfield 45, 3) := by decide +kernel
theorem dX12_rooms_12 : decode cX12_rooms 12 = .ok (.iload_n 1, 1) := by decide +kernel
theorem dX12_rooms_13 : decode cX12_rooms 13 = .ok (.iload_n 1, 1) := by decide +kernel
theorem dX12_rooms_14 : decode cX12_rooms 14 = .ok (.ifCond .ne 7, 3) := by decide +kernel
theorem dX12_rooms_17 : decode cX12_rooms 17 = .ok (.iconst 1, 1) := by decide +kernel
theorem dX12_rooms_18 : decode cX12_rooms 18 = .ok (.goto 4, 3) := by decide +kernel
theorem dX12_rooms_21 : decode cX12_rooms 21 = .ok (.iconst 0, 1) := by decide +kernel
theorem dX12_rooms_22 : decode cX12_rooms 22 = .ok (.iastore, 1) := by decide +kernel
theorem dX12_rooms_23 : decode cX12_rooms 23 = .ok (.iinc 1 1, 3) := by decide +kernel
theorem dX12_rooms_26 : decode cX12_rooms 26 = .ok (.goto (-24), 3) := by decide +kernel
theorem dX12_rooms_29 : decode cX12_rooms 29 = .ok (.aload_n 0, 1) := by decide +kernel
theorem dX12_rooms_30 : decode cX12_rooms 30 = .ok (.iconst 0, 1) := by decide +kernel
theorem dX12_rooms_31 : decode cX12_rooms 31 = .ok (.putfield 303, 3) := by decide +kernel
theorem dX12_rooms_34 : decode cX12_rooms 34 = .ok (.iconst 0, 1) := by decide +kernel
theorem dX12_rooms_35 : decode cX12_rooms 35 = .ok (.istore_n 1, 1) := by decide +kernel
theorem dX12_rooms_36 : decode cX12_rooms 36 = .ok (.iload_n 1, 1) := by decide +kernel
theorem dX12_rooms_37 : decode cX12_rooms 37 = .ok (.aload_n 0, 1) := by decide +kernel
theorem dX12_rooms_38 : decode cX12_rooms 38 = .ok (.getfield 179, 3) := by decide +kernel
theorem dX12_rooms_41 : decode cX12_rooms 41 = .ok (.if_icmp .ge 23, 3) := by decide +kernel
theorem dX12_rooms_44 : decode cX12_rooms 44 = .ok (.aload_n 0, 1) := by decide +kernel
theorem dX12_rooms_45 : decode cX12_rooms 45 = .ok (.getfield 42, 3) := by decide +kernel
theorem dX12_rooms_48 : decode cX12_rooms 48 = .ok (.iload_n 1, 1) := by decide +kernel
theorem dX12_rooms_49 : decode cX12_rooms 49 = .ok (.baload, 1) := by decide +kernel
theorem dX12_rooms_50 : decode cX12_rooms 50 = .ok (.ifCond .eq 8, 3) := by decide +kernel
theorem dX12_rooms_53 : decode cX12_rooms 53 = .ok (.aload_n 0, 1) := by decide +kernel
theorem dX12_rooms_54 : decode cX12_rooms 54 = .ok (.iload_n 1, 1) := by decide +kernel
theorem dX12_rooms_55 : decode cX12_rooms 55 = .ok (.invokevirtual 336, 3) := by decide +kernel
theorem dX12_rooms_58 : decode cX12_rooms 58 = .ok (.iinc 1 1, 3) := by decide +kernel
theorem dX12_rooms_61 : decode cX12_rooms 61 = .ok (.goto (-25), 3) := by decide +kernel
theorem dX12_rooms_64 : decode cX12_rooms 64 = .ok (.aload_n 0, 1) := by decide +kernel
theorem dX12_rooms_65 : decode cX12_rooms 65 = .ok (.aload_n 0, 1) := by decide +kernel
theorem dX12_rooms_66 : decode cX12_rooms 66 = .ok (.getfield 294, 3) := by decide +kernel
theorem dX12_rooms_69 : decode cX12_rooms 69 = .ok (.iconst 2, 1) := by decide +kernel
theorem dX12_rooms_70 : decode cX12_rooms 70 = .ok (.aload_n 0, 1) := by decide +kernel
theorem dX12_rooms_71 : decode cX12_rooms 71 = .ok (.getfield 303, 3) := by decide +kernel
theorem dX12_rooms_74 : decode cX12_rooms 74 = .ok (.imul, 1) := by decide +kernel
theorem dX12_rooms_75 : decode cX12_rooms 75 = .ok (.iadd, 1) := by decide +kernel
theorem dX12_rooms_76 : decode cX12_rooms 76 = .ok (.putfield 306, 3) := by decide +kernel
theorem dX12_rooms_79 : decode cX12_rooms 79 = .ok (.aload_n 0, 1) := by decide +kernel
theorem dX12_rooms_80 : decode cX12_rooms 80 = .ok (.iconst 0, 1) := by decide +kernel
theorem dX12_rooms_81 : decode cX12_rooms 81 = .ok (.putfield 309, 3) := by decide +kernel
theorem dX12_rooms_84 : decode cX12_rooms 84 = .ok (.aload_n 0, 1) := by decide +kernel
theorem dX12_rooms_85 : decode cX12_rooms 85 = .ok (.iconst 0, 1) := by decide +kernel
theorem dX12_rooms_86 : decode cX12_rooms 86 = .ok (.putfield 324, 3) := by decide +kernel
theorem dX12_rooms_89 : decode cX12_rooms 89 = .ok (.iconst 0, 1) := by decide +kernel
theorem dX12_rooms_90 : decode cX12_rooms 90 = .ok (.istore_n 1, 1) := by decide +kernel
theorem dX12_rooms_91 : decode cX12_rooms 91 = .ok (.iload_n 1, 1) := by decide +kernel
theorem dX12_rooms_92 : decode cX12_rooms 92 = .ok (.sipush 9600, 3) := by decide +kernel
theorem dX12_rooms_95 : decode cX12_rooms 95 = .ok (.if_icmp .ge 16, 3) := by decide +kernel
theorem dX12_rooms_98 : decode cX12_rooms 98 = .ok (.aload_n 0, 1) := by decide +kernel
theorem dX12_rooms_99 : decode cX12_rooms 99 = .ok (.getfield 48, 3) := by decide +kernel
theorem dX12_rooms_102 : decode cX12_rooms 102 = .ok (.iload_n 1, 1) := by decide +kernel
theorem dX12_rooms_103 : decode cX12_rooms 103 = .ok (.iconst 0, 1) := by decide +kernel
theorem dX12_rooms_104 : decode cX12_rooms 104 = .ok (.iastore, 1) := by decide +kernel
theorem dX12_rooms_105 : decode cX12_rooms 105 = .ok (.iinc 1 1, 3) := by decide +kernel
theorem dX12_rooms_108 : decode cX12_rooms 108 = .ok (.goto (-17), 3) := by decide +kernel
theorem dX12_rooms_111 : decode cX12_rooms 111 = .ok (.aload_n 0, 1) := by decide +kernel
theorem dX12_rooms_112 : decode cX12_rooms 112 = .ok (.getfield 306, 3) := by decide +kernel
theorem dX12_rooms_115 : decode cX12_rooms 115 = .ok (.ifCond .ge 5, 3) := by decide +kernel
theorem dX12_rooms_118 : decode cX12_rooms 118 = .ok (.iconst 0, 1) := by decide +kernel
theorem dX12_rooms_119 : decode cX12_rooms 119 = .ok (.ireturn, 1) := by decide +kernel
theorem dX12_rooms_120 : decode cX12_rooms 120 = .ok (.iconst 0, 1) := by decide +kernel
theorem dX12_rooms_121 : decode cX12_rooms 121 = .ok (.istore_n 1, 1) := by decide +kernel
theorem dX12_rooms_122 : decode cX12_rooms 122 = .ok (.iload_n 1, 1) := by decide +kernel
theorem dX12_rooms_123 : decode cX12_rooms 123 = .ok (.aload_n 0, 1) := by decide +kernel
theorem dX12_rooms_124 : decode cX12_rooms 124 = .ok (.getfield 179, 3) := by decide +kernel
theorem dX12_rooms_127 : decode cX12_rooms 127 = .ok (.if_icmp .ge 23, 3) := by decide +kernel
theorem dX12_rooms_130 : decode cX12_rooms 130 = .ok (.aload_n 0, 1) := by decide +kernel
theorem dX12_rooms_131 : decode cX12_rooms 131 = .ok (.getfield 42, 3) := by decide +kernel
theorem dX12_rooms_134 : decode cX12_rooms 134 = .ok (.iload_n 1, 1) := by decide +kernel
theorem dX12_rooms_135 : decode cX12_rooms 135 = .ok (.baload, 1) := by decide +kernel
theorem dX12_rooms_136 : decode cX12_rooms 136 = .ok (.ifCond .eq 8, 3) := by decide +kernel
theorem dX12_rooms_139 : decode cX12_rooms 139 = .ok (.aload_n 0, 1) := by decide +kernel
theorem dX12_rooms_140 : decode cX12_rooms 140 = .ok (.iload_n 1, 1) := by decide +kernel
theorem dX12_rooms_141 : decode cX12_rooms 141 = .ok (.invokevirtual 339, 3) := by decide +kernel
theorem dX12_rooms_144 : decode cX12_rooms 144 = .ok (.iinc 1 1, 3) := by decide +kernel
theorem dX12_rooms_147 : decode cX12_rooms 147 = .ok (.goto (-25), 3) := by decide +kernel
theorem dX12_rooms_150 : decode cX12_rooms 150 = .ok (.aload_n 0, 1) := by decide +kernel
theorem dX12_rooms_151 : decode cX12_rooms 151 = .ok (.invokevirtual 342, 3) := by decide +kernel
theorem dX12_rooms_154 : decode cX12_rooms 154 = .ok (.aload_n 0, 1) := by decide +kernel
theorem dX12_rooms_155 : decode cX12_rooms 155 = .ok (.getfield 324, 3) := by decide +kernel
theorem dX12_rooms_158 : decode cX12_rooms 158 = .ok (.ireturn, 1) := by decide +kernel
set_option maxRecDepth 20000 in
theorem b_X12_rooms_0 {k n : Nat} {x : Wx} {Z : Zt} {Q : Option Value → Wx → Zt → Prop} {a0 : Nat} 
    (h : V mX12_rooms k n 2 [some (r_ a0), some (i_ 0)] [] x Z Q) :
    V mX12_rooms k n 0 [some (r_ a0), none] [] x Z Q :=
  V_iconst dX12_rooms_0 (V_istore_n (lv' := [some (r_ a0), some (i_ 0)]) dX12_rooms_1 (Nat.le_of_ble_eq_true rfl) rfl (V_msk [true, true] rfl h))
set_option maxRecDepth 20000 in
theorem b_X12_rooms_2 {k n : Nat} {x : Wx} {Z : Zt} {Q : Option Value → Wx → Zt → Prop} {a0 : Nat} {v1 : Int} (o_a0 : Is12 x a0)
    (h : Rg v1 ∧ (((96 ≤ v1) → (∀ Z1 : Zt, Z1 = up Z a0 23 0 → (V mX12_rooms k n 36 [some (r_ a0), some (i_ 0)] [] x Z1 Q))) ∧ ((v1 < 96) → (((v1 ≠ 0) → (V mX12_rooms k n 22 [some (r_ a0), some (i_ v1)] [i_ 0, i_ v1, r_ (a0 + 12)] x Z Q)) ∧ ((v1 = 0) → (V mX12_rooms k n 22 [some (r_ a0), some (i_ v1)] [i_ 1, i_ v1, r_ (a0 + 12)] x Z Q)))))) :
    V mX12_rooms k n 2 [some (r_ a0), some (i_ v1)] [] x Z Q :=
  V_iload_n dX12_rooms_2 rfl (V_bipush dX12_rooms_3 rfl (V_icmp_ge (tgt := 29) dX12_rooms_5 rfl h.1 (rg_c rfl) (fun c1 => V_aload_n dX12_rooms_29 rfl (V_iconst dX12_rooms_30 (P_12_23 o_a0.1 lf_12_303 dX12_rooms_31 (V_nmZ (fun Z1 eZ1 => V_iconst dX12_rooms_34 (V_istore_n (lv' := [some (r_ a0), some (i_ 0)]) dX12_rooms_35 (Nat.le_of_ble_eq_true rfl) rfl (V_msk [true, true] rfl ((h.2.1 c1) Z1 eZ1)))))))) (fun c1 => V_aload_n dX12_rooms_8 rfl (G_12_22 o_a0.1 o_a0.qR22 lf_12_45 dX12_rooms_9 (V_iload_n dX12_rooms_12 rfl (V_iload_n dX12_rooms_13 rfl (V_if_ne (tgt := 21) dX12_rooms_14 rfl h.1 (fun c2 => V_iconst dX12_rooms_21 (V_msk [true, true] rfl ((h.2.2 c1).1 c2))) (fun c2 => V_iconst dX12_rooms_17 (V_goto (tgt := 22) dX12_rooms_18 rfl (V_msk [true, true] rfl ((h.2.2 c1).2 c2)))))))))))
set_option maxRecDepth 20000 in
theorem b_X12_rooms_22 {k n : Nat} {x : Wx} {Z : Zt} {Q : Option Value → Wx → Zt → Prop} {a0 : Nat} {v1 : Int} {b0_ : Nat} {t1 : Int} {t2 : Int} (s_b0 : x.1 b0_ = some (100, 96))
    (h : 0 ≤ t1 ∧ t1 < 96 ∧ (∀ Z1 : Zt, Z1 = up Z b0_ t1.toNat t2 → (V mX12_rooms k n 2 [some (r_ a0), some (i_ (v1 + 1))] [] x Z1 Q))) :
    V mX12_rooms k n 22 [some (r_ a0), some (i_ v1)] [i_ t2, i_ t1, r_ b0_] x Z Q :=
  V_iast (t := 100) s_b0 (by decide) (by decide) rfl h.1 h.2.1 (Nat.le_of_ble_eq_true rfl) dX12_rooms_22 (V_nmZ (fun Z1 eZ1 => V_iinc (lv' := [some (r_ a0), some (i_ (v1 + 1))]) dX12_rooms_23 rfl (Nat.le_of_ble_eq_true rfl) rfl (V_goto (tgt := 2) dX12_rooms_26 rfl (V_msk [true, true] rfl (h.2.2 Z1 eZ1)))))
set_option maxRecDepth 20000 in
theorem b_X12_rooms_36 {k n : Nat} {x : Wx} {Z : Zt} {Q : Option Value → Wx → Zt → Prop} {a0 : Nat} {v1 : Int} (o_a0 : Is12 x a0)
    (h : Rg v1 ∧ Rg (Z a0 11) ∧ (((Z a0 11 ≤ v1) → (∀ Z1 : Zt, Z1 = up Z a0 24 ((Z a0 21) + (2 * (Z a0 23))) → (∀ Z2 : Zt, Z2 = up Z1 a0 26 0 → (∀ Z3 : Zt, Z3 = up Z2 a0 28 0 → (V mX12_rooms k n 91 [some (r_ a0), some (i_ 0)] [] x Z3 Q))))) ∧ ((v1 < Z a0 11) → (0 ≤ v1 ∧ v1 < 13 ∧ (Rg (Z (a0 + 11) v1.toNat) ∧ (((Z (a0 + 11) v1.toNat = 0) → (V mX12_rooms k n 58 [some (r_ a0), some (i_ v1)] [] x Z Q)) ∧ ((Z (a0 + 11) v1.toNat ≠ 0) → (∃ g1 : Int, (∃ g2 : Int, (∃ g3 : Nat → Int, (∃ g4 : Nat → Int, (∃ g5 : Nat → Int, (∃ g6 : Un, (MF Z a0 g1 g3 ∧ MSq Z a0 g2 g4 g5 ∧ ORg g4 ∧ (0 ≤ v1 ∧ v1 < g1) ∧ MU Z a0 g6 ∧ (UnOk g1 g6 ∧ (g6.1 : Int) + mDp g1 g3 g4 v1 ≤ 90) ∧ (∀ (Z'1 : Zt), (MU Z'1 a0 (undX g1 v1 (mDp g1 g3 g4 v1).toNat g6) ∧ UF a0 Z Z'1) → (V mX12_rooms k n 58 [some (r_ a0), some (i_ v1)] [] x Z'1 Q)))))))))))))))) :
    V mX12_rooms k n 36 [some (r_ a0), some (i_ v1)] [] x Z Q :=
  V_iload_n dX12_rooms_36 rfl (V_aload_n dX12_rooms_37 rfl (G_12_11 o_a0.1 lf_12_179 dX12_rooms_38 (V_icmp_ge (tgt := 64) dX12_rooms_41 rfl h.1 h.2.1 (fun c1 => V_aload_n dX12_rooms_64 rfl (V_aload_n dX12_rooms_65 rfl (G_12_21 o_a0.1 lf_12_294 dX12_rooms_66 (V_iconst dX12_rooms_69 (V_aload_n dX12_rooms_70 rfl (G_12_23 o_a0.1 lf_12_303 dX12_rooms_71 (V_imul dX12_rooms_74 (V_iadd dX12_rooms_75 (P_12_24 o_a0.1 lf_12_306 dX12_rooms_76 (V_nmZ (fun Z1 eZ1 => V_aload_n dX12_rooms_79 rfl (V_iconst dX12_rooms_80 (P_12_26 o_a0.1 lf_12_309 dX12_rooms_81 (V_nmZ (fun Z2 eZ2 => V_aload_n dX12_rooms_84 rfl (V_iconst dX12_rooms_85 (P_12_28 o_a0.1 lf_12_324 dX12_rooms_86 (V_nmZ (fun Z3 eZ3 => V_iconst dX12_rooms_89 (V_istore_n (lv' := [some (r_ a0), some (i_ 0)]) dX12_rooms_90 (Nat.le_of_ble_eq_true rfl) rfl (V_msk [true, true] rfl ((((h.2.2.1 c1) Z1 eZ1) Z2 eZ2) Z3 eZ3)))))))))))))))))))))) (fun c1 => V_aload_n dX12_rooms_44 rfl (G_12_20 o_a0.1 o_a0.qR20 lf_12_42 dX12_rooms_45 (V_iload_n dX12_rooms_48 rfl (V_zald (t := 102) o_a0.qK20 (by decide) rfl (h.2.2.2 c1).1 (h.2.2.2 c1).2.1 (Nat.le_of_ble_eq_true rfl) dX12_rooms_49 (V_if_eq (tgt := 58) dX12_rooms_50 rfl (h.2.2.2 c1).2.2.1 (fun c2 => V_msk [true, true] rfl ((h.2.2.2 c1).2.2.2.1 c2)) (fun c2 => V_aload_n dX12_rooms_53 rfl (V_iload_n dX12_rooms_54 rfl (Exists.elim ((h.2.2.2 c1).2.2.2.2 c2) (fun g1 w1 => Exists.elim w1 (fun g2 w2 => Exists.elim w2 (fun g3 w3 => Exists.elim w3 (fun g4 w4 => Exists.elim w4 (fun g5 w5 => Exists.elim w5 (fun g6 w6 => V_callV (k' := 0) (n' := 0) (t := 12) (q := (RX12, TX12, 46)) [i_ v1] [] okX12_wantsAt o_a0.1 rfl rfl lm_12_336 liX12_wantsAt lqX12_wantsAt (Nat.le_of_ble_eq_true rfl) (Nat.le_of_ble_eq_true rfl) (Nat.le_of_ble_eq_true rfl) (cat_of rfl) (Nat.le_of_ble_eq_true rfl) (Nat.zero_le _) (Nat.zero_le _) rfl dX12_rooms_55 (sp_X12_wantsAt o_a0 w6.1 w6.2.1 w6.2.2.1 w6.2.2.2.1 w6.2.2.2.2.1 w6.2.2.2.2.2.1 (fun Z'1 p1 => V_msk [true, true] rfl (w6.2.2.2.2.2.2 Z'1 p1))))))))))))))))))))
set_option maxRecDepth 20000 in
theorem b_X12_rooms_58 {k n : Nat} {x : Wx} {Z : Zt} {Q : Option Value → Wx → Zt → Prop} {a0 : Nat} {v1 : Int} 
    (h : V mX12_rooms k n 36 [some (r_ a0), some (i_ (v1 + 1))] [] x Z Q) :
    V mX12_rooms k n 58 [some (r_ a0), some (i_ v1)] [] x Z Q :=
  V_iinc (lv' := [some (r_ a0), some (i_ (v1 + 1))]) dX12_rooms_58 rfl (Nat.le_of_ble_eq_true rfl) rfl (V_goto (tgt := 36) dX12_rooms_61 rfl (V_msk [true, true] rfl h))
set_option maxRecDepth 20000 in
theorem b_X12_rooms_91 {k n : Nat} {x : Wx} {Z : Zt} {Q : Option Value → Wx → Zt → Prop} {a0 : Nat} {v1 : Int} (o_a0 : Is12 x a0)
    (h : Rg v1 ∧ (((9600 ≤ v1) → (Rg (Z a0 24) ∧ (((0 ≤ Z a0 24) → (V mX12_rooms k n 122 [some (r_ a0), some (i_ 0)] [] x Z Q)) ∧ ((Z a0 24 < 0) → (Q (some (i_ 0)) x Z))))) ∧ ((v1 < 9600) → (0 ≤ v1 ∧ (∀ Z1 : Zt, Z1 = up Z (a0 + 13) v1.toNat 0 → (V mX12_rooms k n 91 [some (r_ a0), some (i_ (v1 + 1))] [] x Z1 Q)))))) :
    V mX12_rooms k n 91 [some (r_ a0), some (i_ v1)] [] x Z Q :=
  V_iload_n dX12_rooms_91 rfl (V_sipush dX12_rooms_92 rfl (V_icmp_ge (tgt := 111) dX12_rooms_95 rfl h.1 (rg_c rfl) (fun c1 => V_aload_n dX12_rooms_111 rfl (G_12_24 o_a0.1 lf_12_306 dX12_rooms_112 (V_if_ge (tgt := 120) dX12_rooms_115 rfl (h.2.1 c1).1 (fun c2 => V_iconst dX12_rooms_120 (V_istore_n (lv' := [some (r_ a0), some (i_ 0)]) dX12_rooms_121 (Nat.le_of_ble_eq_true rfl) rfl (V_msk [true, true] rfl ((h.2.1 c1).2.1 c2)))) (fun c2 => V_iconst dX12_rooms_118 (V_iret (ty := .int) dX12_rooms_119 rfl rfl ((h.2.1 c1).2.2 c2)))))) (fun c1 => V_aload_n dX12_rooms_98 rfl (G_12_25 o_a0.1 o_a0.qR25 lf_12_48 dX12_rooms_99 (V_iload_n dX12_rooms_102 rfl (V_iconst dX12_rooms_103 (V_iast (t := 100) o_a0.qK25 (by decide) (by decide) rfl (h.2.2 c1).1 c1 (Nat.le_of_ble_eq_true rfl) dX12_rooms_104 (V_nmZ (fun Z1 eZ1 => V_iinc (lv' := [some (r_ a0), some (i_ (v1 + 1))]) dX12_rooms_105 rfl (Nat.le_of_ble_eq_true rfl) rfl (V_goto (tgt := 91) dX12_rooms_108 rfl (V_msk [true, true] rfl ((h.2.2 c1).2 Z1 eZ1))))))))))))
set_option maxRecDepth 20000 in
theorem b_X12_rooms_122 {k n : Nat} {x : Wx} {Z : Zt} {Q : Option Value → Wx → Zt → Prop} {a0 : Nat} {v1 : Int} (o_a0 : Is12 x a0)
    (h : Rg v1 ∧ Rg (Z a0 11) ∧ (((Z a0 11 ≤ v1) → (∃ g1 : Int, (∃ g2 : Nat, (∃ g3 : Nat, (∃ g4 : Nat, (∃ g5 : Nat → Nat → Int, ((IsP g1 ∧ Z a0 11 = g1) ∧ (Z a0 12 = (g2 : Int) ∧ g2 ≤ 2) ∧ (Z a0 24 = (g3 : Int) ∧ g3 ≤ 95) ∧ (Z a0 26 = (g4 : Int) ∧ g4 ≤ 100) ∧ MM Z a0 g5 ∧ EI g1 g2 g3 g4 0 (g5, 0, fun _ => 0, fun _ => 0, 0) ∧ (∀ q j : Nat, q < g4 → g3 < j → g5 q j = 0) ∧ (∀ (Z'1 : Zt), (SV Z'1 a0 g3 g4 (g3 + 1) (slvN g1 g2 g3 g4 g5 (g3 + 1)) ∧ EFr a0 Z Z'1) → (Q (some (i_ (Z'1 a0 28))) x Z'1))))))))) ∧ ((v1 < Z a0 11) → (0 ≤ v1 ∧ v1 < 13 ∧ (Rg (Z (a0 + 11) v1.toNat) ∧ (((Z (a0 + 11) v1.toNat = 0) → (V mX12_rooms k n 144 [some (r_ a0), some (i_ v1)] [] x Z Q)) ∧ ((Z (a0 + 11) v1.toNat ≠ 0) → (∃ g6 : Int, (∃ g7 : Int, (∃ g8 : Int, (∃ g9 : Nat → Int, (∃ g10 : Nat → Int, (∃ g11 : Nat → Int, (∃ g12 : Lq, (MF Z a0 g6 g9 ∧ MSq Z a0 g7 g10 g11 ∧ ORg g10 ∧ (0 ≤ v1 ∧ v1 < g6) ∧ (Z a0 24 = g8 ∧ 0 ≤ g8 ∧ g8 ≤ 95) ∧ RS Z a0 g12 ∧ (mCd g6 g9 g10 (gen g9).toNat g8 v1 g12).2 ≤ 100 ∧ (∀ (Z'2 : Zt), (RS Z'2 a0 (mCd g6 g9 g10 (gen g9).toNat g8 v1 g12) ∧ CFr a0 Z Z'2) → (V mX12_rooms k n 144 [some (r_ a0), some (i_ v1)] [] x Z'2 Q))))))))))))))))) :
    V mX12_rooms k n 122 [some (r_ a0), some (i_ v1)] [] x Z Q :=
  V_iload_n dX12_rooms_122 rfl (V_aload_n dX12_rooms_123 rfl (G_12_11 o_a0.1 lf_12_179 dX12_rooms_124 (V_icmp_ge (tgt := 150) dX12_rooms_127 rfl h.1 h.2.1 (fun c1 => V_aload_n dX12_rooms_150 rfl (Exists.elim (h.2.2.1 c1) (fun g1 w1 => Exists.elim w1 (fun g2 w2 => Exists.elim w2 (fun g3 w3 => Exists.elim w3 (fun g4 w4 => Exists.elim w4 (fun g5 w5 => V_callV (k' := 0) (n' := 0) (t := 12) (q := (RX12, TX12, 46)) [] [] okX12_eliminates o_a0.1 rfl rfl lm_12_342 liX12_eliminates lqX12_eliminates (Nat.le_of_ble_eq_true rfl) (Nat.le_of_ble_eq_true rfl) (Nat.le_of_ble_eq_true rfl) (cat_of rfl) (Nat.le_of_ble_eq_true rfl) (Nat.zero_le _) (Nat.zero_le _) rfl dX12_rooms_151 (sp_X12_eliminates o_a0 w5.1 w5.2.1 w5.2.2.1 w5.2.2.2.1 w5.2.2.2.2.1 w5.2.2.2.2.2.1 w5.2.2.2.2.2.2.1 (fun Z'1 p1 => V_aload_n dX12_rooms_154 rfl (G_12_28 o_a0.1 lf_12_324 dX12_rooms_155 (V_iret (ty := .int) dX12_rooms_158 rfl rfl (w5.2.2.2.2.2.2.2 Z'1 p1)))))))))))) (fun c1 => V_aload_n dX12_rooms_130 rfl (G_12_20 o_a0.1 o_a0.qR20 lf_12_42 dX12_rooms_131 (V_iload_n dX12_rooms_134 rfl (V_zald (t := 102) o_a0.qK20 (by decide) rfl (h.2.2.2 c1).1 (h.2.2.2 c1).2.1 (Nat.le_of_ble_eq_true rfl) dX12_rooms_135 (V_if_eq (tgt := 144) dX12_rooms_136 rfl (h.2.2.2 c1).2.2.1 (fun c2 => V_msk [true, true] rfl ((h.2.2.2 c1).2.2.2.1 c2)) (fun c2 => V_aload_n dX12_rooms_139 rfl (V_iload_n dX12_rooms_140 rfl (Exists.elim ((h.2.2.2 c1).2.2.2.2 c2) (fun g6 w6 => Exists.elim w6 (fun g7 w7 => Exists.elim w7 (fun g8 w8 => Exists.elim w8 (fun g9 w9 => Exists.elim w9 (fun g10 w10 => Exists.elim w10 (fun g11 w11 => Exists.elim w11 (fun g12 w12 => V_callV (k' := 0) (n' := 0) (t := 12) (q := (RX12, TX12, 46)) [i_ v1] [] okX12_conditionsAt o_a0.1 rfl rfl lm_12_339 liX12_conditionsAt lqX12_conditionsAt (Nat.le_of_ble_eq_true rfl) (Nat.le_of_ble_eq_true rfl) (Nat.le_of_ble_eq_true rfl) (cat_of rfl) (Nat.le_of_ble_eq_true rfl) (Nat.zero_le _) (Nat.zero_le _) rfl dX12_rooms_141 (sp_X12_conditionsAt o_a0 w12.1 w12.2.1 w12.2.2.1 w12.2.2.2.1 w12.2.2.2.2.1 w12.2.2.2.2.2.1 w12.2.2.2.2.2.2.1 (fun Z'2 p2 => V_msk [true, true] rfl (w12.2.2.2.2.2.2.2 Z'2 p2)))))))))))))))))))))
set_option maxRecDepth 20000 in
theorem b_X12_rooms_144 {k n : Nat} {x : Wx} {Z : Zt} {Q : Option Value → Wx → Zt → Prop} {a0 : Nat} {v1 : Int} 
    (h : V mX12_rooms k n 122 [some (r_ a0), some (i_ (v1 + 1))] [] x Z Q) :
    V mX12_rooms k n 144 [some (r_ a0), some (i_ v1)] [] x Z Q :=
  V_iinc (lv' := [some (r_ a0), some (i_ (v1 + 1))]) dX12_rooms_144 rfl (Nat.le_of_ble_eq_true rfl) rfl (V_goto (tgt := 122) dX12_rooms_147 rfl (V_msk [true, true] rfl h))
theorem sp_X12_rooms {k n : Nat} {x : Wx} {Z : Zt} {Q : Option Value → Wx → Zt → Prop} {b : Nat} (o : Is12 x b) {p fr : Int} {F O D : Nat → Int} (hF : MF Z b p F) (hS : MSq Z b fr O D) (hk : RmK p F fr O D) (h : ∀ Z' : Zt, (RMs Z' b p F fr O D ∧ RmF b Z Z') → Q (some (i_ (mRm p F fr O D))) x Z') : V mX12_rooms k n 0 [some (r_ b), none] [] x Z Q := by
  obtain ⟨hO, hD, hu42, hfr, hr100⟩ := hk
  have hp := hF.2.1.1
  have hpr := hp.rg
  have hgn := gen_rg F
  have b11 : ∀ Z1 : Zt, RmF b Z Z1 → Z1 b 11 = p := fun Z1 hf => (hF.rm hf).1.1.1
  have s12 : x.1 (b + 12) = some (100, 96) := o.2.2.2.2.2.2.2.2.2.2.2.2.2.2.2.2.2.2.2.2.2.2.2.2.1
  obtain ⟨mo, hmo⟩ : ∃ mo : Int, mMo p F fr O D = mo := ⟨_, rfl⟩
  have hmoe : mo = fr + 2 * ((mUn p F O D).1 : Int) := hmo.symm
  have hmo95 : mo ≤ 95 ∧ -100 ≤ mo := by omega
  obtain ⟨g, hg⟩ : ∃ g : Nat, gen F = (g : Int) := ⟨(gen F).toNat, by omega⟩
  have hgt : (gen F).toNat = g := by omega
  unfold RMs mRm mSl at h
  rw [hmo] at h hr100
  -- the end: the rows are there
  have rws : 0 ≤ mo → ∀ (m q : Nat) (Z1 : Zt) (W : Lq), (q : Int) + m = p → RmF b Z Z1 → MU Z1 b (mUn p F O D) → Z1 b 24 = mo → RS Z1 b W → LqK p g mo W → mRx p F O D g mo m q W = mRw p F O D mo → V mX12_rooms k n 122 [some (r_ b), some (i_ (q : Int))] [] x Z1 Q := by
    intro hm0 m
    induction m with
    | zero =>
      intro q Z1 W hq hf hU h24 hR hK he
      have he : W = mRw p F O D mo := he
      have e11 := b11 Z1 hf
      have e12 : Z1 b 12 = (g : Int) := by rw [← hg]; exact (hF.rm hf).1.1.2
      refine b_X12_rooms_122 o ?_
      rw [e11]
      refine ⟨⟨by omega, by omega⟩, ⟨by omega, by omega⟩, fun _ => ⟨p, g, mo.toNat, W.2, W.1, ⟨hp, rfl⟩, ⟨e12, by omega⟩, ⟨by rw [h24]; omega, by omega⟩, ⟨hR.2.1, by rw [he]; exact hr100 hm0⟩, hR.1, ?_, ?_, fun Z2 hz2 => ?_⟩, fun c => by omega⟩
      · exact ⟨fun i _ j _ => (hK i j).1, Nat.zero_le _, fun i _ _ j hj _ => absurd hj (Nat.not_lt_zero j), fun i _ j _ hn => (hK i j).2.2 hn, Nat.le_refl _, Nat.le_refl _⟩
      · intro i j _ hj; exact (hK i j).2.1 (by omega)
      · obtain ⟨sv, ef⟩ := hz2
        have hf2 := hf.tr ef.rm
        rw [he] at sv
        have e28 := sv.2.1
        have := h Z2 ⟨⟨⟨by rw [ef.2 23 (by decide)]; exact hU.1, fun i hi => by rw [ef.1 _ (by omega) (by omega) (by omega) (by omega)]; exact hU.2 i hi⟩, by rw [ef.2 24 (by decide)]; exact h24, ?_, fun _ => ?_⟩, hf2⟩
        · rw [if_neg (by omega), hgt] at this
          rw [e28]; exact this
        · rw [if_neg (by omega), hgt]; exact e28
        · rw [hgt]; exact sv
    | succ m ih =>
      intro q Z1 W hq hf hU h24 hR hK he
      have e11 := b11 Z1 hf
      have hS1 := hS.rm hf
      have hdq := hS1.2.2 q (by omega)
      have hD01 := hD q (by omega)
      unfold mRx at he
      refine b_X12_rooms_122 o ?_
      rw [e11, Int.toNat_natCast, hdq]
      refine ⟨⟨by omega, by omega⟩, ⟨by omega, by omega⟩, fun c => by omega, fun _ => ⟨by omega, by omega, ⟨by omega, by omega⟩, fun c => b_X12_rooms_144 ?_, fun c => ?_⟩⟩
      · rw [if_pos c] at he
        have := ih (q + 1) Z1 W (by omega) hf hU h24 hR hK he
        exact this
      · rw [if_neg c] at he
        have hle := mRx_le (p := p) (F := F) (O := O) (D := D) (g := g) (mo := mo) m (q + 1) (mCd p F O g mo q W)
        rw [he] at hle
        have h100 := hr100 hm0
        refine ⟨p, fr, mo, F, O, D, W, hF.rm hf, hS1, hO, by omega, ⟨h24, hm0, hmo95.1⟩, hR, by rw [hgt]; omega, fun Z2 hz2 => b_X12_rooms_144 ?_⟩
        rw [hgt] at hz2
        have ef := hz2.2
        have := ih (q + 1) Z2 _ (by omega) (hf.tr ef.rm) ⟨by rw [ef.2 23 (by decide)]; exact hU.1, fun i hi => by rw [ef.1 _ (by omega) (by omega) (by omega) (by omega) (by omega) (by omega)]; exact hU.2 i hi⟩ (by rw [ef.2 24 (by decide)]; exact h24) hz2.1 (mCd_k (by omega) hm0 hK) he
        exact this
  -- the rows are cleared
  have clr : ∀ (m j : Nat) (Z1 : Zt), j + m = 9600 → RmF b Z Z1 → MU Z1 b (mUn p F O D) → Z1 b 24 = mo → Z1 b 26 = 0 → Z1 b 28 = 0 → (∀ i : Nat, i < j → Z1 (b + 13) i = 0) → V mX12_rooms k n 91 [some (r_ b), some (i_ (j : Int))] [] x Z1 Q := by
    intro m
    induction m with
    | zero =>
      intro j Z1 hj hf hU h24 h26 h28 hz
      refine b_X12_rooms_91 o ?_
      rw [h24]
      refine ⟨⟨by omega, by omega⟩, fun _ => ⟨⟨by omega, by omega⟩, fun c => ?_, fun c => ?_⟩, fun c => by omega⟩
      · have := rws c p.toNat 0 Z1 (fun _ _ => 0, 0) (by omega) hf hU h24 ⟨fun q i hq hi => hz _ (by omega), h26, fun _ _ _ => rfl⟩ (fun q i => ⟨by show (0 : Int) ≤ 0 ∧ 0 < p; omega, fun _ => rfl, fun _ => rfl⟩) (by unfold mRw; rw [hgt])
        exact this
      · have := h Z1 ⟨⟨hU, h24, by rw [if_pos c]; exact h28, fun e => by omega⟩, hf⟩
        rw [if_pos c] at this
        exact this
    | succ m ih =>
      intro j Z1 hj hf hU h24 h26 h28 hz
      refine b_X12_rooms_91 o ⟨⟨by omega, by omega⟩, fun c => by omega, fun _ => ⟨by omega, fun Z2 e2 => ?_⟩⟩
      rw [Int.toNat_natCast] at e2
      have z2b : Z2 b = Z1 b := by rw [e2, up_row _ _ _ _ _ (by omega)]
      have := ih (j + 1) Z2 (by omega) (hf.tr ⟨fun c _ h2 => by rw [e2, up_row _ _ _ _ _ (by omega)], fun i _ _ _ _ => by rw [z2b]⟩) ⟨by rw [z2b]; exact hU.1, fun i hi => by rw [e2, up_row _ _ _ _ _ (by omega)]; exact hU.2 i hi⟩ (by rw [z2b]; exact h24) (by rw [z2b]; exact h26) (by rw [z2b]; exact h28) (fun i hi => ?_)
      · exact this
      · rw [e2, up_at]
        by_cases c : i = j
        · rw [if_pos c]
        · rw [if_neg c]; exact hz i (by omega)
  -- UNDER
  have unl : ∀ (m q : Nat) (Z1 : Zt) (w : Un), (q : Int) + m = p → RmF b Z Z1 → MU Z1 b w → UnOk p w → undA p (mDt p F O D) m q w = mUn p F O D → V mX12_rooms k n 36 [some (r_ b), some (i_ (q : Int))] [] x Z1 Q := by
    intro m
    induction m with
    | zero =>
      intro q Z1 w hq hf hU hk he
      have he : w = mUn p F O D := he
      have e11 := b11 Z1 hf
      have hS1 := hS.rm hf
      refine b_X12_rooms_36 o ?_
      rw [e11]
      refine ⟨⟨by omega, by omega⟩, ⟨by omega, by omega⟩, fun _ Z2 e2 Z3 e3 Z4 e4 => ?_, fun c => by omega⟩
      rw [hS1.1, hU.1, he] at e2
      have z4 : ∀ i : Nat, Z4 b i = if i = 28 then 0 else if i = 26 then 0 else if i = 24 then mo else Z1 b i := fun i => by rw [e4, up_at, e3, up_at, e2, up_at, ← hmoe]
      have z4o : ∀ c, c ≠ b → Z4 c = Z1 c := fun c hc => by rw [e4, up_row _ _ _ _ _ hc, e3, up_row _ _ _ _ _ hc, e2, up_row _ _ _ _ _ hc]
      have := clr 9600 0 Z4 rfl (hf.tr ⟨fun c h1 _ => z4o c h1, fun i _ h2 h3 h4 => by rw [z4, if_neg h4, if_neg h3, if_neg h2]⟩) ⟨by rw [z4, if_neg (by decide), if_neg (by decide), if_neg (by decide), hU.1, he], fun i hi => by rw [z4o _ (by omega), hU.2 i hi, he]⟩ (by rw [z4]; rfl) (by rw [z4]; rfl) (by rw [z4]; rfl) (fun i hi => absurd hi (Nat.not_lt_zero i))
      exact this
    | succ m ih =>
      intro q Z1 w hq hf hU hk he
      have e11 := b11 Z1 hf
      have hS1 := hS.rm hf
      have hdq := hS1.2.2 q (by omega)
      have hD01 := hD q (by omega)
      unfold undA at he
      have hmd := mDp_rg hp (F := F) hO (X := (q : Int)) (by omega)
      refine b_X12_rooms_36 o ?_
      rw [e11, Int.toNat_natCast, hdq]
      refine ⟨⟨by omega, by omega⟩, ⟨by omega, by omega⟩, fun c => by omega, fun _ => ⟨by omega, by omega, ⟨by omega, by omega⟩, fun c => b_X12_rooms_58 ?_, fun c => ?_⟩⟩
      · have e0 : (mDt p F O D q).toNat = 0 := by unfold mDt; rw [if_pos c]; rfl
        rw [e0] at he
        have := ih (q + 1) Z1 w (by omega) hf hU hk he
        exact this
      · have e0 : mDt p F O D q = mDp p F O q := by unfold mDt; rw [if_neg c]
        rw [e0] at he
        have hle := undA_1 p (mDt p F O D) m (q + 1) (undX p q (mDp p F O q).toNat w)
        rw [he, undX_1] at hle
        refine ⟨p, fr, F, O, D, w, hF.rm hf, hS1, hO, by omega, hU, ⟨hk, by omega⟩, fun Z2 hz2 => b_X12_rooms_58 ?_⟩
        have := ih (q + 1) Z2 _ (by omega) (hf.tr hz2.2.rm) hz2.1 (undX_ok (by omega) _ _ hk) he
        exact this
  have init : ∀ (m i : Nat) (Z1 : Zt), i + m = 96 → RmF b Z Z1 → (∀ j : Nat, j < i → Z1 (b + 12) j = if j = 0 then 1 else 0) → V mX12_rooms k n 2 [some (r_ b), some (i_ (i : Int))] [] x Z1 Q := by
    intro m
    induction m with
    | zero =>
      intro i Z1 hi hf hz
      refine b_X12_rooms_2 o ⟨⟨by omega, by omega⟩, fun _ Z2 e2 => ?_, fun c => by omega⟩
      have := unl p.toNat 0 Z2 (0, fun i => if i = 0 then 1 else 0) (by omega) (hf.tr ⟨fun c h1 _ => by rw [e2, up_row _ _ _ _ _ h1], fun i h1 _ _ _ => by rw [e2, up_at, if_neg h1]⟩) ⟨by rw [e2, up_self]; rfl, fun j hj => by rw [e2, up_row _ _ _ _ _ (by omega)]; exact hz j (by omega)⟩ ⟨fun j => ?_, fun j hj => ?_⟩ rfl
      · exact this
      · show 0 ≤ (if j = 0 then (1 : Int) else 0) ∧ (if j = 0 then (1 : Int) else 0) < p
        split <;> omega
      · have hj : 0 < j := hj
        show (if j = 0 then (1 : Int) else 0) = 0
        rw [if_neg (by omega)]
    | succ m ih =>
      intro i Z1 hi hf hz
      have put : ∀ v : Int, v = (if i = 0 then 1 else 0) → V mX12_rooms k n 22 [some (r_ b), some (i_ (i : Int))] [i_ v, i_ (i : Int), r_ (b + 12)] x Z1 Q := fun v hv => by
        refine b_X12_rooms_22 s12 ⟨by omega, by omega, fun Z2 e2 => ?_⟩
        rw [Int.toNat_natCast] at e2
        have := ih (i + 1) Z2 (by omega) (hf.tr ⟨fun c h1 h2 => by rw [e2, up_row _ _ _ _ _ (by omega)], fun i _ _ _ _ => by rw [e2, up_row _ _ _ _ _ (by omega)]⟩) (fun j hj => ?_)
        · exact this
        · rw [e2, up_at]
          by_cases c : j = i
          · rw [if_pos c, hv, c]
          · rw [if_neg c]; exact hz j (by omega)
      refine b_X12_rooms_2 o ⟨⟨by omega, by omega⟩, fun c => by omega, fun _ => ⟨fun c => put 0 ?_, fun c => put 1 ?_⟩⟩
      · rw [if_neg (by omega)]
      · rw [if_pos (by omega)]
  exact b_X12_rooms_0 (init 96 0 Z rfl RmF.rf (fun j hj => absurd hj (Nat.not_lt_zero j)))
theorem dX12_baseAt_0 : decode cX12_baseAt 0 = .ok (.iload_n 2, 1) := by decide +kernel
theorem dX12_baseAt_1 : decode cX12_baseAt 1 = .ok (.aload_n 0, 1) := by decide +kernel
theorem dX12_baseAt_2 : decode cX12_baseAt 2 = .ok (.getfield 54, 3) := by decide +kernel
theorem dX12_baseAt_5 : decode cX12_baseAt 5 = .ok (.iload_n 1, 1) := by decide +kernel
theorem dX12_baseAt_6 : decode cX12_baseAt 6 = .ok (.iaload, 1) := by decide +kernel
theorem dX12_baseAt_7 : decode cX12_baseAt 7 = .ok (.if_icmp .ne 5, 3) := by decide +kernel
theorem dX12_baseAt_10 : decode cX12_baseAt 10 = .ok (.iconst 1, 1) := by decide +kernel
theorem dX12_baseAt_11 : decode cX12_baseAt 11 = .ok (.ireturn, 1) := by decide +kernel
theorem dX12_baseAt_12 : decode cX12_baseAt 12 = .ok (.aload_n 0, 1) := by decide +kernel
theorem dX12_baseAt_13 : decode cX12_baseAt 13 = .ok (.getfield 51, 3) := by decide +kernel
theorem dX12_baseAt_16 : decode cX12_baseAt 16 = .ok (.iload_n 2, 1) := by decide +kernel
theorem dX12_baseAt_17 : decode cX12_baseAt 17 = .ok (.iaload, 1) := by decide +kernel
theorem dX12_baseAt_18 : decode cX12_baseAt 18 = .ok (.ifCond .lt 32, 3) := by decide +kernel
theorem dX12_baseAt_21 : decode cX12_baseAt 21 = .ok (.aload_n 0, 1) := by decide +kernel
theorem dX12_baseAt_22 : decode cX12_baseAt 22 = .ok (.aload_n 0, 1) := by decide +kernel
theorem dX12_baseAt_23 : decode cX12_baseAt 23 = .ok (.getfield 48, 3) := by decide +kernel
theorem dX12_baseAt_26 : decode cX12_baseAt 26 = .ok (.bipush 96, 2) := by decide +kernel
theorem dX12_baseAt_28 : decode cX12_baseAt 28 = .ok (.aload_n 0, 1) := by decide +kernel
theorem dX12_baseAt_29 : decode cX12_baseAt 29 = .ok (.getfield 51, 3) := by decide +kernel
theorem dX12_baseAt_32 : decode cX12_baseAt 32 = .ok (.iload_n 2, 1) := by decide +kernel
theorem dX12_baseAt_33 : decode cX12_baseAt 33 = .ok (.iaload, 1) := by decide +kernel
theorem dX12_baseAt_34 : decode cX12_baseAt 34 = .ok (.imul, 1) := by decide +kernel
theorem dX12_baseAt_35 : decode cX12_baseAt 35 = .ok (.aload_n 0, 1) := by decide +kernel
theorem dX12_baseAt_36 : decode cX12_baseAt 36 = .ok (.getfield 54, 3) := by decide +kernel
theorem dX12_baseAt_39 : decode cX12_baseAt 39 = .ok (.iload_n 1, 1) := by decide +kernel
theorem dX12_baseAt_40 : decode cX12_baseAt 40 = .ok (.iaload, 1) := by decide +kernel
theorem dX12_baseAt_41 : decode cX12_baseAt 41 = .ok (.iadd, 1) := by decide +kernel
theorem dX12_baseAt_42 : decode cX12_baseAt 42 = .ok (.iaload, 1) := by decide +kernel
theorem dX12_baseAt_43 : decode cX12_baseAt 43 = .ok (.ineg, 1) := by decide +kernel
theorem dX12_baseAt_44 : decode cX12_baseAt 44 = .ok (.invokevirtual 182, 3) := by decide +kernel
theorem dX12_baseAt_47 : decode cX12_baseAt 47 = .ok (.goto 4, 3) := by decide +kernel
theorem dX12_baseAt_50 : decode cX12_baseAt 50 = .ok (.iconst 0, 1) := by decide +kernel
theorem dX12_baseAt_51 : decode cX12_baseAt 51 = .ok (.ireturn, 1) := by decide +kernel
set_option maxRecDepth 20000 in
theorem b_X12_baseAt_0 {k n : Nat} {x : Wx} {Z : Zt} {Q : Option Value → Wx → Zt → Prop} {a0 : Nat} {v1 : Int} {v2 : Int} (o_a0 : Is12 x a0)
    (h : 0 ≤ v1 ∧ v1 < 96 ∧ (Rg v2 ∧ Rg (Z (a0 + 15) v1.toNat) ∧ (((v2 ≠ Z (a0 + 15) v1.toNat) → (0 ≤ v2 ∧ v2 < 96 ∧ (Rg (Z (a0 + 14) v2.toNat) ∧ (((Z (a0 + 14) v2.toNat < 0) → (Q (some (i_ 0)) x Z)) ∧ ((0 ≤ Z (a0 + 14) v2.toNat) → (0 ≤ (96 * (Z (a0 + 14) v2.toNat)) + (Z (a0 + 15) v1.toNat) ∧ (96 * (Z (a0 + 14) v2.toNat)) + (Z (a0 + 15) v1.toNat) < 9600 ∧ (Rg (-(Z (a0 + 13) ((96 * (Z (a0 + 14) v2.toNat)) + (Z (a0 + 15) v1.toNat)).toNat)) ∧ 0 < Z a0 11 ∧ Z a0 11 ≤ 13 ∧ (Q (some (i_ ((-(Z (a0 + 13) ((96 * (Z (a0 + 14) v2.toNat)) + (Z (a0 + 15) v1.toNat)).toNat)) % Z a0 11))) x Z)))))))) ∧ ((v2 = Z (a0 + 15) v1.toNat) → (Q (some (i_ 1)) x Z))))) :
    V mX12_baseAt k n 0 [some (r_ a0), some (i_ v1), some (i_ v2)] [] x Z Q :=
  V_iload_n dX12_baseAt_0 rfl (V_aload_n dX12_baseAt_1 rfl (G_12_29 o_a0.1 o_a0.qR29 lf_12_54 dX12_baseAt_2 (V_iload_n dX12_baseAt_5 rfl (V_iald (t := 100) o_a0.qK29 (by decide) rfl h.1 h.2.1 (Nat.le_of_ble_eq_true rfl) dX12_baseAt_6 (V_icmp_ne (tgt := 12) dX12_baseAt_7 rfl h.2.2.1 h.2.2.2.1 (fun c1 => V_aload_n dX12_baseAt_12 rfl (G_12_27 o_a0.1 o_a0.qR27 lf_12_51 dX12_baseAt_13 (V_iload_n dX12_baseAt_16 rfl (V_iald (t := 100) o_a0.qK27 (by decide) rfl (h.2.2.2.2.1 c1).1 (h.2.2.2.2.1 c1).2.1 (Nat.le_of_ble_eq_true rfl) dX12_baseAt_17 (V_if_lt (tgt := 50) dX12_baseAt_18 rfl (h.2.2.2.2.1 c1).2.2.1 (fun c2 => V_iconst dX12_baseAt_50 (V_iret (ty := .int) dX12_baseAt_51 rfl rfl ((h.2.2.2.2.1 c1).2.2.2.1 c2))) (fun c2 => V_aload_n dX12_baseAt_21 rfl (V_aload_n dX12_baseAt_22 rfl (G_12_25 o_a0.1 o_a0.qR25 lf_12_48 dX12_baseAt_23 (V_bipush dX12_baseAt_26 rfl (V_aload_n dX12_baseAt_28 rfl (G_12_27 o_a0.1 o_a0.qR27 lf_12_51 dX12_baseAt_29 (V_iload_n dX12_baseAt_32 rfl (V_iald (t := 100) o_a0.qK27 (by decide) rfl (h.2.2.2.2.1 c1).1 (h.2.2.2.2.1 c1).2.1 (Nat.le_of_ble_eq_true rfl) dX12_baseAt_33 (V_imul dX12_baseAt_34 (V_aload_n dX12_baseAt_35 rfl (G_12_29 o_a0.1 o_a0.qR29 lf_12_54 dX12_baseAt_36 (V_iload_n dX12_baseAt_39 rfl (V_iald (t := 100) o_a0.qK29 (by decide) rfl h.1 h.2.1 (Nat.le_of_ble_eq_true rfl) dX12_baseAt_40 (V_iadd dX12_baseAt_41 (V_iald (t := 100) o_a0.qK25 (by decide) rfl ((h.2.2.2.2.1 c1).2.2.2.2 c2).1 ((h.2.2.2.2.1 c1).2.2.2.2 c2).2.1 (Nat.le_of_ble_eq_true rfl) dX12_baseAt_42 (V_ineg dX12_baseAt_43 (V_callV (k' := 0) (n' := 0) (t := 12) (q := (RX12, TX12, 46)) [i_ (-(Z (a0 + 13) ((96 * (Z (a0 + 14) v2.toNat)) + (Z (a0 + 15) v1.toNat)).toNat))] [] okX12_mod o_a0.1 rfl rfl lm_12_182 liX12_mod lqX12_mod (Nat.le_of_ble_eq_true rfl) (Nat.le_of_ble_eq_true rfl) (Nat.le_of_ble_eq_true rfl) (cat_of rfl) (Nat.le_of_ble_eq_true rfl) (Nat.zero_le _) (Nat.zero_le _) rfl dX12_baseAt_44 (sp_X12_mod o_a0 ((h.2.2.2.2.1 c1).2.2.2.2 c2).2.2.1 ((h.2.2.2.2.1 c1).2.2.2.2 c2).2.2.2.1 ((h.2.2.2.2.1 c1).2.2.2.2 c2).2.2.2.2.1 (V_goto (tgt := 51) dX12_baseAt_47 rfl (V_iret (ty := .int) dX12_baseAt_51 rfl rfl ((h.2.2.2.2.1 c1).2.2.2.2 c2).2.2.2.2.2))))))))))))))))))))))))) (fun c1 => V_iconst dX12_baseAt_10 (V_iret (ty := .int) dX12_baseAt_11 rfl rfl (h.2.2.2.2.2 c1))))))))
