/-! ===== the reference: the reader ===== -/
theorem dX12_byteAt_0 : decode cX12_byteAt 0 = .ok (.iload_n 1, 1) := by decide +kernel
theorem dX12_byteAt_1 : decode cX12_byteAt 1 = .ok (.aload_n 0, 1) := by decide +kernel
theorem dX12_byteAt_2 : decode cX12_byteAt 2 = .ok (.getfield 87, 3) := by decide +kernel
theorem dX12_byteAt_5 : decode cX12_byteAt 5 = .ok (.if_icmp .ge 15, 3) := by decide +kernel
theorem dX12_byteAt_8 : decode cX12_byteAt 8 = .ok (.aload_n 0, 1) := by decide +kernel
theorem dX12_byteAt_9 : decode cX12_byteAt 9 = .ok (.getfield 7, 3) := by decide +kernel
theorem dX12_byteAt_12 : decode cX12_byteAt 12 = .ok (.bipush 10, 2) := by decide +kernel
theorem dX12_byteAt_14 : decode cX12_byteAt 14 = .ok (.iload_n 1, 1) := by decide +kernel
theorem dX12_byteAt_15 : decode cX12_byteAt 15 = .ok (.iadd, 1) := by decide +kernel
theorem dX12_byteAt_16 : decode cX12_byteAt 16 = .ok (.iaload, 1) := by decide +kernel
theorem dX12_byteAt_17 : decode cX12_byteAt 17 = .ok (.goto 4, 3) := by decide +kernel
theorem dX12_byteAt_20 : decode cX12_byteAt 20 = .ok (.iconst (-1), 1) := by decide +kernel
theorem dX12_byteAt_21 : decode cX12_byteAt 21 = .ok (.ireturn, 1) := by decide +kernel
set_option maxRecDepth 20000 in
theorem b_X12_byteAt_0 {k n : Nat} {x : Wx} {Z : Zt} {Q : Option Value → Wx → Zt → Prop} {a0 : Nat} {v1 : Int} (o_a0 : Is12 x a0)
    (h : Rg v1 ∧ Rg (Z a0 2) ∧ (((Z a0 2 ≤ v1) → (Q (some (i_ (-1))) x Z)) ∧ ((v1 < Z a0 2) → (0 ≤ 10 + v1 ∧ 10 + v1 < 2912 ∧ (Q (some (i_ (Z (a0 + 1) (10 + v1).toNat))) x Z))))) :
    V mX12_byteAt k n 0 [some (r_ a0), some (i_ v1)] [] x Z Q :=
  V_iload_n dX12_byteAt_0 rfl (V_aload_n dX12_byteAt_1 rfl (G_12_2 o_a0.1 lf_12_87 dX12_byteAt_2 (V_icmp_ge (tgt := 20) dX12_byteAt_5 rfl h.1 h.2.1 (fun c1 => V_iconst dX12_byteAt_20 (V_iret (ty := .int) dX12_byteAt_21 rfl rfl (h.2.2.1 c1))) (fun c1 => V_aload_n dX12_byteAt_8 rfl (G_12_0 o_a0.1 o_a0.qR0 lf_12_7 dX12_byteAt_9 (V_bipush dX12_byteAt_12 rfl (V_iload_n dX12_byteAt_14 rfl (V_iadd dX12_byteAt_15 (V_iald (t := 100) o_a0.qK0 (by decide) rfl (h.2.2.2 c1).1 (h.2.2.2 c1).2.1 (Nat.le_of_ble_eq_true rfl) dX12_byteAt_16 (V_goto (tgt := 21) dX12_byteAt_17 rfl (V_iret (ty := .int) dX12_byteAt_21 rfl rfl (h.2.2.2 c1).2.2)))))))))))
theorem dX12_wordOf_0 : decode cX12_wordOf 0 = .ok (.iload_n 0, 1) := by decide +kernel
theorem dX12_wordOf_1 : decode cX12_wordOf 1 = .ok (.ldc 91, 2) := by decide +kernel
theorem dX12_wordOf_3 : decode cX12_wordOf 3 = .ok (.if_icmp .ne 5, 3) := by decide +kernel
theorem dX12_wordOf_6 : decode cX12_wordOf 6 = .ok (.iconst 1, 1) := by decide +kernel
theorem dX12_wordOf_7 : decode cX12_wordOf 7 = .ok (.ireturn, 1) := by decide +kernel
theorem dX12_wordOf_8 : decode cX12_wordOf 8 = .ok (.iload_n 0, 1) := by decide +kernel
theorem dX12_wordOf_9 : decode cX12_wordOf 9 = .ok (.ldc 92, 2) := by decide +kernel
theorem dX12_wordOf_11 : decode cX12_wordOf 11 = .ok (.if_icmp .ne 5, 3) := by decide +kernel
theorem dX12_wordOf_14 : decode cX12_wordOf 14 = .ok (.iconst 2, 1) := by decide +kernel
theorem dX12_wordOf_15 : decode cX12_wordOf 15 = .ok (.ireturn, 1) := by decide +kernel
theorem dX12_wordOf_16 : decode cX12_wordOf 16 = .ok (.iload_n 0, 1) := by decide +kernel
theorem dX12_wordOf_17 : decode cX12_wordOf 17 = .ok (.bipush 52, 2) := by decide +kernel
theorem dX12_wordOf_19 : decode cX12_wordOf 19 = .ok (.if_icmp .ne 5, 3) := by decide +kernel
theorem dX12_wordOf_22 : decode cX12_wordOf 22 = .ok (.iconst 3, 1) := by decide +kernel
theorem dX12_wordOf_23 : decode cX12_wordOf 23 = .ok (.ireturn, 1) := by decide +kernel
theorem dX12_wordOf_24 : decode cX12_wordOf 24 = .ok (.iload_n 0, 1) := by decide +kernel
theorem dX12_wordOf_25 : decode cX12_wordOf 25 = .ok (.sipush 6194, 3) := by decide +kernel
theorem dX12_wordOf_28 : decode cX12_wordOf 28 = .ok (.if_icmp .ne 5, 3) := by decide +kernel
theorem dX12_wordOf_31 : decode cX12_wordOf 31 = .ok (.iconst 4, 1) := by decide +kernel
theorem dX12_wordOf_32 : decode cX12_wordOf 32 = .ok (.ireturn, 1) := by decide +kernel
theorem dX12_wordOf_33 : decode cX12_wordOf 33 = .ok (.iload_n 0, 1) := by decide +kernel
theorem dX12_wordOf_34 : decode cX12_wordOf 34 = .ok (.bipush 24, 2) := by decide +kernel
theorem dX12_wordOf_36 : decode cX12_wordOf 36 = .ok (.if_icmp .ne 7, 3) := by decide +kernel
theorem dX12_wordOf_39 : decode cX12_wordOf 39 = .ok (.iconst 5, 1) := by decide +kernel
theorem dX12_wordOf_40 : decode cX12_wordOf 40 = .ok (.goto 16, 3) := by decide +kernel
theorem dX12_wordOf_43 : decode cX12_wordOf 43 = .ok (.iload_n 0, 1) := by decide +kernel
theorem dX12_wordOf_44 : decode cX12_wordOf 44 = .ok (.bipush 25, 2) := by decide +kernel
theorem dX12_wordOf_46 : decode cX12_wordOf 46 = .ok (.if_icmp .ne 8, 3) := by decide +kernel
theorem dX12_wordOf_49 : decode cX12_wordOf 49 = .ok (.bipush 6, 2) := by decide +kernel
theorem dX12_wordOf_51 : decode cX12_wordOf 51 = .ok (.goto 5, 3) := by decide +kernel
theorem dX12_wordOf_54 : decode cX12_wordOf 54 = .ok (.bipush 99, 2) := by decide +kernel
theorem dX12_wordOf_56 : decode cX12_wordOf 56 = .ok (.ireturn, 1) := by decide +kernel
set_option maxRecDepth 20000 in
theorem b_X12_wordOf_0 {k n : Nat} {x : Wx} {Z : Zt} {Q : Option Value → Wx → Zt → Prop} {v0 : Int} 
    (h : Rg v0 ∧ (((v0 ≠ 17376677) → (((v0 ≠ 3852997) → (((v0 ≠ 52) → (((v0 ≠ 6194) → (((v0 ≠ 24) → (((v0 ≠ 25) → (Q (some (i_ 99)) x Z)) ∧ ((v0 = 25) → (Q (some (i_ 6)) x Z)))) ∧ ((v0 = 24) → (Q (some (i_ 5)) x Z)))) ∧ ((v0 = 6194) → (Q (some (i_ 4)) x Z)))) ∧ ((v0 = 52) → (Q (some (i_ 3)) x Z)))) ∧ ((v0 = 3852997) → (Q (some (i_ 2)) x Z)))) ∧ ((v0 = 17376677) → (Q (some (i_ 1)) x Z)))) :
    V mX12_wordOf k n 0 [some (i_ v0)] [] x Z Q :=
  V_iload_n dX12_wordOf_0 rfl (V_ldc (z := 17376677) dX12_wordOf_1 lk_12_91 (V_icmp_ne (tgt := 8) dX12_wordOf_3 rfl h.1 (rg_c rfl) (fun c1 => V_iload_n dX12_wordOf_8 rfl (V_ldc (z := 3852997) dX12_wordOf_9 lk_12_92 (V_icmp_ne (tgt := 16) dX12_wordOf_11 rfl h.1 (rg_c rfl) (fun c2 => V_iload_n dX12_wordOf_16 rfl (V_bipush dX12_wordOf_17 rfl (V_icmp_ne (tgt := 24) dX12_wordOf_19 rfl h.1 (rg_c rfl) (fun c3 => V_iload_n dX12_wordOf_24 rfl (V_sipush dX12_wordOf_25 rfl (V_icmp_ne (tgt := 33) dX12_wordOf_28 rfl h.1 (rg_c rfl) (fun c4 => V_iload_n dX12_wordOf_33 rfl (V_bipush dX12_wordOf_34 rfl (V_icmp_ne (tgt := 43) dX12_wordOf_36 rfl h.1 (rg_c rfl) (fun c5 => V_iload_n dX12_wordOf_43 rfl (V_bipush dX12_wordOf_44 rfl (V_icmp_ne (tgt := 54) dX12_wordOf_46 rfl h.1 (rg_c rfl) (fun c6 => V_bipush dX12_wordOf_54 rfl (V_iret (ty := .int) dX12_wordOf_56 rfl rfl ((((((h.2.1 c1).1 c2).1 c3).1 c4).1 c5).1 c6))) (fun c6 => V_bipush dX12_wordOf_49 rfl (V_goto (tgt := 56) dX12_wordOf_51 rfl (V_iret (ty := .int) dX12_wordOf_56 rfl rfl ((((((h.2.1 c1).1 c2).1 c3).1 c4).1 c5).2 c6))))))) (fun c5 => V_iconst dX12_wordOf_39 (V_goto (tgt := 56) dX12_wordOf_40 rfl (V_iret (ty := .int) dX12_wordOf_56 rfl rfl (((((h.2.1 c1).1 c2).1 c3).1 c4).2 c5))))))) (fun c4 => V_iconst dX12_wordOf_31 (V_iret (ty := .int) dX12_wordOf_32 rfl rfl ((((h.2.1 c1).1 c2).1 c3).2 c4)))))) (fun c3 => V_iconst dX12_wordOf_22 (V_iret (ty := .int) dX12_wordOf_23 rfl rfl (((h.2.1 c1).1 c2).2 c3)))))) (fun c2 => V_iconst dX12_wordOf_14 (V_iret (ty := .int) dX12_wordOf_15 rfl rfl ((h.2.1 c1).2 c2)))))) (fun c1 => V_iconst dX12_wordOf_6 (V_iret (ty := .int) dX12_wordOf_7 rfl rfl (h.2.2 c1)))))
/-- the tape of the reference: m signs -/
def MB (Z : Zt) (b : Nat) (s : Nat → Int) (m : Nat) : Prop := (Z b 2 = (m : Int) ∧ m ≤ 600 ∧ BR s) ∧ ∀ i : Nat, i < 600 → Z (b + 1) (10 + i) = s i % 256
def bya (s : Nat → Int) (m : Nat) (v : Int) : Int := if (m : Int) ≤ v then -1 else s v.toNat % 256
theorem bya_rg {s : Nat → Int} {m : Nat} {v : Int} : -1 ≤ bya s m v ∧ bya s m v < 256 := by
  unfold bya
  split
  · omega
  · omega
theorem bya_in {s : Nat → Int} {m p : Nat} (h : p < m) : bya s m (p : Int) = s p % 256 := by
  unfold bya
  rw [if_neg (by omega), Int.toNat_natCast]
theorem bya_out {s : Nat → Int} {m p : Nat} (h : m ≤ p) : bya s m (p : Int) = -1 := by
  unfold bya
  rw [if_pos (by omega)]
theorem bya_eq {s : Nat → Int} {m p : Nat} (hs : BR s) (h : p < m) (hm : m ≤ 600) {c : Int} (hc : 0 ≤ c ∧ c < 128) : bya s m (p : Int) = c ↔ s p = c := by
  rw [bya_in h]
  have := hs p (by omega)
  omega
theorem bya_blk {s : Nat → Int} {m p : Nat} (hs : BR s) (h : p < m) (hm : m ≤ 600) : blk (s p) = true ↔ bya s m (p : Int) = 10 ∨ bya s m (p : Int) = 32 := by
  rw [bya_eq hs h hm (by decide), bya_eq hs h hm (by decide)]
  unfold blk; rw [decide_eq_true_eq]
theorem bya_ltr {s : Nat → Int} {m p : Nat} (hs : BR s) (h : p < m) (hm : m ≤ 600) : ltr (s p) = true ↔ 97 ≤ bya s m (p : Int) ∧ bya s m (p : Int) ≤ 122 := by
  unfold ltr; rw [decide_eq_true_eq, bya_in h]
  have := hs p (by omega)
  omega
theorem bya_dgt {s : Nat → Int} {m p : Nat} (hs : BR s) (h : p < m) (hm : m ≤ 600) : dgt (s p) = true ↔ 48 ≤ bya s m (p : Int) ∧ bya s m (p : Int) ≤ 57 := by
  unfold dgt; rw [decide_eq_true_eq, bya_in h]
  have := hs p (by omega)
  omega
theorem sp_X12_byteAt {k n : Nat} {x : Wx} {Z : Zt} {Q : Option Value → Wx → Zt → Prop} {b : Nat} {v : Int} (o : Is12 x b) {s : Nat → Int} {m : Nat} (hB : MB Z b s m) (hv : 0 ≤ v ∧ v ≤ 600) (h : Q (some (i_ (bya s m v))) x Z) : V mX12_byteAt k n 0 [some (r_ b), some (i_ v)] [] x Z Q := by
  obtain ⟨⟨e2, hm, hs⟩, hA⟩ := hB
  unfold bya at h
  refine b_X12_byteAt_0 o ⟨⟨by omega, by omega⟩, by rw [e2]; exact ⟨by omega, by omega⟩, fun c => ?_, fun c => ⟨by omega, by omega, ?_⟩⟩
  · rw [e2] at c; rw [if_pos c] at h; exact h
  · rw [e2] at c; rw [if_neg (by omega)] at h
    rw [show (10 + v).toNat = 10 + v.toNat from by omega, hA _ (by omega)]; exact h
def wdO (v : Int) : Int := if v = 17376677 then 1 else if v = 3852997 then 2 else if v = 52 then 3 else if v = 6194 then 4 else if v = 24 then 5 else if v = 25 then 6 else 99
theorem sp_X12_wordOf {k n : Nat} {x : Wx} {Z : Zt} {Q : Option Value → Wx → Zt → Prop} {v : Int} (hv : Rg v) (h : Q (some (i_ (wdO v))) x Z) : V mX12_wordOf k n 0 [some (i_ v)] [] x Z Q := by
  unfold wdO at h
  refine b_X12_wordOf_0 ⟨hv, fun c => ⟨fun d => ⟨fun e => ⟨fun f => ⟨fun g => ⟨fun i => ?_, fun i => ?_⟩, fun g => ?_⟩, fun f => ?_⟩, fun e => ?_⟩, fun d => ?_⟩, fun c => ?_⟩
  · rw [if_neg c, if_neg d, if_neg e, if_neg f, if_neg g, if_neg i] at h; exact h
  · rw [if_neg c, if_neg d, if_neg e, if_neg f, if_neg g, if_pos i] at h; exact h
  · rw [if_neg c, if_neg d, if_neg e, if_neg f, if_pos g] at h; exact h
  · rw [if_neg c, if_neg d, if_neg e, if_pos f] at h; exact h
  · rw [if_neg c, if_neg d, if_pos e] at h; exact h
  · rw [if_neg c, if_pos d] at h; exact h
  · rw [if_pos c] at h; exact h
/-- the letters, by 32 -/
def wvS (s : Nat → Int) (q : Nat) : Nat → Int
  | 0 => 0
  | j + 1 => 32 * wvS s q j + s (q + j) - 96
theorem vl10_sn (s : Nat → Int) : ∀ (m p : Nat) (a : Int), vl10 s (m + 1) p a = 10 * vl10 s m p a + s (p + m) - 48
  | 0, p, a => rfl
  | m + 1, p, a => by
    show vl10 s (m + 1) (p + 1) (10 * a + s p - 48) = 10 * vl10 s m (p + 1) (10 * a + s p - 48) + s (p + (m + 1)) - 48
    rw [vl10_sn s m (p + 1), show p + 1 + m = p + (m + 1) from by omega]
/-- the word of l letters from q on is the word j -/
def wsB (s : Nat → Int) (q l j : Nat) : Bool := decide (l = (wd j).length) && (List.range (wd j).length).all (fun i => decide (s (q + i) = (wd j).getD i 0))
theorem wsB_iff (s : Nat → Int) (q l j : Nat) : wsB s q l j = true ↔ l = (wd j).length ∧ ∀ i : Nat, i < (wd j).length → s (q + i) = (wd j).getD i 0 := by
  unfold wsB
  simp only [Bool.and_eq_true, decide_eq_true_eq, List.all_eq_true, List.mem_range]
theorem wv_words {s : Nat → Int} {q l : Nat} (hl : 1 ≤ l ∧ l ≤ 5) (hs : ∀ i : Nat, q ≤ i → i < q + l → 97 ≤ s i ∧ s i ≤ 122) : Rg (wvS s q l) ∧ (wsB s q l 10 = true ↔ wvS s q l = 17376677) ∧ (wsB s q l 11 = true ↔ wvS s q l = 3852997) ∧ (wsB s q l 13 = true ↔ wvS s q l = 52) ∧ (wsB s q l 12 = true ↔ wvS s q l = 6194) ∧ (wsB s q l 15 = true ↔ wvS s q l = 24) ∧ (wsB s q l 14 = true ↔ wvS s q l = 25) := by
  have h10 : wd 10 = [112, 114, 105, 109, 101] := rfl
  have h11 : wd 11 = [99, 117, 114, 118, 101] := rfl
  have h12 : wd 12 = [102, 97, 114] := rfl
  have h13 : wd 13 = [97, 116] := rfl
  have h14 : wd 14 = [121] := rfl
  have h15 : wd 15 = [120] := rfl
  have L5 : ∀ (a0 a1 a2 a3 a4 : Int), (∀ i : Nat, i < 5 → s (q + i) = [a0, a1, a2, a3, a4].getD i 0) ↔ s q = a0 ∧ s (q + 1) = a1 ∧ s (q + 2) = a2 ∧ s (q + 3) = a3 ∧ s (q + 4) = a4 := fun a0 a1 a2 a3 a4 => ⟨fun h => ⟨h 0 (by decide), h 1 (by decide), h 2 (by decide), h 3 (by decide), h 4 (by decide)⟩, fun h i hi => by
    match i, hi with
    | 0, _ => exact h.1
    | 1, _ => exact h.2.1
    | 2, _ => exact h.2.2.1
    | 3, _ => exact h.2.2.2.1
    | 4, _ => exact h.2.2.2.2⟩
  have L3 : ∀ (a0 a1 a2 : Int), (∀ i : Nat, i < 3 → s (q + i) = [a0, a1, a2].getD i 0) ↔ s q = a0 ∧ s (q + 1) = a1 ∧ s (q + 2) = a2 := fun a0 a1 a2 => ⟨fun h => ⟨h 0 (by decide), h 1 (by decide), h 2 (by decide)⟩, fun h i hi => by
    match i, hi with
    | 0, _ => exact h.1
    | 1, _ => exact h.2.1
    | 2, _ => exact h.2.2⟩
  have L2 : ∀ (a0 a1 : Int), (∀ i : Nat, i < 2 → s (q + i) = [a0, a1].getD i 0) ↔ s q = a0 ∧ s (q + 1) = a1 := fun a0 a1 => ⟨fun h => ⟨h 0 (by decide), h 1 (by decide)⟩, fun h i hi => by
    match i, hi with
    | 0, _ => exact h.1
    | 1, _ => exact h.2⟩
  have L1 : ∀ (a0 : Int), (∀ i : Nat, i < 1 → s (q + i) = [a0].getD i 0) ↔ s q = a0 := fun a0 => ⟨fun h => h 0 (by decide), fun h i hi => by
    match i, hi with
    | 0, _ => exact h⟩
  simp only [wsB_iff, h10, h11, h12, h13, h14, h15]
  have e10 := L5 112 114 105 109 101
  have e11 := L5 99 117 114 118 101
  have e12 := L3 102 97 114
  have e13 := L2 97 116
  have e14 := L1 121
  have e15 := L1 120
  have g0 := hs q (by omega) (by omega)
  have g1 := hs (q + 1) (by omega)
  have g2 := hs (q + 2) (by omega)
  have g3 := hs (q + 3) (by omega)
  have g4 := hs (q + 4) (by omega)
  have n5 : ([112, 114, 105, 109, 101] : List Int).length = 5 := rfl
  have n5' : ([99, 117, 114, 118, 101] : List Int).length = 5 := rfl
  have n3 : ([102, 97, 114] : List Int).length = 3 := rfl
  have n2 : ([97, 116] : List Int).length = 2 := rfl
  have n1 : ([121] : List Int).length = 1 := rfl
  have n1' : ([120] : List Int).length = 1 := rfl
  rw [n5, n5', n3, n2, n1, n1', e10, e11, e12, e13, e14, e15]
  have w1 : wvS s q 1 = s q - 96 := by show 32 * 0 + s (q + 0) - 96 = _; rw [Nat.add_zero]; omega
  have w2 : wvS s q 2 = 32 * wvS s q 1 + s (q + 1) - 96 := rfl
  have w3 : wvS s q 3 = 32 * wvS s q 2 + s (q + 2) - 96 := rfl
  have w4 : wvS s q 4 = 32 * wvS s q 3 + s (q + 3) - 96 := rfl
  have w5 : wvS s q 5 = 32 * wvS s q 4 + s (q + 4) - 96 := rfl
  unfold Rg
  have hc : l = 1 ∨ l = 2 ∨ l = 3 ∨ l = 4 ∨ l = 5 := by omega
  rcases hc with rfl | rfl | rfl | rfl | rfl
  · exact ⟨by omega, by omega, by omega, by omega, by omega, by omega, by omega⟩
  · have g1 := g1 (by omega)
    exact ⟨by omega, by omega, by omega, by omega, by omega, by omega, by omega⟩
  · have g1 := g1 (by omega)
    have g2 := g2 (by omega)
    exact ⟨by omega, by omega, by omega, by omega, by omega, by omega, by omega⟩
  · have g1 := g1 (by omega)
    have g2 := g2 (by omega)
    have g3 := g3 (by omega)
    exact ⟨by omega, by omega, by omega, by omega, by omega, by omega, by omega⟩
  · have g1 := g1 (by omega)
    have g2 := g2 (by omega)
    have g3 := g3 (by omega)
    have g4 := g4 (by omega)
    exact ⟨by omega, by omega, by omega, by omega, by omega, by omega, by omega⟩
theorem dX12_advance_0 : decode cX12_advance 0 = .ok (.aload_n 0, 1) := by decide +kernel
theorem dX12_advance_1 : decode cX12_advance 1 = .ok (.aload_n 0, 1) := by decide +kernel
theorem dX12_advance_2 : decode cX12_advance 2 = .ok (.getfield 93, 3) := by decide +kernel
theorem dX12_advance_5 : decode cX12_advance 5 = .ok (.invokevirtual 96, 3) := by decide +kernel
theorem dX12_advance_8 : decode cX12_advance 8 = .ok (.bipush 10, 2) := by decide +kernel
theorem dX12_advance_10 : decode cX12_advance 10 = .ok (.if_icmp .eq 16, 3) := by decide +kernel
theorem dX12_advance_13 : decode cX12_advance 13 = .ok (.aload_n 0, 1) := by decide +kernel
theorem dX12_advance_14 : decode cX12_advance 14 = .ok (.aload_n 0, 1) := by decide +kernel
theorem dX12_advance_15 : decode cX12_advance 15 = .ok (.getfield 93, 3) := by decide +kernel
theorem dX12_advance_18 : decode cX12_advance 18 = .ok (.invokevirtual 96, 3) := by decide +kernel
theorem dX12_advance_21 : decode cX12_advance 21 = .ok (.bipush 32, 2) := by decide +kernel
theorem dX12_advance_23 : decode cX12_advance 23 = .ok (.if_icmp .ne 16, 3) := by decide +kernel
theorem dX12_advance_26 : decode cX12_advance 26 = .ok (.aload_n 0, 1) := by decide +kernel
theorem dX12_advance_27 : decode cX12_advance 27 = .ok (.dup, 1) := by decide +kernel
theorem dX12_advance_28 : decode cX12_advance 28 = .ok (.getfield 93, 3) := by decide +kernel
theorem dX12_advance_31 : decode cX12_advance 31 = .ok (.iconst 1, 1) := by decide +kernel
theorem dX12_advance_32 : decode cX12_advance 32 = .ok (.iadd, 1) := by decide +kernel
theorem dX12_advance_33 : decode cX12_advance 33 = .ok (.putfield 93, 3) := by decide +kernel
theorem dX12_advance_36 : decode cX12_advance 36 = .ok (.goto (-36), 3) := by decide +kernel
theorem dX12_advance_39 : decode cX12_advance 39 = .ok (.aload_n 0, 1) := by decide +kernel
theorem dX12_advance_40 : decode cX12_advance 40 = .ok (.aload_n 0, 1) := by decide +kernel
theorem dX12_advance_41 : decode cX12_advance 41 = .ok (.getfield 93, 3) := by decide +kernel
theorem dX12_advance_44 : decode cX12_advance 44 = .ok (.putfield 100, 3) := by decide +kernel
theorem dX12_advance_47 : decode cX12_advance 47 = .ok (.aload_n 0, 1) := by decide +kernel
theorem dX12_advance_48 : decode cX12_advance 48 = .ok (.aload_n 0, 1) := by decide +kernel
theorem dX12_advance_49 : decode cX12_advance 49 = .ok (.getfield 93, 3) := by decide +kernel
theorem dX12_advance_52 : decode cX12_advance 52 = .ok (.invokevirtual 96, 3) := by decide +kernel
theorem dX12_advance_55 : decode cX12_advance 55 = .ok (.istore_n 1, 1) := by decide +kernel
theorem dX12_advance_56 : decode cX12_advance 56 = .ok (.iload_n 1, 1) := by decide +kernel
theorem dX12_advance_57 : decode cX12_advance 57 = .ok (.ifCond .ge 11, 3) := by decide +kernel
theorem dX12_advance_60 : decode cX12_advance 60 = .ok (.aload_n 0, 1) := by decide +kernel
theorem dX12_advance_61 : decode cX12_advance 61 = .ok (.iconst 0, 1) := by decide +kernel
theorem dX12_advance_62 : decode cX12_advance 62 = .ok (.putfield 103, 3) := by decide +kernel
theorem dX12_advance_65 : decode cX12_advance 65 = .ok (.goto 251, 3) := by decide +kernel
theorem dX12_advance_68 : decode cX12_advance 68 = .ok (.iload_n 1, 1) := by decide +kernel
theorem dX12_advance_69 : decode cX12_advance 69 = .ok (.invokestatic 106, 3) := by decide +kernel
theorem dX12_advance_72 : decode cX12_advance 72 = .ok (.ifCond .eq 109, 3) := by decide +kernel
theorem dX12_advance_75 : decode cX12_advance 75 = .ok (.iconst 0, 1) := by decide +kernel
theorem dX12_advance_76 : decode cX12_advance 76 = .ok (.istore_n 2, 1) := by decide +kernel
theorem dX12_advance_77 : decode cX12_advance 77 = .ok (.aload_n 0, 1) := by decide +kernel
theorem dX12_advance_78 : decode cX12_advance 78 = .ok (.aload_n 0, 1) := by decide +kernel
theorem dX12_advance_79 : decode cX12_advance 79 = .ok (.getfield 93, 3) := by decide +kernel
theorem dX12_advance_82 : decode cX12_advance 82 = .ok (.invokevirtual 96, 3) := by decide +kernel
theorem dX12_advance_85 : decode cX12_advance 85 = .ok (.invokestatic 106, 3) := by decide +kernel
theorem dX12_advance_88 : decode cX12_advance 88 = .ok (.ifCond .eq 46, 3) := by decide +kernel
theorem dX12_advance_91 : decode cX12_advance 91 = .ok (.aload_n 0, 1) := by decide +kernel
theorem dX12_advance_92 : decode cX12_advance 92 = .ok (.getfield 93, 3) := by decide +kernel
theorem dX12_advance_95 : decode cX12_advance 95 = .ok (.aload_n 0, 1) := by decide +kernel
theorem dX12_advance_96 : decode cX12_advance 96 = .ok (.getfield 100, 3) := by decide +kernel
theorem dX12_advance_99 : decode cX12_advance 99 = .ok (.isub, 1) := by decide +kernel
theorem dX12_advance_100 : decode cX12_advance 100 = .ok (.iconst 5, 1) := by decide +kernel
theorem dX12_advance_101 : decode cX12_advance 101 = .ok (.if_icmp .ge 20, 3) := by decide +kernel
theorem dX12_advance_104 : decode cX12_advance 104 = .ok (.bipush 32, 2) := by decide +kernel
theorem dX12_advance_106 : decode cX12_advance 106 = .ok (.iload_n 2, 1) := by decide +kernel
theorem dX12_advance_107 : decode cX12_advance 107 = .ok (.imul, 1) := by decide +kernel
theorem dX12_advance_108 : decode cX12_advance 108 = .ok (.aload_n 0, 1) := by decide +kernel
theorem dX12_advance_109 : decode cX12_advance 109 = .ok (.aload_n 0, 1) := by decide +kernel
theorem dX12_advance_110 : decode cX12_advance 110 = .ok (.getfield 93, 3) := by decide +kernel
theorem dX12_advance_113 : decode cX12_advance 113 = .ok (.invokevirtual 96, 3) := by decide +kernel
theorem dX12_advance_116 : decode cX12_advance 116 = .ok (.iadd, 1) := by decide +kernel
theorem dX12_advance_117 : decode cX12_advance 117 = .ok (.bipush 96, 2) := by decide +kernel
theorem dX12_advance_119 : decode cX12_advance 119 = .ok (.isub, 1) := by decide +kernel
theorem dX12_advance_120 : decode cX12_advance 120 = .ok (.istore_n 2, 1) := by decide +kernel
theorem dX12_advance_121 : decode cX12_advance 121 = .ok (.aload_n 0, 1) := by decide +kernel
theorem dX12_advance_122 : decode cX12_advance 122 = .ok (.dup, 1) := by decide +kernel
theorem dX12_advance_123 : decode cX12_advance 123 = .ok (.getfield 93, 3) := by decide +kernel
theorem dX12_advance_126 : decode cX12_advance 126 = .ok (.iconst 1, 1) := by decide +kernel
theorem dX12_advance_127 : decode cX12_advance 127 = .ok (.iadd, 1) := by decide +kernel
theorem dX12_advance_128 : decode cX12_advance 128 = .ok (.putfield 93, 3) := by decide +kernel
theorem dX12_advance_131 : decode cX12_advance 131 = .ok (.goto (-54), 3) := by decide +kernel
theorem dX12_advance_134 : decode cX12_advance 134 = .ok (.aload_n 0, 1) := by decide +kernel
theorem dX12_advance_135 : decode cX12_advance 135 = .ok (.aload_n 0, 1) := by decide +kernel
theorem dX12_advance_136 : decode cX12_advance 136 = .ok (.getfield 93, 3) := by decide +kernel
theorem dX12_advance_139 : decode cX12_advance 139 = .ok (.aload_n 0, 1) := by decide +kernel
theorem dX12_advance_140 : decode cX12_advance 140 = .ok (.getfield 100, 3) := by decide +kernel
theorem dX12_advance_143 : decode cX12_advance 143 = .ok (.isub, 1) := by decide +kernel
theorem dX12_advance_144 : decode cX12_advance 144 = .ok (.iconst 5, 1) := by decide +kernel
theorem dX12_advance_145 : decode cX12_advance 145 = .ok (.if_icmp .le 8, 3) := by decide +kernel
theorem dX12_advance_148 : decode cX12_advance 148 = .ok (.bipush 99, 2) := by decide +kernel
theorem dX12_advance_150 : decode cX12_advance 150 = .ok (.goto 7, 3) := by decide +kernel
theorem dX12_advance_153 : decode cX12_advance 153 = .ok (.iload_n 2, 1) := by decide +kernel
theorem dX12_advance_154 : decode cX12_advance 154 = .ok (.invokestatic 110, 3) := by decide +kernel
theorem dX12_advance_157 : decode cX12_advance 157 = .ok (.putfield 113, 3) := by decide +kernel
theorem dX12_advance_160 : decode cX12_advance 160 = .ok (.aload_n 0, 1) := by decide +kernel
theorem dX12_advance_161 : decode cX12_advance 161 = .ok (.aload_n 0, 1) := by decide +kernel
theorem dX12_advance_162 : decode cX12_advance 162 = .ok (.getfield 113, 3) := by decide +kernel
theorem dX12_advance_165 : decode cX12_advance 165 = .ok (.bipush 99, 2) := by decide +kernel
theorem dX12_advance_167 : decode cX12_advance 167 = .ok (.if_icmp .ne 7, 3) := by decide +kernel
theorem dX12_advance_170 : decode cX12_advance 170 = .ok (.iconst 4, 1) := by decide +kernel
theorem dX12_advance_171 : decode cX12_advance 171 = .ok (.goto 4, 3) := by decide +kernel
theorem dX12_advance_174 : decode cX12_advance 174 = .ok (.iconst 3, 1) := by decide +kernel
theorem dX12_advance_175 : decode cX12_advance 175 = .ok (.putfield 103, 3) := by decide +kernel
theorem dX12_advance_178 : decode cX12_advance 178 = .ok (.goto 138, 3) := by decide +kernel
theorem dX12_advance_181 : decode cX12_advance 181 = .ok (.iload_n 1, 1) := by decide +kernel
theorem dX12_advance_182 : decode cX12_advance 182 = .ok (.invokestatic 116, 3) := by decide +kernel
theorem dX12_advance_185 : decode cX12_advance 185 = .ok (.ifCond .eq 96, 3) := by decide +kernel
theorem dX12_advance_188 : decode cX12_advance 188 = .ok (.aload_n 0, 1) := by decide +kernel
theorem dX12_advance_189 : decode cX12_advance 189 = .ok (.iconst 0, 1) := by decide +kernel
theorem dX12_advance_190 : decode cX12_advance 190 = .ok (.putfield 119, 3) := by decide +kernel
theorem dX12_advance_193 : decode cX12_advance 193 = .ok (.aload_n 0, 1) := by decide +kernel
theorem dX12_advance_194 : decode cX12_advance 194 = .ok (.aload_n 0, 1) := by decide +kernel
theorem dX12_advance_195 : decode cX12_advance 195 = .ok (.getfield 93, 3) := by decide +kernel
theorem dX12_advance_198 : decode cX12_advance 198 = .ok (.invokevirtual 96, 3) := by decide +kernel
theorem dX12_advance_201 : decode cX12_advance 201 = .ok (.invokestatic 116, 3) := by decide +kernel
theorem dX12_advance_204 : decode cX12_advance 204 = .ok (.ifCond .eq 52, 3) := by decide +kernel
theorem dX12_advance_207 : decode cX12_advance 207 = .ok (.aload_n 0, 1) := by decide +kernel
theorem dX12_advance_208 : decode cX12_advance 208 = .ok (.getfield 93, 3) := by decide +kernel
theorem dX12_advance_211 : decode cX12_advance 211 = .ok (.aload_n 0, 1) := by decide +kernel
theorem dX12_advance_212 : decode cX12_advance 212 = .ok (.getfield 100, 3) := by decide +kernel
theorem dX12_advance_215 : decode cX12_advance 215 = .ok (.isub, 1) := by decide +kernel
theorem dX12_advance_216 : decode cX12_advance 216 = .ok (.iconst 2, 1) := by decide +kernel
theorem dX12_advance_217 : decode cX12_advance 217 = .ok (.if_icmp .ge 26, 3) := by decide +kernel
theorem dX12_advance_220 : decode cX12_advance 220 = .ok (.aload_n 0, 1) := by decide +kernel
theorem dX12_advance_221 : decode cX12_advance 221 = .ok (.bipush 10, 2) := by decide +kernel
theorem dX12_advance_223 : decode cX12_advance 223 = .ok (.aload_n 0, 1) := by decide +kernel
theorem dX12_advance_224 : decode cX12_advance 224 = .ok (.getfield 119, 3) := by decide +kernel
theorem dX12_advance_227 : decode cX12_advance 227 = .ok (.imul, 1) := by decide +kernel
theorem dX12_advance_228 : decode cX12_advance 228 = .ok (.aload_n 0, 1) := by decide +kernel
theorem dX12_advance_229 : decode cX12_advance 229 = .ok (.aload_n 0, 1) := by decide +kernel
theorem dX12_advance_230 : decode cX12_advance 230 = .ok (.getfield 93, 3) := by decide +kernel
theorem dX12_advance_233 : decode cX12_advance 233 = .ok (.invokevirtual 96, 3) := by decide +kernel
theorem dX12_advance_236 : decode cX12_advance 236 = .ok (.iadd, 1) := by decide +kernel
theorem dX12_advance_237 : decode cX12_advance 237 = .ok (.bipush 48, 2) := by decide +kernel
theorem dX12_advance_239 : decode cX12_advance 239 = .ok (.isub, 1) := by decide +kernel
theorem dX12_advance_240 : decode cX12_advance 240 = .ok (.putfield 119, 3) := by decide +kernel
theorem dX12_advance_243 : decode cX12_advance 243 = .ok (.aload_n 0, 1) := by decide +kernel
theorem dX12_advance_244 : decode cX12_advance 244 = .ok (.dup, 1) := by decide +kernel
theorem dX12_advance_245 : decode cX12_advance 245 = .ok (.getfield 93, 3) := by decide +kernel
theorem dX12_advance_248 : decode cX12_advance 248 = .ok (.iconst 1, 1) := by decide +kernel
theorem dX12_advance_249 : decode cX12_advance 249 = .ok (.iadd, 1) := by decide +kernel
theorem dX12_advance_250 : decode cX12_advance 250 = .ok (.putfield 93, 3) := by decide +kernel
theorem dX12_advance_253 : decode cX12_advance 253 = .ok (.goto (-60), 3) := by decide +kernel
theorem dX12_advance_256 : decode cX12_advance 256 = .ok (.aload_n 0, 1) := by decide +kernel
theorem dX12_advance_257 : decode cX12_advance 257 = .ok (.aload_n 0, 1) := by decide +kernel
theorem dX12_advance_258 : decode cX12_advance 258 = .ok (.getfield 93, 3) := by decide +kernel
theorem dX12_advance_261 : decode cX12_advance 261 = .ok (.aload_n 0, 1) := by decide +kernel
theorem dX12_advance_262 : decode cX12_advance 262 = .ok (.getfield 100, 3) := by decide +kernel
theorem dX12_advance_265 : decode cX12_advance 265 = .ok (.isub, 1) := by decide +kernel
theorem dX12_advance_266 : decode cX12_advance 266 = .ok (.iconst 2, 1) := by decide +kernel
theorem dX12_advance_267 : decode cX12_advance 267 = .ok (.if_icmp .le 7, 3) := by decide +kernel
theorem dX12_advance_270 : decode cX12_advance 270 = .ok (.iconst 4, 1) := by decide +kernel
theorem dX12_advance_271 : decode cX12_advance 271 = .ok (.goto 4, 3) := by decide +kernel
theorem dX12_advance_274 : decode cX12_advance 274 = .ok (.iconst 1, 1) := by decide +kernel
theorem dX12_advance_275 : decode cX12_advance 275 = .ok (.putfield 103, 3) := by decide +kernel
theorem dX12_advance_278 : decode cX12_advance 278 = .ok (.goto 38, 3) := by decide +kernel
theorem dX12_advance_281 : decode cX12_advance 281 = .ok (.aload_n 0, 1) := by decide +kernel
theorem dX12_advance_282 : decode cX12_advance 282 = .ok (.dup, 1) := by decide +kernel
theorem dX12_advance_283 : decode cX12_advance 283 = .ok (.getfield 93, 3) := by decide +kernel
theorem dX12_advance_286 : decode cX12_advance 286 = .ok (.iconst 1, 1) := by decide +kernel
theorem dX12_advance_287 : decode cX12_advance 287 = .ok (.iadd, 1) := by decide +kernel
theorem dX12_advance_288 : decode cX12_advance 288 = .ok (.putfield 93, 3) := by decide +kernel
theorem dX12_advance_291 : decode cX12_advance 291 = .ok (.aload_n 0, 1) := by decide +kernel
theorem dX12_advance_292 : decode cX12_advance 292 = .ok (.iload_n 1, 1) := by decide +kernel
theorem dX12_advance_293 : decode cX12_advance 293 = .ok (.bipush 59, 2) := by decide +kernel
theorem dX12_advance_295 : decode cX12_advance 295 = .ok (.if_icmp .ne 7, 3) := by decide +kernel
theorem dX12_advance_298 : decode cX12_advance 298 = .ok (.iconst 2, 1) := by decide +kernel
theorem dX12_advance_299 : decode cX12_advance 299 = .ok (.goto 14, 3) := by decide +kernel
theorem dX12_advance_302 : decode cX12_advance 302 = .ok (.iload_n 1, 1) := by decide +kernel
theorem dX12_advance_303 : decode cX12_advance 303 = .ok (.bipush 45, 2) := by decide +kernel
theorem dX12_advance_305 : decode cX12_advance 305 = .ok (.if_icmp .ne 7, 3) := by decide +kernel
theorem dX12_advance_308 : decode cX12_advance 308 = .ok (.iconst 5, 1) := by decide +kernel
theorem dX12_advance_309 : decode cX12_advance 309 = .ok (.goto 4, 3) := by decide +kernel
theorem dX12_advance_312 : decode cX12_advance 312 = .ok (.iconst 4, 1) := by decide +kernel
theorem dX12_advance_313 : decode cX12_advance 313 = .ok (.putfield 103, 3) := by decide +kernel
theorem dX12_advance_316 : decode cX12_advance 316 = .ok (.return_, 1) := by decide +kernel
set_option maxRecDepth 20000 in
theorem b_X12_advance_0 {k n : Nat} {x : Wx} {Z : Zt} {Q : Option Value → Wx → Zt → Prop} {a0 : Nat} (o_a0 : Is12 x a0)
    (h : ∃ g1 : Nat → Int, (∃ g2 : Nat, (MB Z a0 g1 g2 ∧ (0 ≤ (Z a0 3) ∧ (Z a0 3) ≤ 600) ∧ (Rg (bya g1 g2 (Z a0 3)) ∧ (((bya g1 g2 (Z a0 3) = 10) → (V mX12_advance k n 26 [some (r_ a0), none, none] [] x Z Q)) ∧ ((bya g1 g2 (Z a0 3) ≠ 10) → (∃ g3 : Nat → Int, (∃ g4 : Nat, (MB Z a0 g3 g4 ∧ (0 ≤ (Z a0 3) ∧ (Z a0 3) ≤ 600) ∧ (Rg (bya g3 g4 (Z a0 3)) ∧ (((bya g3 g4 (Z a0 3) ≠ 32) → (∀ Z1 : Zt, Z1 = up Z a0 4 (Z a0 3) → (∃ g5 : Nat → Int, (∃ g6 : Nat, (MB Z1 a0 g5 g6 ∧ (0 ≤ (Z1 a0 3) ∧ (Z1 a0 3) ≤ 600) ∧ (Rg (bya g5 g6 (Z1 a0 3)) ∧ (((0 ≤ bya g5 g6 (Z1 a0 3)) → (∀ (r1 : Int), (((r1 = 1 ∧ 97 ≤ (bya g5 g6 (Z1 a0 3)) ∧ (bya g5 g6 (Z1 a0 3)) ≤ 122) ∨ (r1 = 0 ∧ ((bya g5 g6 (Z1 a0 3)) < 97 ∨ 122 < (bya g5 g6 (Z1 a0 3)))))) → (Rg r1 ∧ (((r1 = 0) → (∀ (r2 : Int), (((r2 = 1 ∧ 48 ≤ (bya g5 g6 (Z1 a0 3)) ∧ (bya g5 g6 (Z1 a0 3)) ≤ 57) ∨ (r2 = 0 ∧ ((bya g5 g6 (Z1 a0 3)) < 48 ∨ 57 < (bya g5 g6 (Z1 a0 3)))))) → (Rg r2 ∧ (((r2 = 0) → (∀ Z2 : Zt, Z2 = up Z1 a0 3 ((Z1 a0 3) + 1) → (((bya g5 g6 (Z1 a0 3) ≠ 59) → (((bya g5 g6 (Z1 a0 3) ≠ 45) → (V mX12_advance k n 313 [none, none, none] [i_ 4, r_ a0] x Z2 Q)) ∧ ((bya g5 g6 (Z1 a0 3) = 45) → (V mX12_advance k n 313 [none, none, none] [i_ 5, r_ a0] x Z2 Q)))) ∧ ((bya g5 g6 (Z1 a0 3) = 59) → (V mX12_advance k n 313 [none, none, none] [i_ 2, r_ a0] x Z2 Q))))) ∧ ((r2 ≠ 0) → (∀ Z3 : Zt, Z3 = up Z1 a0 6 0 → (V mX12_advance k n 193 [some (r_ a0), none, none] [] x Z3 Q))))))) ∧ ((r1 ≠ 0) → (V mX12_advance k n 77 [some (r_ a0), none, some (i_ 0)] [] x Z1 Q)))))) ∧ ((bya g5 g6 (Z1 a0 3) < 0) → (∀ Z4 : Zt, Z4 = up Z1 a0 5 0 → (Q none x Z4)))))))))) ∧ ((bya g3 g4 (Z a0 3) = 32) → (V mX12_advance k n 26 [some (r_ a0), none, none] [] x Z Q))))))))))))) :
    V mX12_advance k n 0 [some (r_ a0), none, none] [] x Z Q :=
  V_aload_n dX12_advance_0 rfl (V_aload_n dX12_advance_1 rfl (G_12_3 o_a0.1 lf_12_93 dX12_advance_2 (Exists.elim h (fun g1 w1 => Exists.elim w1 (fun g2 w2 => V_callV (k' := 0) (n' := 0) (t := 12) (q := (RX12, TX12, 46)) [i_ (Z a0 3)] [] okX12_byteAt o_a0.1 rfl rfl lm_12_96 liX12_byteAt lqX12_byteAt (Nat.le_of_ble_eq_true rfl) (Nat.le_of_ble_eq_true rfl) (Nat.le_of_ble_eq_true rfl) (cat_of rfl) (Nat.le_of_ble_eq_true rfl) (Nat.zero_le _) (Nat.zero_le _) rfl dX12_advance_5 (sp_X12_byteAt o_a0 w2.1 w2.2.1 (V_bipush dX12_advance_8 rfl (V_icmp_eq (tgt := 26) dX12_advance_10 rfl w2.2.2.1 (rg_c rfl) (fun c1 => V_msk [true, false, false] rfl (w2.2.2.2.1 c1)) (fun c1 => V_aload_n dX12_advance_13 rfl (V_aload_n dX12_advance_14 rfl (G_12_3 o_a0.1 lf_12_93 dX12_advance_15 (Exists.elim (w2.2.2.2.2 c1) (fun g3 w3 => Exists.elim w3 (fun g4 w4 => V_callV (k' := 0) (n' := 0) (t := 12) (q := (RX12, TX12, 46)) [i_ (Z a0 3)] [] okX12_byteAt o_a0.1 rfl rfl lm_12_96 liX12_byteAt lqX12_byteAt (Nat.le_of_ble_eq_true rfl) (Nat.le_of_ble_eq_true rfl) (Nat.le_of_ble_eq_true rfl) (cat_of rfl) (Nat.le_of_ble_eq_true rfl) (Nat.zero_le _) (Nat.zero_le _) rfl dX12_advance_18 (sp_X12_byteAt o_a0 w4.1 w4.2.1 (V_bipush dX12_advance_21 rfl (V_icmp_ne (tgt := 39) dX12_advance_23 rfl w4.2.2.1 (rg_c rfl) (fun c2 => V_aload_n dX12_advance_39 rfl (V_aload_n dX12_advance_40 rfl (G_12_3 o_a0.1 lf_12_93 dX12_advance_41 (P_12_4 o_a0.1 lf_12_100 dX12_advance_44 (V_nmZ (fun Z1 eZ1 => V_aload_n dX12_advance_47 rfl (V_aload_n dX12_advance_48 rfl (G_12_3 o_a0.1 lf_12_93 dX12_advance_49 (Exists.elim ((w4.2.2.2.1 c2) Z1 eZ1) (fun g5 w5 => Exists.elim w5 (fun g6 w6 => V_callV (k' := 0) (n' := 0) (t := 12) (q := (RX12, TX12, 46)) [i_ (Z1 a0 3)] [] okX12_byteAt o_a0.1 rfl rfl lm_12_96 liX12_byteAt lqX12_byteAt (Nat.le_of_ble_eq_true rfl) (Nat.le_of_ble_eq_true rfl) (Nat.le_of_ble_eq_true rfl) (cat_of rfl) (Nat.le_of_ble_eq_true rfl) (Nat.zero_le _) (Nat.zero_le _) rfl dX12_advance_52 (sp_X12_byteAt o_a0 w6.1 w6.2.1 (V_istore_n (lv' := [some (r_ a0), some (i_ (bya g5 g6 (Z1 a0 3))), none]) dX12_advance_55 (Nat.le_of_ble_eq_true rfl) rfl (V_iload_n dX12_advance_56 rfl (V_if_ge (tgt := 68) dX12_advance_57 rfl w6.2.2.1 (fun c3 => V_iload_n dX12_advance_68 rfl (V_callS (k' := 0) (n' := 0) [i_ (bya g5 g6 (Z1 a0 3))] [] okX12_isLetter lm_12_106 lsX12_isLetter (Nat.le_of_ble_eq_true rfl) (Nat.le_of_ble_eq_true rfl) (Nat.le_of_ble_eq_true rfl) (cat_of rfl) (Nat.le_of_ble_eq_true rfl) (Nat.zero_le _) (Nat.zero_le _) rfl dX12_advance_69 (sp_X12_isLetter  w6.2.2.1 (fun r1 p1 => V_if_eq (tgt := 181) dX12_advance_72 rfl ((w6.2.2.2.1 c3) r1 p1).1 (fun c4 => V_iload_n dX12_advance_181 rfl (V_callS (k' := 0) (n' := 0) [i_ (bya g5 g6 (Z1 a0 3))] [] okX12_isDigit lm_12_116 lsX12_isDigit (Nat.le_of_ble_eq_true rfl) (Nat.le_of_ble_eq_true rfl) (Nat.le_of_ble_eq_true rfl) (cat_of rfl) (Nat.le_of_ble_eq_true rfl) (Nat.zero_le _) (Nat.zero_le _) rfl dX12_advance_182 (sp_X12_isDigit  w6.2.2.1 (fun r2 p2 => V_if_eq (tgt := 281) dX12_advance_185 rfl ((((w6.2.2.2.1 c3) r1 p1).2.1 c4) r2 p2).1 (fun c5 => V_aload_n dX12_advance_281 rfl (V_dup dX12_advance_282 rfl (G_12_3 o_a0.1 lf_12_93 dX12_advance_283 (V_iconst dX12_advance_286 (V_iadd dX12_advance_287 (P_12_3 o_a0.1 lf_12_93 dX12_advance_288 (V_nmZ (fun Z2 eZ2 => V_aload_n dX12_advance_291 rfl (V_iload_n dX12_advance_292 rfl (V_bipush dX12_advance_293 rfl (V_icmp_ne (tgt := 302) dX12_advance_295 rfl w6.2.2.1 (rg_c rfl) (fun c6 => V_iload_n dX12_advance_302 rfl (V_bipush dX12_advance_303 rfl (V_icmp_ne (tgt := 312) dX12_advance_305 rfl w6.2.2.1 (rg_c rfl) (fun c7 => V_iconst dX12_advance_312 (V_msk [false, false, false] rfl ((((((((w6.2.2.2.1 c3) r1 p1).2.1 c4) r2 p2).2.1 c5) Z2 eZ2).1 c6).1 c7))) (fun c7 => V_iconst dX12_advance_308 (V_goto (tgt := 313) dX12_advance_309 rfl (V_msk [false, false, false] rfl ((((((((w6.2.2.2.1 c3) r1 p1).2.1 c4) r2 p2).2.1 c5) Z2 eZ2).1 c6).2 c7))))))) (fun c6 => V_iconst dX12_advance_298 (V_goto (tgt := 313) dX12_advance_299 rfl (V_msk [false, false, false] rfl (((((((w6.2.2.2.1 c3) r1 p1).2.1 c4) r2 p2).2.1 c5) Z2 eZ2).2 c6))))))))))))))) (fun c5 => V_aload_n dX12_advance_188 rfl (V_iconst dX12_advance_189 (P_12_6 o_a0.1 lf_12_119 dX12_advance_190 (V_nmZ (fun Z3 eZ3 => V_msk [true, false, false] rfl ((((((w6.2.2.2.1 c3) r1 p1).2.1 c4) r2 p2).2.2 c5) Z3 eZ3)))))))))) (fun c4 => V_iconst dX12_advance_75 (V_istore_n (lv' := [some (r_ a0), some (i_ (bya g5 g6 (Z1 a0 3))), some (i_ 0)]) dX12_advance_76 (Nat.le_of_ble_eq_true rfl) rfl (V_msk [true, false, true] rfl (((w6.2.2.2.1 c3) r1 p1).2.2 c4)))))))) (fun c3 => V_aload_n dX12_advance_60 rfl (V_iconst dX12_advance_61 (P_12_5 o_a0.1 lf_12_103 dX12_advance_62 (V_nmZ (fun Z4 eZ4 => V_goto (tgt := 316) dX12_advance_65 rfl (V_ret dX12_advance_316 rfl ((w6.2.2.2.2 c3) Z4 eZ4)))))))))))))))))))))) (fun c2 => V_msk [true, false, false] rfl (w4.2.2.2.2 c2)))))))))))))))))))
set_option maxRecDepth 20000 in
theorem b_X12_advance_26 {k n : Nat} {x : Wx} {Z : Zt} {Q : Option Value → Wx → Zt → Prop} {a0 : Nat} (o_a0 : Is12 x a0)
    (h : ∀ Z1 : Zt, Z1 = up Z a0 3 ((Z a0 3) + 1) → (V mX12_advance k n 0 [some (r_ a0), none, none] [] x Z1 Q)) :
    V mX12_advance k n 26 [some (r_ a0), none, none] [] x Z Q :=
  V_aload_n dX12_advance_26 rfl (V_dup dX12_advance_27 rfl (G_12_3 o_a0.1 lf_12_93 dX12_advance_28 (V_iconst dX12_advance_31 (V_iadd dX12_advance_32 (P_12_3 o_a0.1 lf_12_93 dX12_advance_33 (V_nmZ (fun Z1 eZ1 => V_goto (tgt := 0) dX12_advance_36 rfl (V_msk [true, false, false] rfl (h Z1 eZ1)))))))))
set_option maxRecDepth 20000 in
theorem b_X12_advance_77 {k n : Nat} {x : Wx} {Z : Zt} {Q : Option Value → Wx → Zt → Prop} {a0 : Nat} {v2 : Int} (o_a0 : Is12 x a0)
    (h : ∃ g1 : Nat → Int, (∃ g2 : Nat, (MB Z a0 g1 g2 ∧ (0 ≤ (Z a0 3) ∧ (Z a0 3) ≤ 600) ∧ (Rg (bya g1 g2 (Z a0 3)) ∧ (∀ (r1 : Int), (((r1 = 1 ∧ 97 ≤ (bya g1 g2 (Z a0 3)) ∧ (bya g1 g2 (Z a0 3)) ≤ 122) ∨ (r1 = 0 ∧ ((bya g1 g2 (Z a0 3)) < 97 ∨ 122 < (bya g1 g2 (Z a0 3)))))) → (Rg r1 ∧ (((r1 = 0) → (Rg ((Z a0 3) - (Z a0 4)) ∧ ((((Z a0 3) - (Z a0 4) ≤ 5) → (Rg v2 ∧ (V mX12_advance k n 157 [some (r_ a0), none, none] [i_ (wdO v2), r_ a0] x Z Q))) ∧ ((5 < (Z a0 3) - (Z a0 4)) → (V mX12_advance k n 157 [some (r_ a0), none, none] [i_ 99, r_ a0] x Z Q))))) ∧ ((r1 ≠ 0) → (Rg ((Z a0 3) - (Z a0 4)) ∧ (((5 ≤ (Z a0 3) - (Z a0 4)) → (V mX12_advance k n 121 [some (r_ a0), none, some (i_ v2)] [] x Z Q)) ∧ (((Z a0 3) - (Z a0 4) < 5) → (∃ g3 : Nat → Int, (∃ g4 : Nat, (MB Z a0 g3 g4 ∧ (0 ≤ (Z a0 3) ∧ (Z a0 3) ≤ 600) ∧ (V mX12_advance k n 121 [some (r_ a0), none, some (i_ (((32 * v2) + (bya g3 g4 (Z a0 3))) - 96))] [] x Z Q))))))))))))))) :
    V mX12_advance k n 77 [some (r_ a0), none, some (i_ v2)] [] x Z Q :=
  V_aload_n dX12_advance_77 rfl (V_aload_n dX12_advance_78 rfl (G_12_3 o_a0.1 lf_12_93 dX12_advance_79 (Exists.elim h (fun g1 w1 => Exists.elim w1 (fun g2 w2 => V_callV (k' := 0) (n' := 0) (t := 12) (q := (RX12, TX12, 46)) [i_ (Z a0 3)] [] okX12_byteAt o_a0.1 rfl rfl lm_12_96 liX12_byteAt lqX12_byteAt (Nat.le_of_ble_eq_true rfl) (Nat.le_of_ble_eq_true rfl) (Nat.le_of_ble_eq_true rfl) (cat_of rfl) (Nat.le_of_ble_eq_true rfl) (Nat.zero_le _) (Nat.zero_le _) rfl dX12_advance_82 (sp_X12_byteAt o_a0 w2.1 w2.2.1 (V_callS (k' := 0) (n' := 0) [i_ (bya g1 g2 (Z a0 3))] [] okX12_isLetter lm_12_106 lsX12_isLetter (Nat.le_of_ble_eq_true rfl) (Nat.le_of_ble_eq_true rfl) (Nat.le_of_ble_eq_true rfl) (cat_of rfl) (Nat.le_of_ble_eq_true rfl) (Nat.zero_le _) (Nat.zero_le _) rfl dX12_advance_85 (sp_X12_isLetter  w2.2.2.1 (fun r1 p1 => V_if_eq (tgt := 134) dX12_advance_88 rfl (w2.2.2.2 r1 p1).1 (fun c1 => V_aload_n dX12_advance_134 rfl (V_aload_n dX12_advance_135 rfl (G_12_3 o_a0.1 lf_12_93 dX12_advance_136 (V_aload_n dX12_advance_139 rfl (G_12_4 o_a0.1 lf_12_100 dX12_advance_140 (V_isub dX12_advance_143 (V_iconst dX12_advance_144 (V_icmp_le (tgt := 153) dX12_advance_145 rfl ((w2.2.2.2 r1 p1).2.1 c1).1 (rg_c rfl) (fun c2 => V_iload_n dX12_advance_153 rfl (V_callS (k' := 0) (n' := 0) [i_ v2] [r_ a0] okX12_wordOf lm_12_110 lsX12_wordOf (Nat.le_of_ble_eq_true rfl) (Nat.le_of_ble_eq_true rfl) (Nat.le_of_ble_eq_true rfl) (cat_of rfl) (Nat.le_of_ble_eq_true rfl) (Nat.zero_le _) (Nat.zero_le _) rfl dX12_advance_154 (sp_X12_wordOf  (((w2.2.2.2 r1 p1).2.1 c1).2.1 c2).1 (V_msk [true, false, false] rfl (((w2.2.2.2 r1 p1).2.1 c1).2.1 c2).2)))) (fun c2 => V_bipush dX12_advance_148 rfl (V_goto (tgt := 157) dX12_advance_150 rfl (V_msk [true, false, false] rfl (((w2.2.2.2 r1 p1).2.1 c1).2.2 c2)))))))))))) (fun c1 => V_aload_n dX12_advance_91 rfl (G_12_3 o_a0.1 lf_12_93 dX12_advance_92 (V_aload_n dX12_advance_95 rfl (G_12_4 o_a0.1 lf_12_100 dX12_advance_96 (V_isub dX12_advance_99 (V_iconst dX12_advance_100 (V_icmp_ge (tgt := 121) dX12_advance_101 rfl ((w2.2.2.2 r1 p1).2.2 c1).1 (rg_c rfl) (fun c3 => V_msk [true, false, true] rfl (((w2.2.2.2 r1 p1).2.2 c1).2.1 c3)) (fun c3 => V_bipush dX12_advance_104 rfl (V_iload_n dX12_advance_106 rfl (V_imul dX12_advance_107 (V_aload_n dX12_advance_108 rfl (V_aload_n dX12_advance_109 rfl (G_12_3 o_a0.1 lf_12_93 dX12_advance_110 (Exists.elim (((w2.2.2.2 r1 p1).2.2 c1).2.2 c3) (fun g3 w3 => Exists.elim w3 (fun g4 w4 => V_callV (k' := 0) (n' := 0) (t := 12) (q := (RX12, TX12, 46)) [i_ (Z a0 3)] [i_ (32 * v2)] okX12_byteAt o_a0.1 rfl rfl lm_12_96 liX12_byteAt lqX12_byteAt (Nat.le_of_ble_eq_true rfl) (Nat.le_of_ble_eq_true rfl) (Nat.le_of_ble_eq_true rfl) (cat_of rfl) (Nat.le_of_ble_eq_true rfl) (Nat.zero_le _) (Nat.zero_le _) rfl dX12_advance_113 (sp_X12_byteAt o_a0 w4.1 w4.2.1 (V_iadd dX12_advance_116 (V_bipush dX12_advance_117 rfl (V_isub dX12_advance_119 (V_istore_n (lv' := [some (r_ a0), none, some (i_ (((32 * v2) + (bya g3 g4 (Z a0 3))) - 96))]) dX12_advance_120 (Nat.le_of_ble_eq_true rfl) rfl (V_msk [true, false, true] rfl w4.2.2)))))))))))))))))))))))))))))))
set_option maxRecDepth 20000 in
theorem b_X12_advance_121 {k n : Nat} {x : Wx} {Z : Zt} {Q : Option Value → Wx → Zt → Prop} {a0 : Nat} {v2 : Int} (o_a0 : Is12 x a0)
    (h : ∀ Z1 : Zt, Z1 = up Z a0 3 ((Z a0 3) + 1) → (V mX12_advance k n 77 [some (r_ a0), none, some (i_ v2)] [] x Z1 Q)) :
    V mX12_advance k n 121 [some (r_ a0), none, some (i_ v2)] [] x Z Q :=
  V_aload_n dX12_advance_121 rfl (V_dup dX12_advance_122 rfl (G_12_3 o_a0.1 lf_12_93 dX12_advance_123 (V_iconst dX12_advance_126 (V_iadd dX12_advance_127 (P_12_3 o_a0.1 lf_12_93 dX12_advance_128 (V_nmZ (fun Z1 eZ1 => V_goto (tgt := 77) dX12_advance_131 rfl (V_msk [true, false, true] rfl (h Z1 eZ1)))))))))
set_option maxRecDepth 20000 in
theorem b_X12_advance_157 {k n : Nat} {x : Wx} {Z : Zt} {Q : Option Value → Wx → Zt → Prop} {a0 : Nat} {b0_ : Nat} {t1 : Int} (o_b0 : Is12 x b0_) (o_a0 : Is12 x a0)
    (h : ∀ Z1 : Zt, Z1 = up Z b0_ 7 t1 → (Rg (Z1 a0 7) ∧ (((Z1 a0 7 ≠ 99) → (V mX12_advance k n 175 [none, none, none] [i_ 3, r_ a0] x Z1 Q)) ∧ ((Z1 a0 7 = 99) → (V mX12_advance k n 175 [none, none, none] [i_ 4, r_ a0] x Z1 Q))))) :
    V mX12_advance k n 157 [some (r_ a0), none, none] [i_ t1, r_ b0_] x Z Q :=
  P_12_7 o_b0.1 lf_12_113 dX12_advance_157 (V_nmZ (fun Z1 eZ1 => V_aload_n dX12_advance_160 rfl (V_aload_n dX12_advance_161 rfl (G_12_7 o_a0.1 lf_12_113 dX12_advance_162 (V_bipush dX12_advance_165 rfl (V_icmp_ne (tgt := 174) dX12_advance_167 rfl (h Z1 eZ1).1 (rg_c rfl) (fun c1 => V_iconst dX12_advance_174 (V_msk [false, false, false] rfl ((h Z1 eZ1).2.1 c1))) (fun c1 => V_iconst dX12_advance_170 (V_goto (tgt := 175) dX12_advance_171 rfl (V_msk [false, false, false] rfl ((h Z1 eZ1).2.2 c1))))))))))
set_option maxRecDepth 20000 in
theorem b_X12_advance_175 {k n : Nat} {x : Wx} {Z : Zt} {Q : Option Value → Wx → Zt → Prop} {b0_ : Nat} {t1 : Int} (o_b0 : Is12 x b0_)
    (h : ∀ Z1 : Zt, Z1 = up Z b0_ 5 t1 → (Q none x Z1)) :
    V mX12_advance k n 175 [none, none, none] [i_ t1, r_ b0_] x Z Q :=
  P_12_5 o_b0.1 lf_12_103 dX12_advance_175 (V_nmZ (fun Z1 eZ1 => V_goto (tgt := 316) dX12_advance_178 rfl (V_ret dX12_advance_316 rfl (h Z1 eZ1))))
set_option maxRecDepth 20000 in
theorem b_X12_advance_193 {k n : Nat} {x : Wx} {Z : Zt} {Q : Option Value → Wx → Zt → Prop} {a0 : Nat} (o_a0 : Is12 x a0)
    (h : ∃ g1 : Nat → Int, (∃ g2 : Nat, (MB Z a0 g1 g2 ∧ (0 ≤ (Z a0 3) ∧ (Z a0 3) ≤ 600) ∧ (Rg (bya g1 g2 (Z a0 3)) ∧ (∀ (r1 : Int), (((r1 = 1 ∧ 48 ≤ (bya g1 g2 (Z a0 3)) ∧ (bya g1 g2 (Z a0 3)) ≤ 57) ∨ (r1 = 0 ∧ ((bya g1 g2 (Z a0 3)) < 48 ∨ 57 < (bya g1 g2 (Z a0 3)))))) → (Rg r1 ∧ (((r1 = 0) → (Rg ((Z a0 3) - (Z a0 4)) ∧ ((((Z a0 3) - (Z a0 4) ≤ 2) → (V mX12_advance k n 275 [none, none, none] [i_ 1, r_ a0] x Z Q)) ∧ ((2 < (Z a0 3) - (Z a0 4)) → (V mX12_advance k n 275 [none, none, none] [i_ 4, r_ a0] x Z Q))))) ∧ ((r1 ≠ 0) → (Rg ((Z a0 3) - (Z a0 4)) ∧ (((2 ≤ (Z a0 3) - (Z a0 4)) → (V mX12_advance k n 243 [some (r_ a0), none, none] [] x Z Q)) ∧ (((Z a0 3) - (Z a0 4) < 2) → (∃ g3 : Nat → Int, (∃ g4 : Nat, (MB Z a0 g3 g4 ∧ (0 ≤ (Z a0 3) ∧ (Z a0 3) ≤ 600) ∧ (∀ Z1 : Zt, Z1 = up Z a0 6 (((10 * (Z a0 6)) + (bya g3 g4 (Z a0 3))) - 48) → (V mX12_advance k n 243 [some (r_ a0), none, none] [] x Z1 Q)))))))))))))))) :
    V mX12_advance k n 193 [some (r_ a0), none, none] [] x Z Q :=
  V_aload_n dX12_advance_193 rfl (V_aload_n dX12_advance_194 rfl (G_12_3 o_a0.1 lf_12_93 dX12_advance_195 (Exists.elim h (fun g1 w1 => Exists.elim w1 (fun g2 w2 => V_callV (k' := 0) (n' := 0) (t := 12) (q := (RX12, TX12, 46)) [i_ (Z a0 3)] [] okX12_byteAt o_a0.1 rfl rfl lm_12_96 liX12_byteAt lqX12_byteAt (Nat.le_of_ble_eq_true rfl) (Nat.le_of_ble_eq_true rfl) (Nat.le_of_ble_eq_true rfl) (cat_of rfl) (Nat.le_of_ble_eq_true rfl) (Nat.zero_le _) (Nat.zero_le _) rfl dX12_advance_198 (sp_X12_byteAt o_a0 w2.1 w2.2.1 (V_callS (k' := 0) (n' := 0) [i_ (bya g1 g2 (Z a0 3))] [] okX12_isDigit lm_12_116 lsX12_isDigit (Nat.le_of_ble_eq_true rfl) (Nat.le_of_ble_eq_true rfl) (Nat.le_of_ble_eq_true rfl) (cat_of rfl) (Nat.le_of_ble_eq_true rfl) (Nat.zero_le _) (Nat.zero_le _) rfl dX12_advance_201 (sp_X12_isDigit  w2.2.2.1 (fun r1 p1 => V_if_eq (tgt := 256) dX12_advance_204 rfl (w2.2.2.2 r1 p1).1 (fun c1 => V_aload_n dX12_advance_256 rfl (V_aload_n dX12_advance_257 rfl (G_12_3 o_a0.1 lf_12_93 dX12_advance_258 (V_aload_n dX12_advance_261 rfl (G_12_4 o_a0.1 lf_12_100 dX12_advance_262 (V_isub dX12_advance_265 (V_iconst dX12_advance_266 (V_icmp_le (tgt := 274) dX12_advance_267 rfl ((w2.2.2.2 r1 p1).2.1 c1).1 (rg_c rfl) (fun c2 => V_iconst dX12_advance_274 (V_msk [false, false, false] rfl (((w2.2.2.2 r1 p1).2.1 c1).2.1 c2))) (fun c2 => V_iconst dX12_advance_270 (V_goto (tgt := 275) dX12_advance_271 rfl (V_msk [false, false, false] rfl (((w2.2.2.2 r1 p1).2.1 c1).2.2 c2)))))))))))) (fun c1 => V_aload_n dX12_advance_207 rfl (G_12_3 o_a0.1 lf_12_93 dX12_advance_208 (V_aload_n dX12_advance_211 rfl (G_12_4 o_a0.1 lf_12_100 dX12_advance_212 (V_isub dX12_advance_215 (V_iconst dX12_advance_216 (V_icmp_ge (tgt := 243) dX12_advance_217 rfl ((w2.2.2.2 r1 p1).2.2 c1).1 (rg_c rfl) (fun c3 => V_msk [true, false, false] rfl (((w2.2.2.2 r1 p1).2.2 c1).2.1 c3)) (fun c3 => V_aload_n dX12_advance_220 rfl (V_bipush dX12_advance_221 rfl (V_aload_n dX12_advance_223 rfl (G_12_6 o_a0.1 lf_12_119 dX12_advance_224 (V_imul dX12_advance_227 (V_aload_n dX12_advance_228 rfl (V_aload_n dX12_advance_229 rfl (G_12_3 o_a0.1 lf_12_93 dX12_advance_230 (Exists.elim (((w2.2.2.2 r1 p1).2.2 c1).2.2 c3) (fun g3 w3 => Exists.elim w3 (fun g4 w4 => V_callV (k' := 0) (n' := 0) (t := 12) (q := (RX12, TX12, 46)) [i_ (Z a0 3)] [i_ (10 * (Z a0 6)), r_ a0] okX12_byteAt o_a0.1 rfl rfl lm_12_96 liX12_byteAt lqX12_byteAt (Nat.le_of_ble_eq_true rfl) (Nat.le_of_ble_eq_true rfl) (Nat.le_of_ble_eq_true rfl) (cat_of rfl) (Nat.le_of_ble_eq_true rfl) (Nat.zero_le _) (Nat.zero_le _) rfl dX12_advance_233 (sp_X12_byteAt o_a0 w4.1 w4.2.1 (V_iadd dX12_advance_236 (V_bipush dX12_advance_237 rfl (V_isub dX12_advance_239 (P_12_6 o_a0.1 lf_12_119 dX12_advance_240 (V_nmZ (fun Z1 eZ1 => V_msk [true, false, false] rfl (w4.2.2 Z1 eZ1)))))))))))))))))))))))))))))))))))
set_option maxRecDepth 20000 in
theorem b_X12_advance_243 {k n : Nat} {x : Wx} {Z : Zt} {Q : Option Value → Wx → Zt → Prop} {a0 : Nat} (o_a0 : Is12 x a0)
    (h : ∀ Z1 : Zt, Z1 = up Z a0 3 ((Z a0 3) + 1) → (V mX12_advance k n 193 [some (r_ a0), none, none] [] x Z1 Q)) :
    V mX12_advance k n 243 [some (r_ a0), none, none] [] x Z Q :=
  V_aload_n dX12_advance_243 rfl (V_dup dX12_advance_244 rfl (G_12_3 o_a0.1 lf_12_93 dX12_advance_245 (V_iconst dX12_advance_248 (V_iadd dX12_advance_249 (P_12_3 o_a0.1 lf_12_93 dX12_advance_250 (V_nmZ (fun Z1 eZ1 => V_goto (tgt := 193) dX12_advance_253 rfl (V_msk [true, false, false] rfl (h Z1 eZ1)))))))))
set_option maxRecDepth 20000 in
theorem b_X12_advance_275 {k n : Nat} {x : Wx} {Z : Zt} {Q : Option Value → Wx → Zt → Prop} {b0_ : Nat} {t1 : Int} (o_b0 : Is12 x b0_)
    (h : ∀ Z1 : Zt, Z1 = up Z b0_ 5 t1 → (Q none x Z1)) :
    V mX12_advance k n 275 [none, none, none] [i_ t1, r_ b0_] x Z Q :=
  P_12_5 o_b0.1 lf_12_103 dX12_advance_275 (V_nmZ (fun Z1 eZ1 => V_goto (tgt := 316) dX12_advance_278 rfl (V_ret dX12_advance_316 rfl (h Z1 eZ1))))
set_option maxRecDepth 20000 in
theorem b_X12_advance_313 {k n : Nat} {x : Wx} {Z : Zt} {Q : Option Value → Wx → Zt → Prop} {b0_ : Nat} {t1 : Int} (o_b0 : Is12 x b0_)
    (h : ∀ Z1 : Zt, Z1 = up Z b0_ 5 t1 → (Q none x Z1)) :
    V mX12_advance k n 313 [none, none, none] [i_ t1, r_ b0_] x Z Q :=
  P_12_5 o_b0.1 lf_12_103 dX12_advance_313 (V_nmZ (fun Z1 eZ1 => V_ret dX12_advance_316 rfl (h Z1 eZ1)))
def WW (s : Nat → Int) (q l : Nat) (tok wrd : Int) : Prop := (tok = 3 ∨ tok = 4) ∧ (tok = 3 → 1 ≤ wrd ∧ wrd ≤ 6) ∧ ((tok = 3 ∧ wrd = 1) ↔ wsB s q l 10 = true) ∧ ((tok = 3 ∧ wrd = 2) ↔ wsB s q l 11 = true) ∧ ((tok = 3 ∧ wrd = 3) ↔ wsB s q l 13 = true) ∧ ((tok = 3 ∧ wrd = 4) ↔ wsB s q l 12 = true) ∧ ((tok = 3 ∧ wrd = 5) ↔ wsB s q l 15 = true) ∧ ((tok = 3 ∧ wrd = 6) ↔ wsB s q l 14 = true)
theorem WW.short {s : Nat → Int} {q l : Nat} (hl : 1 ≤ l ∧ l ≤ 5) (hs : ∀ i : Nat, q ≤ i → i < q + l → 97 ≤ s i ∧ s i ≤ 122) {tok : Int} (ht : (wdO (wvS s q l) ≠ 99 ∧ tok = 3) ∨ (wdO (wvS s q l) = 99 ∧ tok = 4)) : WW s q l tok (wdO (wvS s q l)) := by
  obtain ⟨-, a1, a2, a3, a4, a5, a6⟩ := wv_words hl hs
  unfold WW
  rw [a1, a2, a3, a4, a5, a6]
  generalize wvS s q l = v at ht ⊢
  unfold wdO at ht ⊢
  by_cases c1 : v = 17376677
  · rw [if_pos c1] at ht ⊢; omega
  · rw [if_neg c1] at ht ⊢
    by_cases c2 : v = 3852997
    · rw [if_pos c2] at ht ⊢; omega
    · rw [if_neg c2] at ht ⊢
      by_cases c3 : v = 52
      · rw [if_pos c3] at ht ⊢; omega
      · rw [if_neg c3] at ht ⊢
        by_cases c4 : v = 6194
        · rw [if_pos c4] at ht ⊢; omega
        · rw [if_neg c4] at ht ⊢
          by_cases c5 : v = 24
          · rw [if_pos c5] at ht ⊢; omega
          · rw [if_neg c5] at ht ⊢
            by_cases c6 : v = 25
            · rw [if_pos c6] at ht ⊢; omega
            · rw [if_neg c6] at ht ⊢; omega
theorem WW.long {s : Nat → Int} {q l : Nat} (hl : 5 < l) (w : Int) : WW s q l 4 w := by
  have no : ∀ j : Nat, (wd j).length ≤ 5 → ((4 : Int) = 3 ∧ False ↔ wsB s q l j = true) := fun j hj => ⟨fun e => e.2.elim, fun e => by have := ((wsB_iff s q l j).mp e).1; omega⟩
  have no2 : ∀ (j : Nat) (u : Int), (wd j).length ≤ 5 → ((4 : Int) = 3 ∧ w = u ↔ wsB s q l j = true) := fun j u hj => ⟨fun e => absurd e.1 (by decide), fun e => by have := ((wsB_iff s q l j).mp e).1; omega⟩
  exact ⟨Or.inr rfl, fun e => absurd e (by decide), no2 10 1 (by decide), no2 11 2 (by decide), no2 13 3 (by decide), no2 12 4 (by decide), no2 15 5 (by decide), no2 14 6 (by decide)⟩
/-- the token at q, as the reference has it -/
def MTk (s : Nat → Int) (m q : Nat) (tok num wrd : Int) : Prop := (tokK s m q = 0 ∧ tok = 0) ∨ (tokK s m q = 2 ∧ tok = 1 ∧ num = vl10 s (tokE s m q - q) q 0) ∨ (tokK s m q = 3 ∧ tok = 5) ∨ (tokK s m q = 4 ∧ tok = 2) ∨ (tokK s m q = 5 ∧ tok = 4) ∨ (tokK s m q = 1 ∧ WW s q (tokE s m q - q) tok wrd)
def ADV (Z Z' : Zt) (b : Nat) (s : Nat → Int) (m p : Nat) : Prop := (∀ c, c ≠ b → Z' c = Z c) ∧ (∀ i : Nat, (i < 3 ∨ 7 < i) → Z' b i = Z b i) ∧ (Z' b 3 = (tokE s m (tokQ s m p) : Int) ∧ Z' b 4 = (tokQ s m p : Int)) ∧ MTk s m (tokQ s m p) (Z' b 5) (Z' b 6) (Z' b 7)
theorem sp_X12_advance {k n : Nat} {x : Wx} {Z : Zt} {Q : Option Value → Wx → Zt → Prop} {b : Nat} (o : Is12 x b) {s : Nat → Int} {m p : Nat} (hB : MB Z b s m) (hp : Z b 3 = (p : Int) ∧ p ≤ m) (h : ∀ Z' : Zt, ADV Z Z' b s m p → Q none x Z') : V mX12_advance k n 0 [some (r_ b), none, none] [] x Z Q := by
  obtain ⟨⟨e2, hm, hs⟩, hA⟩ := id hB
  have mb : ∀ g : Nat → Int, (∀ i : Nat, (i < 3 ∨ 7 < i) → g i = Z b i) → MB (setR Z b g) b s m := fun g hg => ⟨⟨by rw [setR_at, hg 2 (by omega)]; exact e2, hm, hs⟩, fun i hi => by rw [setR_ne _ _ (show b + 1 ≠ b by omega)]; exact hA i hi⟩
  obtain ⟨q, hq⟩ : ∃ q : Nat, tokQ s m p = q := ⟨_, rfl⟩
  have fin : ∀ g : Nat → Int, (∀ i : Nat, (i < 3 ∨ 7 < i) → g i = Z b i) → g 3 = (tokE s m q : Int) → g 4 = (q : Int) → MTk s m q (g 5) (g 6) (g 7) → Q none x (setR Z b g) := fun g hg h3 h4 hk => h _ ⟨fun c hc => setR_ne _ _ hc, fun i hi => by rw [setR_at]; exact hg i hi, by rw [setR_at, hq]; exact ⟨h3, h4⟩, by rw [setR_at, hq]; exact hk⟩
  have fr : ∀ (g : Nat → Int) (j : Nat) (v : Int), 3 ≤ j ∧ j ≤ 7 → (∀ i : Nat, (i < 3 ∨ 7 < i) → g i = Z b i) → ∀ i : Nat, (i < 3 ∨ 7 < i) → upf g j v i = Z b i := fun g j v hj hg i hi => by rw [upf_ne _ _ (by omega)]; exact hg i hi
  -- letters
  have lpL : ∀ (r p1 : Nat) (v : Int) (g : Nat → Int), g 3 = (p1 : Int) → p1 + r = m → q < m → ltr (s q) = true → q ≤ p1 → g 4 = (q : Int) → (∀ i : Nat, (i < 3 ∨ 7 < i) → g i = Z b i) → v = wvS s q (min (p1 - q) 5) → (∀ i : Nat, q ≤ i → i < p1 → ltr (s i) = true) → wh ltr s r p1 = wh ltr s (m - q) q → V mX12_advance k n 77 [some (r_ b), none, some (i_ v)] [] x (setR Z b g) Q := by
    intro r
    induction r with
    | zero =>
      intro p1 v g g3 hr hqm hlq hqp g4 hg hv hl hw
      have hw : p1 = wh ltr s (m - q) q := hw
      have hE : tokE s m q = p1 := by unfold tokE; rw [if_neg (by omega), if_pos hlq]; exact hw.symm
      have hK : tokK s m q = 1 := by unfold tokK; rw [if_neg (by omega), if_pos hlq]
      have hf := wh_first ltr s (m := m - q) (p := q) (by omega) hlq
      have hl2 : ∀ i : Nat, q ≤ i → i < q + (p1 - q) → 97 ≤ s i ∧ s i ≤ 122 := fun i h1 h2 => by have := hl i h1 (by omega); unfold ltr at this; rw [decide_eq_true_eq] at this; exact this
      refine b_X12_advance_77 o ⟨s, m, mb g hg, ?_⟩
      rw [setR_at, g3, g4]
      refine ⟨by omega, ⟨by have := bya_rg (s := s) (m := m) (v := (p1 : Int)); omega, by have := bya_rg (s := s) (m := m) (v := (p1 : Int)); omega⟩, fun r1 hr1 => ⟨⟨by omega, by omega⟩, fun _ => ⟨⟨by omega, by omega⟩, fun c5 => ?_, fun c5 => ?_⟩, fun c1 => ?_⟩⟩
      · rw [show min (p1 - q) 5 = p1 - q from by omega] at hv
        have hR := (wv_words (s := s) (q := q) (l := p1 - q) (by omega) hl2).1
        refine ⟨by rw [hv]; exact hR, b_X12_advance_157 o o (fun Z1 e1 => ?_)⟩
        rw [up_setR] at e1
        rw [e1, setR_at, upf_at, hv]
        have hd : Rg (wdO (wvS s q (p1 - q))) := by
          unfold wdO
          repeat' split
          all_goals exact ⟨by decide, by decide⟩
        refine ⟨hd, fun c6 => b_X12_advance_175 o (fun Z2 e3 => ?_), fun c6 => b_X12_advance_175 o (fun Z2 e3 => ?_)⟩
        · rw [e3, up_setR]
          refine fin _ (fr _ 5 _ (by omega) (fr _ 7 _ (by omega) hg)) (by rw [upf_ne _ _ (by decide), upf_ne _ _ (by decide), g3, hE]) (by rw [upf_ne _ _ (by decide), upf_ne _ _ (by decide), g4]) ?_
          rw [upf_at, upf_ne _ _ (show 7 ≠ 5 by decide), upf_at]
          exact Or.inr (Or.inr (Or.inr (Or.inr (Or.inr ⟨hK, by rw [hE]; exact WW.short (by omega) hl2 (Or.inl ⟨c6, rfl⟩)⟩))))
        · rw [e3, up_setR]
          refine fin _ (fr _ 5 _ (by omega) (fr _ 7 _ (by omega) hg)) (by rw [upf_ne _ _ (by decide), upf_ne _ _ (by decide), g3, hE]) (by rw [upf_ne _ _ (by decide), upf_ne _ _ (by decide), g4]) ?_
          rw [upf_at, upf_ne _ _ (show 7 ≠ 5 by decide), upf_at]
          exact Or.inr (Or.inr (Or.inr (Or.inr (Or.inr ⟨hK, by rw [hE]; exact WW.short (by omega) hl2 (Or.inr ⟨c6, rfl⟩)⟩))))
      · refine b_X12_advance_157 o o (fun Z1 e1 => ?_)
        rw [up_setR] at e1
        rw [e1, setR_at, upf_at]
        refine ⟨⟨by decide, by decide⟩, fun c6 => absurd rfl c6, fun c6 => b_X12_advance_175 o (fun Z2 e3 => ?_)⟩
        rw [e3, up_setR]
        refine fin _ (fr _ 5 _ (by omega) (fr _ 7 _ (by omega) hg)) (by rw [upf_ne _ _ (by decide), upf_ne _ _ (by decide), g3, hE]) (by rw [upf_ne _ _ (by decide), upf_ne _ _ (by decide), g4]) ?_
        rw [upf_at, upf_ne _ _ (show 7 ≠ 5 by decide), upf_at]
        exact Or.inr (Or.inr (Or.inr (Or.inr (Or.inr ⟨hK, by rw [hE]; exact WW.long (by omega) _⟩))))
      · rw [bya_out (by omega)] at hr1; omega
    | succ r ih =>
      intro p1 v g g3 hr hqm hlq hqp g4 hg hv hl hw
      have hrg : Rg (bya s m (p1 : Int)) := ⟨by have := bya_rg (s := s) (m := m) (v := (p1 : Int)); omega, by have := bya_rg (s := s) (m := m) (v := (p1 : Int)); omega⟩
      have hbl := bya_ltr (p := p1) hs (show p1 < m by omega) hm
      by_cases cl : ltr (s p1) = true
      · have hw2 : wh ltr s r (p1 + 1) = wh ltr s (m - q) q := by rw [← hw]; show _ = (if ltr (s p1) = true then _ else _); rw [if_pos cl]
        have hll : ∀ i : Nat, q ≤ i → i < p1 + 1 → ltr (s i) = true := fun i h1 h2 => by
          by_cases ci : i = p1
          · rw [ci]; exact cl
          · exact hl i h1 (by omega)
        have hsp : bya s m (p1 : Int) = s p1 := by
          rw [bya_in (by omega)]
          unfold ltr at cl
          rw [decide_eq_true_eq] at cl
          omega
        have go : ∀ v' : Int, v' = wvS s q (min (p1 + 1 - q) 5) → V mX12_advance k n 121 [some (r_ b), none, some (i_ v')] [] x (setR Z b g) Q := fun v' hv' => by
          refine b_X12_advance_121 o (fun Z1 e1 => ?_)
          rw [up_setR, setR_at, g3] at e1
          rw [e1]
          exact ih (p1 + 1) v' _ (by rw [upf_at]; omega) (by omega) hqm hlq (by omega) (by rw [upf_ne _ _ (by decide)]; exact g4) (fr _ 3 _ (by omega) hg) hv' hll hw2
        refine b_X12_advance_77 o ⟨s, m, mb g hg, ?_⟩
        rw [setR_at, g3, g4]
        refine ⟨by omega, hrg, fun r1 hr1 => ⟨⟨by omega, by omega⟩, fun c1 => by have := hbl.mp cl; omega, fun c1 => ⟨⟨by omega, by omega⟩, fun c5 => go v ?_, fun c5 => ⟨s, m, mb g hg, by omega, go _ ?_⟩⟩⟩⟩
        · rw [hv, show min (p1 - q) 5 = 5 from by omega, show min (p1 + 1 - q) 5 = 5 from by omega]
        · rw [hsp, hv, show min (p1 - q) 5 = p1 - q from by omega, show min (p1 + 1 - q) 5 = p1 - q + 1 from by omega]
          show _ = 32 * wvS s q (p1 - q) + s (q + (p1 - q)) - 96
          rw [show q + (p1 - q) = p1 from by omega]
      · have hw2 : p1 = wh ltr s (m - q) q := by rw [← hw]; show _ = (if ltr (s p1) = true then _ else _); rw [if_neg cl]
        have hE : tokE s m q = p1 := by unfold tokE; rw [if_neg (by omega), if_pos hlq]; exact hw2.symm
        have hK : tokK s m q = 1 := by unfold tokK; rw [if_neg (by omega), if_pos hlq]
        have hf := wh_first ltr s (m := m - q) (p := q) (by omega) hlq
        have hl2 : ∀ i : Nat, q ≤ i → i < q + (p1 - q) → 97 ≤ s i ∧ s i ≤ 122 := fun i h1 h2 => by have := hl i h1 (by omega); unfold ltr at this; rw [decide_eq_true_eq] at this; exact this
        refine b_X12_advance_77 o ⟨s, m, mb g hg, ?_⟩
        rw [setR_at, g3, g4]
        refine ⟨by omega, hrg, fun r1 hr1 => ⟨⟨by omega, by omega⟩, fun _ => ⟨⟨by omega, by omega⟩, fun c5 => ?_, fun c5 => ?_⟩, fun c1 => ?_⟩⟩
        · rw [show min (p1 - q) 5 = p1 - q from by omega] at hv
          have hR := (wv_words (s := s) (q := q) (l := p1 - q) (by omega) hl2).1
          refine ⟨by rw [hv]; exact hR, b_X12_advance_157 o o (fun Z1 e1 => ?_)⟩
          rw [up_setR] at e1
          rw [e1, setR_at, upf_at, hv]
          have hd : Rg (wdO (wvS s q (p1 - q))) := by
            unfold wdO
            repeat' split
            all_goals exact ⟨by decide, by decide⟩
          refine ⟨hd, fun c6 => b_X12_advance_175 o (fun Z2 e3 => ?_), fun c6 => b_X12_advance_175 o (fun Z2 e3 => ?_)⟩
          · rw [e3, up_setR]
            refine fin _ (fr _ 5 _ (by omega) (fr _ 7 _ (by omega) hg)) (by rw [upf_ne _ _ (by decide), upf_ne _ _ (by decide), g3, hE]) (by rw [upf_ne _ _ (by decide), upf_ne _ _ (by decide), g4]) ?_
            rw [upf_at, upf_ne _ _ (show 7 ≠ 5 by decide), upf_at]
            exact Or.inr (Or.inr (Or.inr (Or.inr (Or.inr ⟨hK, by rw [hE]; exact WW.short (by omega) hl2 (Or.inl ⟨c6, rfl⟩)⟩))))
          · rw [e3, up_setR]
            refine fin _ (fr _ 5 _ (by omega) (fr _ 7 _ (by omega) hg)) (by rw [upf_ne _ _ (by decide), upf_ne _ _ (by decide), g3, hE]) (by rw [upf_ne _ _ (by decide), upf_ne _ _ (by decide), g4]) ?_
            rw [upf_at, upf_ne _ _ (show 7 ≠ 5 by decide), upf_at]
            exact Or.inr (Or.inr (Or.inr (Or.inr (Or.inr ⟨hK, by rw [hE]; exact WW.short (by omega) hl2 (Or.inr ⟨c6, rfl⟩)⟩))))
        · refine b_X12_advance_157 o o (fun Z1 e1 => ?_)
          rw [up_setR] at e1
          rw [e1, setR_at, upf_at]
          refine ⟨⟨by decide, by decide⟩, fun c6 => absurd rfl c6, fun c6 => b_X12_advance_175 o (fun Z2 e3 => ?_)⟩
          rw [e3, up_setR]
          refine fin _ (fr _ 5 _ (by omega) (fr _ 7 _ (by omega) hg)) (by rw [upf_ne _ _ (by decide), upf_ne _ _ (by decide), g3, hE]) (by rw [upf_ne _ _ (by decide), upf_ne _ _ (by decide), g4]) ?_
          rw [upf_at, upf_ne _ _ (show 7 ≠ 5 by decide), upf_at]
          exact Or.inr (Or.inr (Or.inr (Or.inr (Or.inr ⟨hK, by rw [hE]; exact WW.long (by omega) _⟩))))
        · exact absurd (hbl.mpr (by omega)) cl
  -- digits
  have lpD : ∀ (r p1 : Nat) (g : Nat → Int), g 3 = (p1 : Int) → p1 + r = m → q < m → ltr (s q) = false → dgt (s q) = true → q ≤ p1 → g 4 = (q : Int) → (∀ i : Nat, (i < 3 ∨ 7 < i) → g i = Z b i) → g 6 = vl10 s (min (p1 - q) 2) q 0 → wh dgt s r p1 = wh dgt s (m - q) q → V mX12_advance k n 193 [some (r_ b), none, none] [] x (setR Z b g) Q := by
    intro r p1 g g3 hr hqm hnl hdq hqp g4 hg hv hw
    have exD : ∀ (p1 : Nat) (g : Nat → Int), g 3 = (p1 : Int) → q ≤ p1 → p1 ≤ m → g 4 = (q : Int) → (∀ i : Nat, (i < 3 ∨ 7 < i) → g i = Z b i) → g 6 = vl10 s (min (p1 - q) 2) q 0 → p1 = wh dgt s (m - q) q → ∀ t : Int, ((p1 : Int) - q ≤ 2 ∧ t = 1) ∨ (2 < (p1 : Int) - q ∧ t = 4) → V mX12_advance k n 275 [none, none, none] [i_ t, r_ b] x (setR Z b g) Q := by
      intro p1 g g3 hqp hpm g4 hg hv hw t ht
      have hE : tokE s m q = p1 := by unfold tokE; rw [if_neg (by omega), if_neg (by rw [hnl]; decide), if_pos hdq]; exact hw.symm
      have hK : tokK s m q = if p1 ≤ q + 2 then 2 else 5 := by unfold tokK; rw [if_neg (by omega), if_neg (by rw [hnl]; decide), if_pos hdq, ← hw]
      refine b_X12_advance_275 o (fun Z1 e1 => ?_)
      rw [e1, up_setR]
      refine fin _ (fr _ 5 _ (by omega) hg) (by rw [upf_ne _ _ (by decide), g3, hE]) (by rw [upf_ne _ _ (by decide), g4]) ?_
      rw [upf_at, upf_ne _ _ (show 6 ≠ 5 by decide)]
      rcases ht with ⟨h1, h2⟩ | ⟨h1, h2⟩
      · rw [if_pos (by omega)] at hK
        refine Or.inr (Or.inl ⟨hK, h2, ?_⟩)
        rw [hv, hE, show min (p1 - q) 2 = p1 - q from by omega]
      · rw [if_neg (by omega)] at hK
        exact Or.inr (Or.inr (Or.inr (Or.inr (Or.inl ⟨hK, h2⟩))))
    revert p1 g
    induction r with
    | zero =>
      intro p1 g g3 hr hqp g4 hg hv hw
      have hw : p1 = wh dgt s (m - q) q := hw
      refine b_X12_advance_193 o ⟨s, m, mb g hg, ?_⟩
      rw [setR_at, g3, g4]
      refine ⟨by omega, ⟨by have := bya_rg (s := s) (m := m) (v := (p1 : Int)); omega, by have := bya_rg (s := s) (m := m) (v := (p1 : Int)); omega⟩, fun r1 hr1 => ⟨⟨by omega, by omega⟩, fun _ => ⟨⟨by omega, by omega⟩, fun c5 => exD p1 g g3 hqp (by omega) g4 hg hv hw 1 (Or.inl ⟨c5, rfl⟩), fun c5 => exD p1 g g3 hqp (by omega) g4 hg hv hw 4 (Or.inr ⟨c5, rfl⟩)⟩, fun c1 => ?_⟩⟩
      rw [bya_out (by omega)] at hr1; omega
    | succ r ih =>
      intro p1 g g3 hr hqp g4 hg hv hw
      have hrg : Rg (bya s m (p1 : Int)) := ⟨by have := bya_rg (s := s) (m := m) (v := (p1 : Int)); omega, by have := bya_rg (s := s) (m := m) (v := (p1 : Int)); omega⟩
      have hbl := bya_dgt (p := p1) hs (show p1 < m by omega) hm
      by_cases cl : dgt (s p1) = true
      · have hw2 : wh dgt s r (p1 + 1) = wh dgt s (m - q) q := by rw [← hw]; show _ = (if dgt (s p1) = true then _ else _); rw [if_pos cl]
        have hsp : bya s m (p1 : Int) = s p1 := by
          rw [bya_in (by omega)]
          unfold dgt at cl
          rw [decide_eq_true_eq] at cl
          omega
        have go : ∀ g' : Nat → Int, g' 3 = (p1 : Int) → g' 4 = (q : Int) → (∀ i : Nat, (i < 3 ∨ 7 < i) → g' i = Z b i) → g' 6 = vl10 s (min (p1 + 1 - q) 2) q 0 → V mX12_advance k n 243 [some (r_ b), none, none] [] x (setR Z b g') Q := fun g' h3 h4 hg' h6 => by
          refine b_X12_advance_243 o (fun Z1 e1 => ?_)
          rw [up_setR, setR_at, h3] at e1
          rw [e1]
          exact ih (p1 + 1) _ (by rw [upf_at]; omega) (by omega) (by omega) (by rw [upf_ne _ _ (by decide)]; exact h4) (fr _ 3 _ (by omega) hg') (by rw [upf_ne _ _ (by decide)]; exact h6) hw2
        refine b_X12_advance_193 o ⟨s, m, mb g hg, ?_⟩
        rw [setR_at, g3, g4]
        refine ⟨by omega, hrg, fun r1 hr1 => ⟨⟨by omega, by omega⟩, fun c1 => by have := hbl.mp cl; omega, fun c1 => ⟨⟨by omega, by omega⟩, fun c5 => go g g3 g4 hg ?_, fun c5 => ⟨s, m, mb g hg, by omega, fun Z1 e1 => ?_⟩⟩⟩⟩
        · rw [hv, show min (p1 - q) 2 = 2 from by omega, show min (p1 + 1 - q) 2 = 2 from by omega]
        · rw [up_setR] at e1
          rw [e1]
          refine go _ (by rw [upf_ne _ _ (by decide)]; exact g3) (by rw [upf_ne _ _ (by decide)]; exact g4) (fr _ 6 _ (by omega) hg) ?_
          rw [upf_at, hsp, hv, show min (p1 - q) 2 = p1 - q from by omega, show min (p1 + 1 - q) 2 = p1 - q + 1 from by omega, vl10_sn, show q + (p1 - q) = p1 from by omega]
      · have hw2 : p1 = wh dgt s (m - q) q := by rw [← hw]; show _ = (if dgt (s p1) = true then _ else _); rw [if_neg cl]
        refine b_X12_advance_193 o ⟨s, m, mb g hg, ?_⟩
        rw [setR_at, g3, g4]
        refine ⟨by omega, hrg, fun r1 hr1 => ⟨⟨by omega, by omega⟩, fun _ => ⟨⟨by omega, by omega⟩, fun c5 => exD p1 g g3 hqp (by omega) g4 hg hv hw2 1 (Or.inl ⟨c5, rfl⟩), fun c5 => exD p1 g g3 hqp (by omega) g4 hg hv hw2 4 (Or.inr ⟨c5, rfl⟩)⟩, fun c1 => absurd (hbl.mpr (by omega)) cl⟩⟩
  -- the token begins
  have tail : ∀ g : Nat → Int, g 3 = (q : Int) → (∀ i : Nat, (i < 3 ∨ 7 < i) → g i = Z b i) → q ≤ m → (q < m → blk (s q) = false) → V mX12_advance k n 0 [some (r_ b), none, none] [] x (setR Z b g) Q := by
    intro g g3 hg hqm hnb
    have hrg : Rg (bya s m (q : Int)) := ⟨by have := bya_rg (s := s) (m := m) (v := (q : Int)); omega, by have := bya_rg (s := s) (m := m) (v := (q : Int)); omega⟩
    have nb : bya s m (q : Int) ≠ 10 ∧ bya s m (q : Int) ≠ 32 := by
      by_cases c : q < m
      · have := bya_blk (p := q) hs c hm
        rw [hnb c] at this
        constructor
        · intro e; exact absurd (this.mpr (Or.inl e)) (by decide)
        · intro e; exact absurd (this.mpr (Or.inr e)) (by decide)
      · rw [bya_out (by omega)]; decide
    refine b_X12_advance_0 o ⟨s, m, mb g hg, ?_⟩
    rw [setR_at, g3]
    refine ⟨by omega, hrg, fun c => absurd c nb.1, fun _ => ⟨s, m, mb g hg, by omega, hrg, fun _ Z1 e1 => ?_, fun c => absurd c nb.2⟩⟩
    rw [up_setR] at e1
    have hg1 := fr g 4 (q : Int) (by omega) hg
    rw [e1]
    refine ⟨s, m, mb _ hg1, ?_⟩
    rw [setR_at, upf_ne _ _ (show 3 ≠ 4 by decide), g3]
    refine ⟨by omega, hrg, fun c0 r1 hr1 => ?_, fun c0 Z2 e2 => ?_⟩
    · have hqm2 : q < m := by
        by_cases c : q < m
        · exact c
        · rw [bya_out (by omega)] at c0; omega
      have hbl := bya_ltr (p := q) hs hqm2 hm
      have hbd := bya_dgt (p := q) hs hqm2 hm
      refine ⟨⟨by omega, by omega⟩, fun c1 r2 hr2 => ⟨⟨by omega, by omega⟩, fun c2 Z2 e2 => ?_, fun c2 Z2 e2 => ?_⟩, fun c1 => ?_⟩
      · have d1 : ltr (s q) = false := by
          cases hh : ltr (s q)
          · rfl
          · have := hbl.mp hh; omega
        have d2 : dgt (s q) = false := by
          cases hh : dgt (s q)
          · rfl
          · have := hbd.mp hh; omega
        have hE : tokE s m q = q + 1 := by unfold tokE; rw [if_neg (by omega), if_neg (by rw [d1]; decide), if_neg (by rw [d2]; decide)]
        have hK : tokK s m q = if s q = 45 then 3 else if s q = 59 then 4 else 5 := by unfold tokK; rw [if_neg (by omega), if_neg (by rw [d1]; decide), if_neg (by rw [d2]; decide)]
        rw [up_setR] at e2
        have h45 := bya_eq (p := q) hs hqm2 hm (c := 45) (by decide)
        have h59 := bya_eq (p := q) hs hqm2 hm (c := 59) (by decide)
        have go : ∀ t : Int, ((s q = 45 ∧ t = 5) ∨ (s q = 59 ∧ t = 2) ∨ (s q ≠ 45 ∧ s q ≠ 59 ∧ t = 4)) → V mX12_advance k n 313 [none, none, none] [i_ t, r_ b] x Z2 Q := fun t ht => by
          refine b_X12_advance_313 o (fun Z3 e3 => ?_)
          rw [e3, e2, up_setR]
          refine fin _ (fr _ 5 _ (by omega) (fr _ 3 _ (by omega) hg1)) (by rw [upf_ne _ _ (by decide), upf_at, hE]; omega) (by rw [upf_ne _ _ (by decide), upf_ne _ _ (by decide), upf_at]) ?_
          rw [upf_at]
          unfold MTk
          rw [hK]
          rcases ht with ⟨t1, t2⟩ | ⟨t1, t2⟩ | ⟨t1, t2, t3⟩
          · rw [if_pos t1]; exact Or.inr (Or.inr (Or.inl ⟨rfl, t2⟩))
          · rw [if_neg (by omega), if_pos t1]; exact Or.inr (Or.inr (Or.inr (Or.inl ⟨rfl, t2⟩)))
          · rw [if_neg t1, if_neg t2]; exact Or.inr (Or.inr (Or.inr (Or.inr (Or.inl ⟨rfl, t3⟩))))
        refine ⟨fun c3 => ⟨fun c4 => go 4 (Or.inr (Or.inr ⟨fun e => c4 (h45.mpr e), fun e => c3 (h59.mpr e), rfl⟩)), fun c4 => go 5 (Or.inl ⟨h45.mp c4, rfl⟩)⟩, fun c3 => go 2 (Or.inr (Or.inl ⟨h59.mp c3, rfl⟩))⟩
      · have d1 : ltr (s q) = false := by
          cases hh : ltr (s q)
          · rfl
          · have := hbl.mp hh; omega
        have d2 : dgt (s q) = true := hbd.mpr (by omega)
        rw [up_setR] at e2
        rw [e2]
        refine lpD (m - q) q _ (by rw [upf_ne _ _ (by decide), upf_ne _ _ (by decide)]; exact g3) (by omega) hqm2 d1 d2 (Nat.le_refl q) (by rw [upf_ne _ _ (by decide), upf_at]) (fr _ 6 _ (by omega) hg1) ?_ rfl
        rw [upf_at, show min (q - q) 2 = 0 from by omega]; rfl
      · have d1 : ltr (s q) = true := hbl.mpr (by omega)
        refine lpL (m - q) q 0 _ (by rw [upf_ne _ _ (by decide)]; exact g3) (by omega) hqm2 d1 (Nat.le_refl q) (by rw [upf_at]) hg1 ?_ (fun i h1 h2 => by omega) rfl
        rw [show min (q - q) 5 = 0 from by omega]; rfl
    · have hqm2 : m ≤ q := by
        by_cases c : q < m
        · rw [bya_in c] at c0; omega
        · omega
      have hE : tokE s m q = q := by unfold tokE; rw [if_pos hqm2]
      have hK : tokK s m q = 0 := by unfold tokK; rw [if_pos hqm2]
      rw [up_setR] at e2
      rw [e2]
      refine fin _ (fr _ 5 _ (by omega) hg1) (by rw [upf_ne _ _ (by decide), upf_ne _ _ (by decide), g3, hE]) (by rw [upf_ne _ _ (by decide), upf_at]) ?_
      rw [upf_at]
      exact Or.inl ⟨hK, rfl⟩
  -- blanks
  have lpB : ∀ (r p1 : Nat) (g : Nat → Int), g 3 = (p1 : Int) → p1 + r = m → (∀ i : Nat, (i < 3 ∨ 7 < i) → g i = Z b i) → wh blk s r p1 = q → V mX12_advance k n 0 [some (r_ b), none, none] [] x (setR Z b g) Q := by
    intro r
    induction r with
    | zero =>
      intro p1 g g3 hr hg hw
      have hw : p1 = q := hw
      exact tail g (by rw [g3, hw]) hg (by omega) (fun c => by omega)
    | succ r ih =>
      intro p1 g g3 hr hg hw
      by_cases cl : blk (s p1) = true
      · have hw2 : wh blk s r (p1 + 1) = q := by rw [← hw]; show _ = (if blk (s p1) = true then _ else _); rw [if_pos cl]
        have hrg : Rg (bya s m (p1 : Int)) := ⟨by have := bya_rg (s := s) (m := m) (v := (p1 : Int)); omega, by have := bya_rg (s := s) (m := m) (v := (p1 : Int)); omega⟩
        have go : V mX12_advance k n 26 [some (r_ b), none, none] [] x (setR Z b g) Q := by
          refine b_X12_advance_26 o (fun Z1 e1 => ?_)
          rw [up_setR, setR_at, g3] at e1
          rw [e1]
          exact ih (p1 + 1) _ (by rw [upf_at]; omega) (by omega) (fr _ 3 _ (by omega) hg) hw2
        have hb := (bya_blk (p := p1) hs (by omega) hm).mp cl
        refine b_X12_advance_0 o ⟨s, m, mb g hg, ?_⟩
        rw [setR_at, g3]
        exact ⟨by omega, hrg, fun _ => go, fun c => ⟨s, m, mb g hg, by omega, hrg, fun c2 => by omega, fun _ => go⟩⟩
      · have hw2 : p1 = q := by rw [← hw]; show _ = (if blk (s p1) = true then _ else _); rw [if_neg cl]
        refine tail g (by rw [g3, hw2]) hg (by omega) (fun _ => ?_)
        rw [← hw2]
        cases hh : blk (s p1)
        · rfl
        · exact absurd hh cl
  have := lpB (m - p) p (Z b) hp.1 (by omega) (fun _ _ => rfl) hq
  rw [setR_self] at this
  exact this
