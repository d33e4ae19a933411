/-! ===== V: small rows on top: bytes, masks, shifts, references that may be null ===== -/
theorem cat_of {vs : List Value} (h : vs.all (fun v => v.category == 1) = true) : ∀ v ∈ vs, v.category = 1 := fun v hv => by
  have := List.all_eq_true.mp h v hv
  simpa using this
theorem rg_c {z : Int} (h : (decide (-2147483648 ≤ z) && decide (z < 2147483648)) = true) : Rg z := by
  rw [Bool.and_eq_true, decide_eq_true_eq, decide_eq_true_eq] at h
  exact h
theorem nar_z {z : Int} (h : z = 0 ∨ z = 1) : narrow .boolean (i_ z) = i_ z := by rcases h with rfl | rfl <;> rfl
theorem fit_z {z : Int} (h : z = 0 ∨ z = 1) : fits .boolean (i_ z) = true := by rcases h with rfl | rfl <;> rfl
theorem of_mod (a : Int) : Int32.ofInt (a % 4294967296) = Int32.ofInt a := by
  apply Int32.toInt_inj.mp
  rw [Int32.toInt_ofInt, Int32.toInt_ofInt]
  show (a % 4294967296).bmod 4294967296 = a.bmod 4294967296
  exact Int.emod_bmod a 4294967296
theorem i2b_eq (a : Int) : (Int32.ofInt a).toInt8.toInt32 = Int32.ofInt (a.bmod 256) := by
  apply Int32.toInt_inj.mp
  have h1 : (-128 : Int) ≤ a.bmod 256 := Int.le_bmod (by decide)
  have h2 : a.bmod 256 < 128 := Int.bmod_lt (by decide)
  rw [rg_to ⟨by omega, by omega⟩]
  simp only [Int8.toInt_toInt32, Int32.toInt_toInt8, Int32.toInt_ofInt]
  show (a.bmod 4294967296).bmod 256 = a.bmod 256
  apply Int.bmod_bmod_of_dvd
  decide
theorem nar_b (a : Int) : narrow .byte (i_ (a.bmod 256)) = i_ (a.bmod 256) := by
  show Value.int ((Int32.ofInt (a.bmod 256)).toInt8.toInt32) = _
  rw [i2b_eq, Int.bmod_bmod]
theorem fit_b (a : Int) : fits .byte (i_ (a.bmod 256)) = true := by
  have h := i2b_eq a
  show fits .byte (.int _) = true
  rw [← h]
  exact pk_fb _
theorem bv_of (a : Int) : (Int32.ofInt a).toBitVec.toNat = (a % 4294967296).toNat := by
  show (BitVec.ofInt 32 a).toNat = _
  rw [BitVec.toNat_ofInt]
  rfl
theorem nI_of_int {z : Int} (h : 0 ≤ z) : Int32.ofInt z = nI z.toNat := by
  have : z = ((z.toNat : Nat) : Int) := by omega
  rw [this, Int32.ofInt_eq_ofNat]
  rfl
theorem and_pow (a : Int) (k : Nat) {m : Int32} (hm : m.toBitVec.toNat = 2 ^ k - 1) (hk : k ≤ 31) : Int32.ofInt a &&& m = Int32.ofInt (a % 2 ^ k) := by
  have hp : (0 : Int) < 2 ^ k := Int.pow_pos (by decide)
  have hn : (0 : Int) ≤ a % 2 ^ k := Int.emod_nonneg _ (by omega)
  rw [pk_and _ k hm, bv_of, nI_of_int hn]
  congr 1
  have h0 : (0 : Int) ≤ a % 4294967296 := Int.emod_nonneg _ (by decide)
  have h2 : ((2 : Int) ^ k) ∣ 4294967296 := by
    have : (4294967296 : Int) = 2 ^ k * 2 ^ (32 - k) := by
      rw [← Int.pow_add, show k + (32 - k) = 32 by omega]
      rfl
    rw [this]
    exact Int.dvd_mul_right _ _
  have h3 : a % 2 ^ k = (a % 4294967296) % 2 ^ k := (Int.emod_emod_of_dvd a h2).symm
  rw [h3]
  generalize a % 4294967296 = b at h0
  obtain ⟨c, rfl⟩ := Int.eq_ofNat_of_zero_le h0
  have : ((c : Int) % 2 ^ k) = ((c % 2 ^ k : Nat) : Int) := by norm_cast
  rw [this]
  simp only [Int.toNat_natCast]
theorem and_1 (a : Int) : Int32.ofInt a &&& Int32.ofInt 1 = Int32.ofInt (a % 2) := and_pow a 1 (by decide) (by decide)
theorem and_31 (a : Int) : Int32.ofInt a &&& Int32.ofInt 31 = Int32.ofInt (a % 32) := and_pow a 5 (by decide) (by decide)
theorem and_255 (a : Int) : Int32.ofInt a &&& Int32.ofInt 255 = Int32.ofInt (a % 256) := and_pow a 8 (by decide) (by decide)
theorem sh_amt : ∀ j : Fin 32, ((Int32.ofInt (j.val : Int)).toUInt32 &&& Int32.toUInt32 31).toBitVec % 32 = BitVec.ofNat 32 j.val ∧ ((Int32.ofInt (j.val : Int) &&& 31).toBitVec.smod 32).toNat = j.val := by decide +kernel
theorem ushr_eq (a b : Int) (h0 : 0 ≤ b) (h1 : b < 32) : ((Int32.ofInt a).toUInt32 >>> ((Int32.ofInt b).toUInt32 &&& Int32.toUInt32 31)).toInt32 = Int32.ofInt ((a % 4294967296) / 2 ^ b.toNat) := by
  have e := sh_amt ⟨b.toNat, by omega⟩
  simp only [show ((b.toNat : Nat) : Int) = b by omega] at e
  have h := pk_ushr (Int32.ofInt a) (Int32.ofInt b) b.toNat (by rw [e.1]; simp; omega)
  have h3 : (0 : Int) ≤ a % 4294967296 := Int.emod_nonneg _ (by decide)
  have h4 : a % 4294967296 < 4294967296 := Int.emod_lt_of_pos _ (by decide)
  rw [bv_of] at h
  have hq : (0 : Int) ≤ (a % 4294967296) / 2 ^ b.toNat := Int.ediv_nonneg h3 (by exact Int.le_of_lt (Int.pow_pos (by decide)))
  apply Int32.toBitVec.inj
  apply BitVec.eq_of_toNat_eq
  rw [h, bv_of]
  generalize hg : a % 4294967296 = c at *
  have hle : c / 2 ^ b.toNat ≤ c := Int.ediv_le_self _ h3
  rw [Int.emod_eq_of_lt hq (by omega)]
  obtain ⟨d, rfl⟩ := Int.eq_ofNat_of_zero_le h3
  have : ((d : Int) / 2 ^ b.toNat) = ((d / 2 ^ b.toNat : Nat) : Int) := by rw [Int.natCast_ediv, Int.natCast_pow]; rfl
  rw [this]
  simp only [Int.toNat_natCast]
theorem shr_eq (a b : Int) (ha : Rg a) (h0 : 0 ≤ b) (h1 : b < 32) : Int32.ofInt a >>> (Int32.ofInt b &&& 31) = Int32.ofInt (a / 2 ^ b.toNat) := by
  have e := (sh_amt ⟨b.toNat, by omega⟩).2
  simp only [show ((b.toNat : Nat) : Int) = b by omega] at e
  have h := pk_shr (Int32.ofInt a) (Int32.ofInt b &&& 31) b.toNat e
  apply Int32.toInt_inj.mp
  rw [h, rg_to ha, Int.shiftRight_eq_div_pow]
  have hp : (0 : Int) < 2 ^ b.toNat := Int.pow_pos (by decide)
  have h1 := ha.1
  have h2 := ha.2
  rw [rg_to]
  · norm_cast
  · refine ⟨?_, ?_⟩
    · apply Int.le_ediv_of_mul_le hp
      have : (1 : Int) ≤ 2 ^ b.toNat := hp
      have : (-2147483648 : Int) * 2 ^ b.toNat ≤ -2147483648 * 1 := Int.mul_le_mul_of_nonpos_left (by decide) this
      omega
    · apply Int.ediv_lt_of_lt_mul hp
      have : (1 : Int) ≤ 2 ^ b.toNat := hp
      have : (2147483648 : Int) * 1 ≤ 2147483648 * 2 ^ b.toNat := Int.mul_le_mul_of_nonneg_left this (by decide)
      omega
theorem or_z {a b : Int} (ha : a = 0 ∨ a = 1) (hb : b = 0 ∨ b = 1) : Int32.ofInt a ||| Int32.ofInt b = Int32.ofInt (max a b) := by
  rcases ha with rfl | rfl <;> rcases hb with rfl | rfl <;> rfl
section VQ
variable {y : MD} {k n pc : Nat} {lv lv' : List (Option Value)} {st : List Value} {x : Wx} {Z : Zt} {Q : Option Value → Wx → Zt → Prop}
theorem V_q {r : Option Nat} (hn : r = none → V y k n pc lv (Value.null :: st) x Z Q) (hs : ∀ b, r = some b → V y k n pc lv (r_ b :: st) x Z Q) : V y k n pc lv (va_rf r :: st) x Z Q := by
  cases r with
  | none => exact hn rfl
  | some b => exact hs b rfl
theorem V_aaldR {t N a b : Nat} {j : Int} (hS : x.1 a = some (t, N)) (ht : t ∈ atags) (hty : ∀ z r, vl (aty t) z r = va_rf r) (href : (aty t).isReference = true) (h0 : 0 ≤ j) (h1 : j < N) (hN : N ≤ 2147483647) (hb : x.2.1 a j.toNat = some b) (hd : decode y.2.1 pc = .ok (.aaload, 1)) (kk : V y k n (pc + 1) lv (r_ b :: st) x Z Q) : V y k n pc lv (i_ j :: r_ a :: st) x Z Q :=
  V_aald hS ht hty href h0 h1 hN hd (by rw [hb]; exact kk)
theorem V_ifnull_r {off : Int} {b : Nat} (hd : decode y.2.1 pc = .ok (.ifnull off, 3)) (kk : V y k n (pc + 3) lv st x Z Q) : V y k n pc lv (r_ b :: st) x Z Q := by
  intro D B Hb p l e R s m args below meth c H locs cells slots QF ls C hR hL hm hl hret
  exact lv_ifnull C.1 C.2.1 hd (kk D B Hb p l e R s m args below meth c H locs cells slots QF ls C hR hL hm hl hret)
theorem V_ifnull_n {off : Int} {tgt : Nat} (hd : decode y.2.1 pc = .ok (.ifnull off, 3)) (ht : (pc : Int) + off = (tgt : Int)) (kk : V y k n tgt lv st x Z Q) : V y k n pc lv (Value.null :: st) x Z Q := by
  intro D B Hb p l e R s m args below meth c H locs cells slots QF ls C hR hL hm hl hret
  exact lv_ifnullN C.1 C.2.1 hd ht (kk D B Hb p l e R s m args below meth c H locs cells slots QF ls C hR hL hm hl hret)
theorem V_ifnonnull_r {off : Int} {tgt b : Nat} (hd : decode y.2.1 pc = .ok (.ifnonnull off, 3)) (ht : (pc : Int) + off = (tgt : Int)) (kk : V y k n tgt lv st x Z Q) : V y k n pc lv (r_ b :: st) x Z Q := by
  intro D B Hb p l e R s m args below meth c H locs cells slots QF ls C hR hL hm hl hret
  exact lv_ifnonnull C.1 C.2.1 hd ht (kk D B Hb p l e R s m args below meth c H locs cells slots QF ls C hR hL hm hl hret)
theorem V_ifnonnull_n {off : Int} (hd : decode y.2.1 pc = .ok (.ifnonnull off, 3)) (kk : V y k n (pc + 3) lv st x Z Q) : V y k n pc lv (Value.null :: st) x Z Q := by
  intro D B Hb p l e R s m args below meth c H locs cells slots QF ls C hR hL hm hl hret
  exact lv_ifnonnullN C.1 C.2.1 hd (kk D B Hb p l e R s m args below meth c H locs cells slots QF ls C hR hL hm hl hret)
end VQ
