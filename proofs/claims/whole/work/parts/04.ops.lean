/-! ===== V, a row an instruction: numbers, locals, branches ===== -/
theorem rg_to {z : Int} (h : Rg z) : (Int32.ofInt z).toInt = z := Int32.toInt_ofInt_of_le (by have := h.1; omega) (by have := h.2; omega)
theorem rg_lt {a b : Int} (ha : Rg a) (hb : Rg b) : (Int32.ofInt a < Int32.ofInt b) = (a < b) := by rw [Int32.lt_iff_toInt_lt, rg_to ha, rg_to hb]
theorem rg_le {a b : Int} (ha : Rg a) (hb : Rg b) : (Int32.ofInt a ≤ Int32.ofInt b) = (a ≤ b) := by rw [Int32.le_iff_toInt_le, rg_to ha, rg_to hb]
theorem rg_eq {a b : Int} (ha : Rg a) (hb : Rg b) : (Int32.ofInt a = Int32.ofInt b) = (a = b) := by rw [← Int32.toInt_inj, rg_to ha, rg_to hb]
theorem rg_0 : (0 : Int32) = Int32.ofInt 0 := rfl
theorem rg_z : Rg 0 := ⟨by decide, by decide⟩
theorem rg_nat {z : Int} (h0 : 0 ≤ z) (h : Rg z) : (Int32.ofInt z).toNatClampNeg = z.toNat := by
  show (Int32.ofInt z).toInt.toNat = z.toNat
  rw [rg_to h]
theorem rg_in {z : Int} {N : Nat} (h0 : 0 ≤ z) (h1 : z < N) (h : Rg z) : ¬ (Int32.ofInt z < 0 ∨ N ≤ (Int32.ofInt z).toNatClampNeg) := by
  rw [rg_0, rg_lt h rg_z, rg_nat h0 h]; omega
theorem rg_tdiv {a b : Int} (ha : Rg a) (hb : Rg b) (h0 : 0 < b) : Int32.ofInt a / Int32.ofInt b = Int32.ofInt (a.tdiv b) := by
  have h1 := ha.1; have h2 := ha.2; have h3 := hb.1; have h4 := hb.2
  exact (Int32.ofInt_tdiv (by show (-2147483648 : Int) ≤ a; omega) (by show a ≤ (2147483647 : Int); omega) (by show (-2147483648 : Int) ≤ b; omega) (by show b ≤ (2147483647 : Int); omega)).symm
theorem rg_tmod {a b : Int} (ha : Rg a) (hb : Rg b) (h0 : 0 < b) : Int32.ofInt a - Int32.ofInt a / Int32.ofInt b * Int32.ofInt b = Int32.ofInt (a.tmod b) := by
  rw [rg_tdiv ha hb h0, ← Int32.ofInt_mul, ← Int32.ofInt_sub, Int.tmod_def, Int.mul_comm]
section VR
variable {y : MD} {k n pc : Nat} {lv lv' : List (Option Value)} {st : List Value} {x : Wx} {Z : Zt} {Q : Option Value → Wx → Zt → Prop}
theorem V_iadd {a b : Int} (hd : decode y.2.1 pc = .ok (.iadd, 1)) (kk : V y k n (pc + 1) lv (i_ (a + b) :: st) x Z Q) : V y k n pc lv (i_ b :: i_ a :: st) x Z Q := by
  intro D B Hb p l e R s m args below meth c H locs cells slots QF ls C hR hL hm hl hret
  refine lv_iadd C.1 C.2.1 hd ?_
  rw [← Int32.ofInt_add]
  exact kk D B Hb p l e R s m args below meth c H locs cells slots QF ls C hR hL hm hl hret
theorem V_isub {a b : Int} (hd : decode y.2.1 pc = .ok (.isub, 1)) (kk : V y k n (pc + 1) lv (i_ (a - b) :: st) x Z Q) : V y k n pc lv (i_ b :: i_ a :: st) x Z Q := by
  intro D B Hb p l e R s m args below meth c H locs cells slots QF ls C hR hL hm hl hret
  refine lv_isub C.1 C.2.1 hd ?_
  rw [← Int32.ofInt_sub]
  exact kk D B Hb p l e R s m args below meth c H locs cells slots QF ls C hR hL hm hl hret
theorem V_imul {a b : Int} (hd : decode y.2.1 pc = .ok (.imul, 1)) (kk : V y k n (pc + 1) lv (i_ (a * b) :: st) x Z Q) : V y k n pc lv (i_ b :: i_ a :: st) x Z Q := by
  intro D B Hb p l e R s m args below meth c H locs cells slots QF ls C hR hL hm hl hret
  refine lv_imul C.1 C.2.1 hd ?_
  rw [← Int32.ofInt_mul]
  exact kk D B Hb p l e R s m args below meth c H locs cells slots QF ls C hR hL hm hl hret
theorem V_ineg {a : Int} (hd : decode y.2.1 pc = .ok (.ineg, 1)) (kk : V y k n (pc + 1) lv (i_ (-a) :: st) x Z Q) : V y k n pc lv (i_ a :: st) x Z Q := by
  intro D B Hb p l e R s m args below meth c H locs cells slots QF ls C hR hL hm hl hret
  refine lv_ineg C.1 C.2.1 hd ?_
  rw [← Int32.ofInt_neg]
  exact kk D B Hb p l e R s m args below meth c H locs cells slots QF ls C hR hL hm hl hret
theorem V_idiv {a b : Int} (hd : decode y.2.1 pc = .ok (.idiv, 1)) (ha : Rg a) (hb : Rg b) (h0 : 0 < b) (kk : V y k n (pc + 1) lv (i_ (a.tdiv b) :: st) x Z Q) : V y k n pc lv (i_ b :: i_ a :: st) x Z Q := by
  intro D B Hb p l e R s m args below meth c H locs cells slots QF ls C hR hL hm hl hret
  refine lv_idiv C.1 C.2.1 hd (by rw [rg_0, rg_eq hb rg_z]; omega) ?_
  rw [rg_tdiv ha hb h0]
  exact kk D B Hb p l e R s m args below meth c H locs cells slots QF ls C hR hL hm hl hret
theorem V_irem {a b : Int} (hd : decode y.2.1 pc = .ok (.irem, 1)) (ha : Rg a) (hb : Rg b) (h0 : 0 < b) (kk : V y k n (pc + 1) lv (i_ (a.tmod b) :: st) x Z Q) : V y k n pc lv (i_ b :: i_ a :: st) x Z Q := by
  intro D B Hb p l e R s m args below meth c H locs cells slots QF ls C hR hL hm hl hret
  refine lv_irem C.1 C.2.1 hd (by rw [rg_0, rg_eq hb rg_z]; omega) ?_
  rw [rg_tmod ha hb h0]
  exact kk D B Hb p l e R s m args below meth c H locs cells slots QF ls C hR hL hm hl hret
theorem V_iand {a b r : Int} (hd : decode y.2.1 pc = .ok (.iand, 1)) (hr : Int32.ofInt a &&& Int32.ofInt b = Int32.ofInt r) (kk : V y k n (pc + 1) lv (i_ r :: st) x Z Q) : V y k n pc lv (i_ b :: i_ a :: st) x Z Q := by
  intro D B Hb p l e R s m args below meth c H locs cells slots QF ls C hR hL hm hl hret
  refine lv_iand C.1 C.2.1 hd ?_
  rw [hr]
  exact kk D B Hb p l e R s m args below meth c H locs cells slots QF ls C hR hL hm hl hret
theorem V_ior {a b r : Int} (hd : decode y.2.1 pc = .ok (.ior, 1)) (hr : Int32.ofInt a ||| Int32.ofInt b = Int32.ofInt r) (kk : V y k n (pc + 1) lv (i_ r :: st) x Z Q) : V y k n pc lv (i_ b :: i_ a :: st) x Z Q := by
  intro D B Hb p l e R s m args below meth c H locs cells slots QF ls C hR hL hm hl hret
  refine lv_ior C.1 C.2.1 hd ?_
  rw [hr]
  exact kk D B Hb p l e R s m args below meth c H locs cells slots QF ls C hR hL hm hl hret
theorem V_iconst {z : Int} (hd : decode y.2.1 pc = .ok (.iconst z, 1)) (kk : V y k n (pc + 1) lv (i_ z :: st) x Z Q) : V y k n pc lv (st) x Z Q := by
  intro D B Hb p l e R s m args below meth c H locs cells slots QF ls C hR hL hm hl hret
  exact lv_iconst C.1 C.2.1 hd rfl (kk D B Hb p l e R s m args below meth c H locs cells slots QF ls C hR hL hm hl hret)
theorem V_bipush {z : Int} (hd : decode y.2.1 pc = .ok (.bipush z, 2)) (hz : (Int8.ofInt z).toInt32 = Int32.ofInt z) (kk : V y k n (pc + 2) lv (i_ z :: st) x Z Q) : V y k n pc lv (st) x Z Q := by
  intro D B Hb p l e R s m args below meth c H locs cells slots QF ls C hR hL hm hl hret
  exact lv_bipush C.1 C.2.1 hd hz (kk D B Hb p l e R s m args below meth c H locs cells slots QF ls C hR hL hm hl hret)
theorem V_sipush {z : Int} (hd : decode y.2.1 pc = .ok (.sipush z, 3)) (hz : (Int16.ofInt z).toInt32 = Int32.ofInt z) (kk : V y k n (pc + 3) lv (i_ z :: st) x Z Q) : V y k n pc lv (st) x Z Q := by
  intro D B Hb p l e R s m args below meth c H locs cells slots QF ls C hR hL hm hl hret
  exact lv_sipush C.1 C.2.1 hd hz (kk D B Hb p l e R s m args below meth c H locs cells slots QF ls C hR hL hm hl hret)
theorem V_ldc {z : Int} {idx : Nat} (hd : decode y.2.1 pc = .ok (.ldc idx, 2)) (hw : Cond.constant y.1.cls idx (Int32.ofInt z) ∈ lw_tbl) (kk : V y k n (pc + 2) lv (i_ z :: st) x Z Q) : V y k n pc lv (st) x Z Q := by
  intro D B Hb p l e R s m args below meth c H locs cells slots QF ls C hR hL hm hl hret
  exact lv_ldc C.1 C.2.1 C.2.2.2.2.2.1 (C.2.2.2.2.2.2.2.1 _ hw rfl) hd (kk D B Hb p l e R s m args below meth c H locs cells slots QF ls C hR hL hm hl hret)
theorem V_ldcw {z : Int} {idx : Nat} (hd : decode y.2.1 pc = .ok (.ldc_w idx, 3)) (hw : Cond.constant y.1.cls idx (Int32.ofInt z) ∈ lw_tbl) (kk : V y k n (pc + 3) lv (i_ z :: st) x Z Q) : V y k n pc lv (st) x Z Q := by
  intro D B Hb p l e R s m args below meth c H locs cells slots QF ls C hR hL hm hl hret
  exact lv_ldcw C.1 C.2.1 C.2.2.2.2.2.1 (C.2.2.2.2.2.2.2.1 _ hw rfl) hd (kk D B Hb p l e R s m args below meth c H locs cells slots QF ls C hR hL hm hl hret)
theorem V_ldc2 {z : Int} {idx : Nat} (hd : decode y.2.1 pc = .ok (.ldc2_w idx, 3)) (hw : Cond.constantLong y.1.cls idx (Int64.ofInt z) ∈ lw_tbl) (kk : V y k n (pc + 3) lv (l_ z :: st) x Z Q) : V y k n pc lv (st) x Z Q := by
  intro D B Hb p l e R s m args below meth c H locs cells slots QF ls C hR hL hm hl hret
  exact lv_ldc2 C.1 C.2.1 C.2.2.2.2.2.1 (C.2.2.2.2.2.2.2.1 _ hw rfl) hd (kk D B Hb p l e R s m args below meth c H locs cells slots QF ls C hR hL hm hl hret)
theorem V_lconst {q : Fin 2} {z : Int} (hd : decode y.2.1 pc = .ok (.lconst q, 1)) (hz : Int64.ofNat q = Int64.ofInt z) (kk : V y k n (pc + 1) lv (l_ z :: st) x Z Q) : V y k n pc lv st x Z Q := by
  intro D B Hb p l e R s m args below meth c H locs cells slots QF ls C hR hL hm hl hret
  exact lv_lconst C.1 C.2.1 hd hz (kk D B Hb p l e R s m args below meth c H locs cells slots QF ls C hR hL hm hl hret)
theorem V_aconst (hd : decode y.2.1 pc = .ok (.aconst_null, 1)) (kk : V y k n (pc + 1) lv (Value.null :: st) x Z Q) : V y k n pc lv (st) x Z Q := by
  intro D B Hb p l e R s m args below meth c H locs cells slots QF ls C hR hL hm hl hret
  exact lv_null C.1 C.2.1 hd (kk D B Hb p l e R s m args below meth c H locs cells slots QF ls C hR hL hm hl hret)
theorem V_iload {i : Nat} {z : Int} (hd : decode y.2.1 pc = .ok (.iload i, 2)) (hv : lv[i]? = some (some (i_ z))) (kk : V y k n (pc + 2) lv (i_ z :: st) x Z Q) : V y k n pc lv (st) x Z Q := by
  intro D B Hb p l e R s m args below meth c H locs cells slots QF ls C hR hL hm hl hret
  exact lv_iload C.1 C.2.1 hd (hl.2.2 i _ hv) (kk D B Hb p l e R s m args below meth c H locs cells slots QF ls C hR hL hm hl hret)
theorem V_iload_n {q : Fin 4} {z : Int} (hd : decode y.2.1 pc = .ok (.iload_n q, 1)) (hv : lv[(q : Nat)]? = some (some (i_ z))) (kk : V y k n (pc + 1) lv (i_ z :: st) x Z Q) : V y k n pc lv (st) x Z Q := by
  intro D B Hb p l e R s m args below meth c H locs cells slots QF ls C hR hL hm hl hret
  exact lv_iload_n C.1 C.2.1 hd rfl (hl.2.2 _ _ hv) (kk D B Hb p l e R s m args below meth c H locs cells slots QF ls C hR hL hm hl hret)
theorem V_lload {i : Nat} {z : Int} (hd : decode y.2.1 pc = .ok (.lload i, 2)) (hv : lv[i]? = some (some (l_ z))) (kk : V y k n (pc + 2) lv (l_ z :: st) x Z Q) : V y k n pc lv (st) x Z Q := by
  intro D B Hb p l e R s m args below meth c H locs cells slots QF ls C hR hL hm hl hret
  exact lv_lload C.1 C.2.1 hd (hl.2.2 i _ hv) (kk D B Hb p l e R s m args below meth c H locs cells slots QF ls C hR hL hm hl hret)
theorem V_lload_n {q : Fin 4} {z : Int} (hd : decode y.2.1 pc = .ok (.lload_n q, 1)) (hv : lv[(q : Nat)]? = some (some (l_ z))) (kk : V y k n (pc + 1) lv (l_ z :: st) x Z Q) : V y k n pc lv (st) x Z Q := by
  intro D B Hb p l e R s m args below meth c H locs cells slots QF ls C hR hL hm hl hret
  exact lv_lload_n C.1 C.2.1 hd rfl (hl.2.2 _ _ hv) (kk D B Hb p l e R s m args below meth c H locs cells slots QF ls C hR hL hm hl hret)
theorem V_aload {i : Nat} {z : Nat} (hd : decode y.2.1 pc = .ok (.aload i, 2)) (hv : lv[i]? = some (some (r_ z))) (kk : V y k n (pc + 2) lv (r_ z :: st) x Z Q) : V y k n pc lv (st) x Z Q := by
  intro D B Hb p l e R s m args below meth c H locs cells slots QF ls C hR hL hm hl hret
  exact lv_aload C.1 C.2.1 hd (hl.2.2 i _ hv) (kk D B Hb p l e R s m args below meth c H locs cells slots QF ls C hR hL hm hl hret)
theorem V_aload_n {q : Fin 4} {z : Nat} (hd : decode y.2.1 pc = .ok (.aload_n q, 1)) (hv : lv[(q : Nat)]? = some (some (r_ z))) (kk : V y k n (pc + 1) lv (r_ z :: st) x Z Q) : V y k n pc lv (st) x Z Q := by
  intro D B Hb p l e R s m args below meth c H locs cells slots QF ls C hR hL hm hl hret
  exact lv_aload_n C.1 C.2.1 hd rfl (hl.2.2 _ _ hv) (kk D B Hb p l e R s m args below meth c H locs cells slots QF ls C hR hL hm hl hret)
end VR
