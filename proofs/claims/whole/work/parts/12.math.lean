/-! ===== V: Math ===== -/
theorem lmxc : Cond.code Lib.Math.max.name Lib.Math.max.code 2 (some .int) ∈ lw_tbl := mt4 (List.mem_of_getElem? (i := 45) (by decide +kernel))
theorem lmnc : Cond.code Lib.Math.min.name Lib.Math.min.code 2 (some .int) ∈ lw_tbl := mt3 (List.mem_of_getElem? (i := 111) (by decide +kernel))
theorem labc : Cond.code Lib.Math.abs.name Lib.Math.abs.code 1 (some .int) ∈ lw_tbl := mt5 (List.mem_of_getElem? (i := 95) (by decide +kernel))
theorem lmxs : Cond.static Lib.Math.max.name ∈ lw_tbl := lsJ9_max_7cf53
theorem lmns : Cond.static Lib.Math.min.name ∈ lw_tbl := lsJ9_min_7cf53
theorem labs : Cond.static Lib.Math.abs.name ∈ lw_tbl := lsJ9_abs_0f7a4
section VMa
variable {y : MD} {k n pc : Nat} {lv lv' : List (Option Value)} {st : List Value} {x : Wx} {Z : Zt} {Q : Option Value → Wx → Zt → Prop}
theorem V_mmax {idx : Nat} {a b : Int} (hlk : Cond.methodLink y.1.cls idx Lib.Math.max.name ∈ lw_tbl) (hfr : 1 ≤ y.2.2.2.2.1) (hlo : (st.map fun v => v.category).sum + 13 ≤ y.2.2.2.2.2) (ha : Rg a) (hb : Rg b) (hd : decode y.2.1 pc = .ok (.invokestatic idx, 3)) (kk : V y k n (pc + 3) lv (i_ (max a b) :: st) x Z Q) : V y k n pc lv (i_ b :: i_ a :: st) x Z Q := by
  intro D B Hb p l e R s m args below meth c H locs cells slots QF ls C hR hL hm hl hret
  refine va_mmax C.1 C.2.1 (C.2.2.1.trans hl.1.symm) C.own (C.word hlk rfl) (C.word lmxs rfl) (C.word lini_J9 rfl) (C.word lmxc rfl) (by omega) (by omega) (by omega) (by omega) hd ?_
  have ee : (if Int32.ofInt a < Int32.ofInt b then Int32.ofInt b else Int32.ofInt a) = Int32.ofInt (max a b) := by
    simp only [rg_lt ha hb]
    split
    · congr 1; omega
    · congr 1; omega
  rw [ee]
  exact kk D B Hb p l e R s m args below meth c H locs cells slots QF ls C hR hL hm hl hret
theorem V_mmin {idx : Nat} {a b : Int} (hlk : Cond.methodLink y.1.cls idx Lib.Math.min.name ∈ lw_tbl) (hfr : 1 ≤ y.2.2.2.2.1) (hlo : (st.map fun v => v.category).sum + 13 ≤ y.2.2.2.2.2) (ha : Rg a) (hb : Rg b) (hd : decode y.2.1 pc = .ok (.invokestatic idx, 3)) (kk : V y k n (pc + 3) lv (i_ (min a b) :: st) x Z Q) : V y k n pc lv (i_ b :: i_ a :: st) x Z Q := by
  intro D B Hb p l e R s m args below meth c H locs cells slots QF ls C hR hL hm hl hret
  refine va_mmin C.1 C.2.1 (C.2.2.1.trans hl.1.symm) C.own (C.word hlk rfl) (C.word lmns rfl) (C.word lini_J9 rfl) (C.word lmnc rfl) (by omega) (by omega) (by omega) (by omega) hd ?_
  have ee : (if Int32.ofInt b < Int32.ofInt a then Int32.ofInt b else Int32.ofInt a) = Int32.ofInt (min a b) := by
    simp only [rg_lt hb ha]
    split
    · congr 1; omega
    · congr 1; omega
  rw [ee]
  exact kk D B Hb p l e R s m args below meth c H locs cells slots QF ls C hR hL hm hl hret
theorem V_mabs {idx : Nat} {a : Int} (hlk : Cond.methodLink y.1.cls idx Lib.Math.abs.name ∈ lw_tbl) (hfr : 1 ≤ y.2.2.2.2.1) (hlo : (st.map fun v => v.category).sum + 13 ≤ y.2.2.2.2.2) (ha : Rg a) (hd : decode y.2.1 pc = .ok (.invokestatic idx, 3)) (kk : V y k n (pc + 3) lv (i_ (a.natAbs : Int) :: st) x Z Q) : V y k n pc lv (i_ a :: st) x Z Q := by
  intro D B Hb p l e R s m args below meth c H locs cells slots QF ls C hR hL hm hl hret
  refine va_mabs C.1 C.2.1 (C.2.2.1.trans hl.1.symm) C.own (C.word hlk rfl) (C.word labs rfl) (C.word lini_J9 rfl) (C.word labc rfl) (by omega) (by omega) (by omega) (by omega) hd ?_
  have ee : (if 0 ≤ Int32.ofInt a then Int32.ofInt a else 0 - Int32.ofInt a) = Int32.ofInt (a.natAbs : Int) := by
    rw [rg_0, ← Int32.ofInt_sub]
    simp only [rg_le rg_z ha]
    split
    · congr 1; omega
    · congr 1; omega
  rw [ee]
  exact kk D B Hb p l e R s m args below meth c H locs cells slots QF ls C hR hL hm hl hret
end VMa
