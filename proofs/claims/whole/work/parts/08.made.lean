/-! ===== V: what is made, constants, copies ===== -/
def newS (S : Nat → Option (Nat × Nat)) (a : Nat) (q : Nat × Nat) : Nat → Option (Nat × Nat) := fun b => if b = a then some q else S b
def rowZ (Z : Zt) (a : Nat) : Zt := fun b i => if b = a then 0 else Z b i
def rowR (R : Nat → Nat → Option Nat) (a : Nat) : Nat → Nat → Option Nat := fun b i => if b = a then none else R b i
/-- the world with one cell more -/
def mk (x : Wx) (q : Nat × Nat) : Wx := (newS x.1 x.2.2.1 q, rowR x.2.1 x.2.2.1, x.2.2.1 + 1, x.2.2.2)
theorem Rep.push {D : DD} {B : Nat} {Hb H H' : Heap} {x : Wx} {Z : Zt} {t n : Nat} (h : Rep D B Hb x Z H) (hz : H'.size = H.size + 1) (hk : ∀ q, q < H.size → H'[q]? = H[q]?) (hc : CellIs D H.size t n (fun _ => none) (fun _ => 0) H') : Rep D B Hb (mk x (t, n)) (rowZ Z x.2.2.1) H' := by
  obtain ⟨h1, h2, h3, h4⟩ := h
  refine ⟨by rw [hz, h1]; rfl, fun q hq => by rw [hk q (by omega)]; exact h2 q hq, by omega, fun b t' n' hb => ?_⟩
  unfold mk newS at hb
  simp only at hb
  by_cases e : b = x.2.2.1
  · rw [if_pos e] at hb
    cases hb
    subst e
    refine ⟨fun _ => by omega, ?_⟩
    have e1 : (mk x (t, n)).2.1 x.2.2.1 = fun _ => none := by funext i; simp [mk, rowR]
    have e2 : rowZ Z x.2.2.1 x.2.2.1 = fun _ => 0 := by funext i; simp [rowZ]
    rw [e1, e2, ← h1]
    exact hc
  · rw [if_neg e] at hb
    have e1 : (mk x (t, n)).2.1 b = x.2.1 b := by funext i; simp [mk, rowR, e]
    have e2 : rowZ Z x.2.2.1 b = Z b := by funext i; simp [rowZ, e]
    rw [e1, e2]
    exact ⟨(h4 b t' n' hb).1, (h4 b t' n' hb).2.kept (hk b (h4 b t' n' hb).2.lt)⟩
section VN
variable {y : MD} {k n pc : Nat} {lv lv' : List (Option Value)} {st : List Value} {x : Wx} {Z : Zt} {Q : Option Value → Wx → Zt → Prop}
theorem V_new {t idx : Nat} {q : vw_C} (hq : cls[t]? = some q) (hlk : Cond.classLink y.1.cls idx q.1 ∈ lw_tbl) (hins : Cond.instantiable q.1 q.2.2 ∈ lw_tbl) (hini : Cond.initialized q.1 ∈ lw_tbl) (hdf : ∀ j, j < q.2.2 → defaultValue (fty t j) = vl (fty t j) 0 none) (hd : decode y.2.1 pc = .ok (.new idx, 3)) (kk : V y k n (pc + 3) lv (r_ x.2.2.1 :: st) (mk x (t, 0)) (rowZ Z x.2.2.1) Q) : V y (k + 1) (n + q.2.2) pc lv st x Z Q := by
  intro D B Hb p l e R s m args below meth c H locs cells slots QF ls C hR hL hm hl hret
  have hKn := C.kk.1 t q hq
  refine W.newcK C.1 C.2.1 C.own (C.word hlk rfl) (C.word hins rfl) (C.word hini rfl) rfl hd (by omega) (by omega) hKn.2.1 rfl fun H1 kC hkC e1 z1 o1 => ?_
  rw [hR.1]
  refine kk D B Hb p l e R s m args below meth c H1 locs (cells + 1) (slots + q.2.2) QF ls C (hR.push z1 o1 (Or.inl ⟨cls_lt hq, q, hq, ?_⟩)) hL ⟨hm.1, hm.2.1, by omega, by omega⟩ hl hret
  obtain ⟨cN, tN, nN⟩ := q
  exact (u_born (fty t) C.tb (clsOk t _ hq).in hKn hkC e1 (clsOk t _ hq).2.1).to hdf
theorem V_newarr {t N : Nat} {at_ : ArrayType} {z : Int} (ht : t ∈ atags) (hty : aty t = newarray.typeOf at_) (hprim : ∀ (U : State) (cA : ClassId), va_RA U cA (newarray.typeOf at_) → U.vm.findClass ("[" ++ (newarray.typeOf at_).toString) = some cA) (hz : z = (N : Int)) (hN : N ≤ 60000000) (hdf : defaultValue (newarray.typeOf at_) = vl (newarray.typeOf at_) 0 none) (hcb : componentBytes (newarray.typeOf at_) ≤ 8) (hw : Cond.arrayClass (newarray.typeOf at_) ∈ lw_tbl) (hd : decode y.2.1 pc = .ok (.newarray at_, 2)) (kk : V y k n (pc + 2) lv (r_ x.2.2.1 :: st) (mk x (t, N)) (rowZ Z x.2.2.1) Q) : V y (k + 1) (n + N) pc lv (i_ z :: st) x Z Q := by
  intro D B Hb p l e R s m args below meth c H locs cells slots QF ls C hR hL hm hl hret
  subst hz
  have hj : Rg (N : Int) := ⟨by omega, by omega⟩
  refine va_newaK (N := N) C.1 C.2.1 (C.word hw rfl) rfl hd rfl (by rw [rg_0, rg_lt hj rg_z]; omega) (by rw [rg_nat (by omega) hj]; exact Int.toNat_natCast N) ?_ (by omega) (by omega) rfl fun H1 cA e1 z1 o1 hAr hNm => ?_
  · have := Nat.mul_le_mul (Nat.le_refl N) hcb
    omega
  rw [hR.1]
  refine kk D B Hb p l e R s m args below meth c H1 locs (cells + 1) (slots + N) QF ls C (hR.push z1 o1 (CellIs.new ht ?_)) hL ⟨hm.1, hm.2.1, by omega, by omega⟩ hl hret
  have hcA : D.2.2 t = cA := by
    have h := (C.kk.2.1 t ht).2
    rw [hty] at h
    exact Option.some.inj ((hprim _ _ h).symm.trans hNm)
  rw [e1, hcA, hty, hdf]
theorem V_anew {idx N : Nat} {z : Int} (hz : z = (N : Int)) (hN : N ≤ 60000000) (hlk : Cond.classLink y.1.cls idx "CurveShares$Told" ∈ lw_tbl) (hd : decode y.2.1 pc = .ok (.anewarray idx, 3)) (kk : V y k n (pc + 3) lv (r_ x.2.2.1 :: st) (mk x (105, N)) (rowZ Z x.2.2.1) Q) : V y (k + 1) (n + N) pc lv (i_ z :: st) x Z Q := by
  intro D B Hb p l e R s m args below meth c H locs cells slots QF ls C hR hL hm hl hret
  subst hz
  have hj : Rg (N : Int) := ⟨by omega, by omega⟩
  have hNat : (Int32.ofInt (N : Int)).toNatClampNeg = N := by rw [rg_nat (by omega) hj]; exact Int.toNat_natCast N
  refine W.anew C.1 C.2.1 C.own (C.word hlk rfl) (va_AO.use C.kk.2.2.2.1.2) rfl hd rfl (by rw [rg_0, rg_lt hj rg_z]; omega) (by rw [hNat]; omega) (by omega) (by rw [hNat]; omega) fun cA kA comp f1 f2 f3 f4 => ?_
  rw [hNat]
  rw [show H.size = x.2.2.1 from hR.1]
  have ht : (105 : Nat) ∈ atags := by decide
  refine kk D B Hb p l e R s m args below meth c _ locs (cells + 1) (slots + N) QF ls C (hR.push (by simp) (fun q hq => by simp [Array.getElem?_push, Nat.ne_of_lt hq]) (CellIs.new ht ?_)) hL ⟨hm.1, hm.2.1, by omega, by omega⟩ hl hret
  obtain ⟨kA', comp', k1, k2, k3, k4⟩ := (C.kk.2.1 105 ht).2
  have hcA : D.2.2 105 = cA := Option.some.inj (k4.symm.trans f1)
  rw [hcA, Array.getElem?_push, if_pos rfl]
  have e : (arrV cA N fun _ => vl (aty 105) 0 none) = { cls := cA, slots := Array.replicate N .null, vm := .none } := by
    unfold arrV
    congr 1
    apply Array.ext
    · simp
    · intro i h1 h2
      simp [vl, aty, va_rf]
  rw [e]
/-- a reference into an array of objects -/
theorem V_aastO {N a b n0 : Nat} {j : Int} (hS : x.1 a = some (105, N)) (hSb : x.1 b = some (10, n0)) (h0 : 0 ≤ j) (h1 : j < N) (hN : N ≤ 2147483647) (hd : decode y.2.1 pc = .ok (.aastore, 1)) (kk : V y k n (pc + 1) lv st (x.1, upR x.2.1 a j.toNat (some b), x.2.2) Z Q) : V y k n pc lv (r_ b :: i_ j :: r_ a :: st) x Z Q := by
  intro D B Hb p l e R s m args below meth c H locs cells slots QF ls C hR hL hm hl hret
  have hj : Rg j := ⟨by omega, by omega⟩
  have ht : (105 : Nat) ∈ atags := by decide
  obtain ⟨hB, hcell⟩ := hR.2.2.2 a 105 N hS
  have hc := hcell.arr ht
  have hq10 : cls[10]? = some (RX10, TX10, 6) := rfl
  obtain ⟨cellV, g1, g2, g3, -⟩ := (hR.2.2.2 b 10 n0 hSb).2.obj hq10
  have hcls := (C.kk.1 10 _ hq10).2
  obtain ⟨kA, comp, k1, k2, k3, -⟩ := (C.kk.2.1 105 ht).2
  have hcomp : comp = D.1 10 := Option.some.inj (k3.symm.trans hcls.1)
  subst hcomp
  obtain ⟨kC, hkC, -⟩ := hcls.2
  refine W.aast C.1 C.2.1 hc (fun q h => by cases h) (fun h => by cases h) k1 k2 rfl hkC ⟨by rw [rg_0, rg_lt hj rg_z]; omega, by rw [arrV_size, rg_nat h0 hj]; omega⟩ g1 (fun q h => by rw [g3] at h; cases h) (by rw [g2]; exact hkC) (by rw [g2]; exact va_assign hcls) rfl rfl hd fun H' e1 e2 e3 => ?_
  rw [arrV_store, rg_nat h0 hj] at e1
  refine kk D B Hb p l e R s m args below meth c H' _ cells slots QF ls C (hR.put hS (by decide) ⟨rfl, rfl⟩ (fun b' hb => ⟨rfl, funext fun i => by simp [upR, hb]⟩) e2 e3 (CellIs.new ht ?_)) (fun l hl => ?_) hm hl hret
  · rw [e1]
    congr 2
    funext q
    by_cases hq : q = j.toNat
    · subst hq
      simp [updV, upR, vl, aty, va_rf]
    · simp [updV, hq, upR]
  · rcases List.mem_append.mp hl with h | h
    · exact hL l h
    · rw [List.mem_singleton.mp h]
      exact hB (by decide)
/-- a row of ints into an array of such rows -/
theorem V_aastA {N M a b : Nat} {j : Int} (hS : x.1 a = some (104, N)) (hSb : x.1 b = some (100, M)) (h0 : 0 ≤ j) (h1 : j < N) (hN : N ≤ 2147483647) (hd : decode y.2.1 pc = .ok (.aastore, 1)) (kk : V y k n (pc + 1) lv st (x.1, upR x.2.1 a j.toNat (some b), x.2.2) Z Q) : V y k n pc lv (r_ b :: i_ j :: r_ a :: st) x Z Q := by
  intro D B Hb p l e R s m args below meth c H locs cells slots QF ls C hR hL hm hl hret
  have hj : Rg j := ⟨by omega, by omega⟩
  have ht : (104 : Nat) ∈ atags := by decide
  have ht2 : (100 : Nat) ∈ atags := by decide
  obtain ⟨hB, hcell⟩ := hR.2.2.2 a 104 N hS
  have hc := hcell.arr ht
  have g1 := (hR.2.2.2 b 100 M hSb).2.arr ht2
  obtain ⟨comp, cA2, kA, k3, -, k1, k2, k4⟩ := arrayOverA_spec C.kk.2.2.2.1.1
  have hA : D.2.2 104 = cA2 := Option.some.inj (((C.kk.2.1 104 ht).2 : s.vm.findClass ("[" ++ (FieldType.array .int).toString) = some (D.2.2 104)).symm.trans k4)
  have hE : D.2.2 100 = comp := Option.some.inj (((C.kk.2.1 100 ht2).2 : s.vm.findClass ("[" ++ (FieldType.int).toString) = some (D.2.2 100)).symm.trans k3)
  obtain ⟨kE, hkE, -⟩ := Vm.findClass_spec k3
  refine W.aast C.1 C.2.1 hc (fun q h => by cases h) (fun h => by cases h) (by show s.vm.classes[D.2.2 104]? = _; rw [hA]; exact k1) k2 rfl hkE ⟨by rw [rg_0, rg_lt hj rg_z]; omega, by rw [arrV_size, rg_nat h0 hj]; omega⟩ g1 (fun q h => by cases h) (by show s.vm.classes[D.2.2 100]? = _; rw [hE]; exact hkE) (by show s.vm.assignable (D.2.2 100) comp = true; rw [hE]; exact va_asg _ _) rfl rfl hd fun H' e1 e2 e3 => ?_
  rw [arrV_store, rg_nat h0 hj] at e1
  refine kk D B Hb p l e R s m args below meth c H' _ cells slots QF ls C (hR.put hS (by decide) ⟨rfl, rfl⟩ (fun b' hb => ⟨rfl, funext fun i => by simp [upR, hb]⟩) e2 e3 (CellIs.new ht ?_)) (fun l hl => ?_) hm hl hret
  · rw [e1]
    congr 2
    funext q
    by_cases hq : q = j.toNat
    · subst hq
      simp [updV, upR, vl, aty, va_rf]
    · simp [updV, hq, upR]
  · rcases List.mem_append.mp hl with h | h
    · exact hL l h
    · rw [List.mem_singleton.mp h]
      exact hB (by decide)
/-- the constants' arrays -/
theorem V_gets {idx : Nat} {j : Nat × String} (hj : j ∈ stats) (hlk : Cond.fieldLink y.1.cls idx "CurveShares" j.2 "[I" ∈ lw_tbl) (hd : decode y.2.1 pc = .ok (.getstatic idx, 3)) (kk : V y k n (pc + 3) lv (r_ (x.2.2.2 j.1) :: st) x Z Q) : V y k n pc lv st x Z Q := by
  intro D B Hb p l e R s m args below meth c H locs cells slots QF ls C hR hL hm hl hret
  obtain ⟨cf, kf, fi, f, a, cell, h1, h2, h3, h4, h5, h6, h7, h8⟩ := C.kk.2.2.2.2.1 j hj
  exact W.gets C.1 C.2.1 C.own (C.word hlk rfl) h1 h2 h3 h4 (by rw [hR.2.1 a (Nat.not_le.mp h8)]; exact h5) (fun e => by rw [e] at h6; cases h6) h7 rfl hd (kk D B Hb p l e R s m args below meth c H locs cells slots QF ls C hR hL hm hl hret)
theorem V_getsN {idx : Nat} {j : Nat × String} {host : String} (hj : j ∈ stats) (hlk : Cond.fieldLinkNest y.1.cls idx "CurveShares" j.2 "[I" host ∈ lw_tbl) (hd : decode y.2.1 pc = .ok (.getstatic idx, 3)) (kk : V y k n (pc + 3) lv (r_ (x.2.2.2 j.1) :: st) x Z Q) : V y k n pc lv st x Z Q := by
  intro D B Hb p l e R s m args below meth c H locs cells slots QF ls C hR hL hm hl hret
  obtain ⟨cf, kf, fi, f, a, cell, h1, h2, h3, h4, h5, h6, h7, h8⟩ := C.kk.2.2.2.2.1 j hj
  exact va_WgetsN C.1 C.2.1 C.own (va_Nw.use rfl (C.kk.2.2.1 _ hlk (Or.inl ⟨_, _, _, _, _, _, rfl⟩))) h1 h2 h3 h4 (by rw [hR.2.1 a (Nat.not_le.mp h8)]; exact h5) (fun e => by rw [e] at h6; cases h6) h7 rfl hd (kk D B Hb p l e R s m args below meth c H locs cells slots QF ls C hR hL hm hl hret)
theorem V_ldcS {j : Nat × Nat × String} (hj : j ∈ strs) (hown : y.1.cls = "CurveShares$Reader") (hd : decode y.2.1 pc = .ok (.ldc j.2.1, 2)) (kk : V y k n (pc + 2) lv (r_ (x.2.2.2 j.1) :: st) x Z Q) : V y k n pc lv st x Z Q := by
  intro D B Hb p l e R s m args below meth c H locs cells slots QF ls C hR hL hm hl hret
  exact va_ldcS C.1 C.2.1 (by rw [← hown]; exact C.own) (C.kk.2.2.2.2.2.1 j hj) hd (kk D B Hb p l e R s m args below meth c H locs cells slots QF ls C hR hL hm hl hret)
theorem V_strC {idx : Nat} {j : Nat × Nat × String} (hj : j ∈ strs) (hlk : Cond.fieldLink y.1.cls idx "java/lang/String" "coder" "B" ∈ lw_tbl) (hd : decode y.2.1 pc = .ok (.getfield idx, 3)) (kk : V y k n (pc + 3) lv (i_ 0 :: st) x Z Q) : V y k n pc lv (r_ (x.2.2.2 j.1) :: st) x Z Q := by
  intro D B Hb p l e R s m args below meth c H locs cells slots QF ls C hR hL hm hl hret
  obtain ⟨cf, kf, fi, f, cell, h1, h2, h3, h4, h5, h6⟩ := (C.kk.2.2.2.2.2.2.1.1 j hj).2.1
  exact W.getf C.1 C.2.1 C.own (C.word hlk rfl) h1 h2 (by rw [hR.2.1 _ (Nat.not_le.mp h6)]; exact h3) h4 (v := i_ 0) h5 rfl rfl hd (kk D B Hb p l e R s m args below meth c H locs cells slots QF ls C hR hL hm hl hret)
theorem V_strV {idx : Nat} {j : Nat × Nat × String} (hj : j ∈ strs) (hlk : Cond.fieldLink y.1.cls idx "java/lang/String" "value" "[B" ∈ lw_tbl) (hd : decode y.2.1 pc = .ok (.getfield idx, 3)) (kk : V y k n (pc + 3) lv (r_ (x.2.2.2 (j.1 + 10)) :: st) x Z Q) : V y k n pc lv (r_ (x.2.2.2 j.1) :: st) x Z Q := by
  intro D B Hb p l e R s m args below meth c H locs cells slots QF ls C hR hL hm hl hret
  obtain ⟨cf, kf, fi, f, cell, h1, h2, h3, h4, h5, h6⟩ := (C.kk.2.2.2.2.2.2.1.1 j hj).2.2
  exact W.getf C.1 C.2.1 C.own (C.word hlk rfl) h1 h2 (by rw [hR.2.1 _ (Nat.not_le.mp h6)]; exact h3) h4 (v := r_ (x.2.2.2 (j.1 + 10))) h5 rfl rfl hd (kk D B Hb p l e R s m args below meth c H locs cells slots QF ls C hR hL hm hl hret)
theorem V_getsK {idx : Nat} (hlk : Cond.fieldLink y.1.cls idx "java/lang/String" "COMPACT_STRINGS" "Z" ∈ lw_tbl) (hd : decode y.2.1 pc = .ok (.getstatic idx, 3)) (kk : V y k n (pc + 3) lv (i_ 1 :: st) x Z Q) : V y k n pc lv st x Z Q := by
  intro D B Hb p l e R s m args below meth c H locs cells slots QF ls C hR hL hm hl hret
  obtain ⟨cf, kf, fi, f, a, cell, h1, h2, h3, h4, h5, h6, h7, h8⟩ := C.kk.2.2.2.2.2.2.1.2.1
  exact W.gets C.1 C.2.1 C.own (C.word hlk rfl) h1 h2 h3 h4 (by rw [hR.2.1 a (Nat.not_le.mp h8)]; exact h5) (fun e => by rw [e] at h6; cases h6) (v := i_ 1) h7 rfl hd (kk D B Hb p l e R s m args below meth c H locs cells slots QF ls C hR hL hm hl hret)
theorem V_getsF {idx : Nat} (hlk : Cond.fieldLink y.1.cls idx "jdk/internal/util/Preconditions" "SIOOBE_FORMATTER" "Ljava/util/function/BiFunction;" ∈ lw_tbl) (hd : decode y.2.1 pc = .ok (.getstatic idx, 3)) (kk : ∀ v : Value, v.category = 1 → V y k n (pc + 3) lv (v :: st) x Z Q) : V y k n pc lv st x Z Q := by
  intro D B Hb p l e R s m args below meth c H locs cells slots QF ls C hR hL hm hl hret
  obtain ⟨v, hv, cf, kf, fi, f, a, cell, h1, h2, h3, h4, h5, h6, h7, h8⟩ := C.kk.2.2.2.2.2.2.1.2.2
  exact W.gets C.1 C.2.1 C.own (C.word hlk rfl) h1 h2 h3 h4 (by rw [hR.2.1 a (Nat.not_le.mp h8)]; exact h5) (fun e => by rw [e] at h6; cases h6) h7 rfl hd (kk v hv D B Hb p l e R s m args below meth c H locs cells slots QF ls C hR hL hm hl hret)
end VN
