/-! ===== V: arrays of arrays, System.arraycopy ===== -/
def mk2 (x : Wx) (N K : Nat) : Wx := (fun b => if b = x.2.2.1 then some (104, N) else if x.2.2.1 < b ∧ b ≤ x.2.2.1 + N then some (100, K) else x.1 b, fun b i => if b = x.2.2.1 then (if i < N then some (x.2.2.1 + 1 + i) else none) else if x.2.2.1 < b ∧ b ≤ x.2.2.1 + N then none else x.2.1 b i, x.2.2.1 + 1 + N, x.2.2.2)
def rowsZ (Z : Zt) (a m : Nat) : Zt := fun b i => if a ≤ b ∧ b ≤ a + m then 0 else Z b i
theorem mna_outer (c : ClassId) (N h0 : Nat) : ∀ i : Nat, Jvm.Free.Multi.outerC c N h0 i = arrV c N (fun j => va_rf (if j < i then some (h0 + 1 + j) else none))
  | 0 => by
    show ({ cls := c, slots := Array.replicate N .null, vm := .none } : Cell) = _
    unfold arrV
    congr 1
    apply Array.ext
    · simp
    · intro i h1 h2
      simp [va_rf]
  | i + 1 => by
    show (Jvm.Free.Multi.outerC c N h0 i).setSlot i (.ref (h0 + 1 + i)) = _
    rw [mna_outer c N h0 i, arrV_store]
    refine congrArg (arrV c N) (funext fun j => ?_)
    by_cases e : j = i
    · subst e
      simp [updV, va_rf]
    · by_cases h : j < i
      · simp [updV, e, h, Nat.lt_succ_of_lt h]
      · simp [updV, e, h, show ¬ j < i + 1 by omega]
theorem mna_inner (c : ClassId) (K : Nat) : Jvm.Free.Multi.innerC c K (defaultValue .int) = arrV c K (fun _ => i_ 0) := by
  show ({ cls := c, slots := Array.replicate K (defaultValue .int), vm := .none } : Cell) = _
  unfold arrV
  congr 1
  apply Array.ext
  · simp
  · intro i h1 h2
    simp
    rfl
section VM
variable {y : MD} {k n pc : Nat} {lv lv' : List (Option Value)} {st : List Value} {x : Wx} {Z : Zt} {Q : Option Value → Wx → Zt → Prop}
theorem V_mna {idx N K : Nat} {z w : Int} (hz : z = (N : Int)) (hw : w = (K : Int)) (hN : N ≤ 60000000) (hK : K ≤ 60000000) (hlk : Cond.classLink y.1.cls idx "[[I" ∈ lw_tbl) (hac : Cond.arrayClass .int ∈ lw_tbl) (hd : decode y.2.1 pc = .ok (.multianewarray idx 2, 4)) (kk : V y k n (pc + 4) lv (r_ x.2.2.1 :: st) (mk2 x N K) (rowsZ Z x.2.2.1 N) Q) : V y (k + (1 + N)) (n + (N + N * K)) pc lv (i_ w :: i_ z :: st) x Z Q := by
  intro D B Hb p l e R s m args below meth c H locs cells slots QF ls C hR hL hm hl hret
  subst hz hw
  have hj : Rg (N : Int) := ⟨by omega, by omega⟩
  have hj2 : Rg (K : Int) := ⟨by omega, by omega⟩
  have eN : (Int32.ofInt (N : Int)).toNatClampNeg = N := by rw [rg_nat (by omega) hj]; exact Int.toNat_natCast N
  have eK : (Int32.ofInt (K : Int)).toNatClampNeg = K := by rw [rg_nat (by omega) hj2]; exact Int.toNat_natCast K
  intro T hT X
  obtain ⟨vm₁, cA, comp, -, fA, fC, hO, -, X', step⟩ := X.multianewarray2F C.1 C.own (index := idx) (ty := .int) (C.word hlk rfl) (over_moved (Vm.Alike.refl _) C.kk.2.2.2.1.1) (C.word hac rfl) (g := F0 m pc ls (i_ (K : Int) :: i_ (N : Int) :: st)) rfl (by rw [C.2.1]; exact hd) rfl (by rw [rg_0, rg_lt hj rg_z]; omega) (by rw [rg_0, rg_lt hj2 rg_z]; omega) (by rw [eN]; omega) (by rw [eK]; show K * 4 ≤ _; omega) (by rw [eK]; omega) rfl rfl (by rw [eN]; omega) (by rw [eN, eK]; omega)
  rw [eN, eK] at X' step
  generalize hF : Jvm.Free.Multi.fill (T.setVm vm₁) cA comp N K (defaultValue .int) N = F at X' step
  have hTh : (T.setVm vm₁).heap = H := hT
  obtain ⟨f1, f2, -, -⟩ := Jvm.Free.Multi.fill_facts (T.setVm vm₁) cA comp N K (defaultValue .int) N
  rw [hF, hTh] at f1 f2
  have hold : ∀ q : Nat, q < H.size → F.heap[q]? = H[q]? := fun q hq => by
    have := Jvm.Free.Multi.fill_old (T.setVm vm₁) cA comp N K (defaultValue .int) (a := q) (by rw [hTh]; exact hq) N
    rw [hF, hTh] at this
    exact this
  have hrow : ∀ j : Nat, j < N → F.heap[H.size + 1 + j]? = some (arrV comp K (fun _ => i_ 0)) := fun j hj => by
    have := Jvm.Free.Multi.fill_inner (T.setVm vm₁) cA comp N K (defaultValue .int) N j hj
    rw [hF, hTh, mna_inner] at this
    exact this
  rw [mna_outer] at f2
  have ht4 : (104 : Nat) ∈ atags := by decide
  have ht0 : (100 : Nat) ∈ atags := by decide
  have hA : D.2.2 104 = cA := Option.some.inj (((C.kk.2.1 104 ht4).2 : s.vm.findClass ("[" ++ (FieldType.array .int).toString) = some (D.2.2 104)).symm.trans fA)
  have hE : D.2.2 100 = comp := Option.some.inj (((C.kk.2.1 100 ht0).2 : s.vm.findClass ("[" ++ (FieldType.int).toString) = some (D.2.2 100)).symm.trans fC)
  obtain ⟨h1, h2, h3, h4⟩ := hR
  have hR' : Rep D B Hb (mk2 x N K) (rowsZ Z x.2.2.1 N) F.heap := by
    refine ⟨by rw [f1, h1]; rfl, fun q hq => by rw [hold q (by omega)]; exact h2 q hq, by omega, fun b t' n' hb => ?_⟩
    unfold mk2 at hb
    simp only at hb
    by_cases e : b = x.2.2.1
    · rw [if_pos e] at hb
      cases hb
      subst e
      refine ⟨fun _ => by omega, CellIs.new ht4 ?_⟩
      rw [← h1, f2, hA]
      congr 2
      funext j
      simp [mk2, vl, aty, h1]
    · rw [if_neg e] at hb
      by_cases e2 : x.2.2.1 < b ∧ b ≤ x.2.2.1 + N
      · rw [if_pos e2] at hb
        cases hb
        refine ⟨fun _ => by omega, CellIs.new ht0 ?_⟩
        have eb : b = H.size + 1 + (b - x.2.2.1 - 1) := by omega
        have hrw := hrow (b - x.2.2.1 - 1) (by omega)
        rw [← eb] at hrw
        rw [hrw, hE]
        congr 2
        funext j
        have e3 : x.2.2.1 ≤ b ∧ b ≤ x.2.2.1 + N := by omega
        simp [rowsZ, vl, aty, e3]
      · rw [if_neg e2] at hb
        have e3 : ¬ (x.2.2.1 ≤ b ∧ b ≤ x.2.2.1 + N) := by omega
        have r1 : (mk2 x N K).2.1 b = x.2.1 b := by funext i; simp [mk2, e, e2]
        have r2 : rowsZ Z x.2.2.1 N b = Z b := by funext i; simp [rowsZ, e3]
        rw [r1, r2]
        exact ⟨(h4 b t' n' hb).1, (h4 b t' n' hb).2.kept (hold b (h4 b t' n' hb).2.lt)⟩
  have hw := kk D B Hb p l e R s m args below meth c F.heap locs (cells + 1 + N) (slots + N + N * K) QF ls C hR' hL ⟨hm.1, hm.2.1, by omega, by omega⟩ hl hret
  obtain ⟨t, a1, b1⟩ := hw F rfl X'
  refine ⟨t, step t ?_, b1⟩
  have e9 : T.heap.size = x.2.2.1 := by rw [hT]; exact h1
  rw [e9]
  exact a1
def cpyZ (Z : Zt) (a sp b dp m : Nat) : Zt := fun c i => if c = b then (if dp ≤ i ∧ i < dp + m then Z a (sp + (i - dp)) else Z b i) else Z c i
theorem V_acopy {idx t N0 N1 a b : Nat} {sp dp m : Int} (hS0 : x.1 a = some (t, N0)) (hS1 : x.1 b = some (t, N1)) (ht : t ∈ atags) (ht2 : t < 200) (hprim : refKind (aty t) = false) (hty : ∀ z r, vl (aty t) z r = vl (aty t) z none) (h0 : 0 ≤ sp) (h1 : 0 ≤ dp) (h2 : 0 ≤ m) (h3 : sp + m ≤ N0) (h4 : dp + m ≤ N1) (hN : N0 ≤ 2147483647 ∧ N1 ≤ 2147483647) (hfit : ∀ i : Nat, i < m.toNat → fits (aty t) (vl (aty t) (Z a (sp.toNat + i)) none) = true)
    (hlk : Cond.methodLink y.1.cls idx arraycopyName ∈ lw_tbl) (hnat : Cond.native arraycopyName ∈ lw_tbl) (hsta : Cond.static arraycopyName ∈ lw_tbl) (hini : Cond.initialized "java/lang/System" ∈ lw_tbl) (hfr : 1 ≤ y.2.2.2.2.1) (hlo : (st.map fun v => v.category).sum + (nativeFrameWords "java/lang/System" "arraycopy" 5 + 11) ≤ y.2.2.2.2.2) (hd : decode y.2.1 pc = .ok (.invokestatic idx, 3))
    (kk : V y k n (pc + 3) lv st x (cpyZ Z a sp.toNat b dp.toNat m.toNat) Q) : V y k n pc lv (i_ m :: i_ dp :: r_ b :: i_ sp :: r_ a :: st) x Z Q := by
  intro D B Hb p l e R s me args below meth c H locs cells slots QF ls C hR hL hm hl hret
  have r1 : Rg sp := ⟨by omega, by omega⟩
  have r2 : Rg dp := ⟨by omega, by omega⟩
  have r3 : Rg m := ⟨by omega, by omega⟩
  obtain ⟨hB0, hcell0⟩ := hR.2.2.2 a t N0 hS0
  obtain ⟨hB1, hcell1⟩ := hR.2.2.2 b t N1 hS1
  have c0 := hcell0.arr ht
  have c1 := hcell1.arr ht
  have ev : ∀ (q : Nat), (fun j => vl (aty t) (Z q j) (x.2.1 q j)) = (fun j => (fun z => vl (aty t) z none) (Z q j)) := fun q => funext fun j => hty _ _
  rw [ev] at c0 c1
  obtain ⟨-, k0, hk0, cm0, hkk0⟩ := (C.kk.2.1 t ht).1 N0 (fun j => (fun z => vl (aty t) z none) (Z a j))
  obtain ⟨-, k1, hk1, cm1, hkk1⟩ := (C.kk.2.1 t ht).1 N1 (fun j => (fun z => vl (aty t) z none) (Z b j))
  intro T hT X
  obtain ⟨vm', X', step⟩ := X.arraycopy C.1 C.own (C.word hlk rfl) (C.word hnat rfl) (C.word hsta rfl) (C.word hini rfl) (src := a) (dst := b) (srcPos := Int32.ofInt sp) (destPos := Int32.ofInt dp) (n := Int32.ofInt m) (by rw [hT]; exact c0) (by rw [hT]; exact c1)
    (fun _ h => by cases h) (fun _ h => by cases h) (fun h => by cases h) (fun h => by cases h) hk0 hk1 hkk0 hkk1 (by simp [hprim]) (by rw [rg_0, rg_lt r1 rg_z]; omega) (by rw [rg_0, rg_lt r2 rg_z]; omega) (by rw [rg_0, rg_lt r3 rg_z]; omega)
    (by rw [rg_to r1, rg_to r3, arrV_size]; omega) (by rw [rg_to r2, rg_to r3, arrV_size]; omega)
    (fun vm₁ _ i hi => by
      rw [rg_nat h2 r3] at hi
      have e : (arrV (D.2.2 t) N0 (fun j => (fun z => vl (aty t) z none) (Z a j))).slots.getD ((Int32.ofInt sp).toNatClampNeg + i) .null = vl (aty t) (Z a (sp.toNat + i)) none := by
        rw [Array.getD_eq_getD_getElem?, rg_nat h0 r1, arrV_read _ _ (by omega)]
        rfl
      rw [e]
      refine ⟨hfit i hi, ?_⟩
      revert hprim
      cases aty t <;> intro hprim <;> first | exact trivial | (simp [refKind] at hprim))
    (g := F0 me pc ls (i_ m :: i_ dp :: r_ b :: i_ sp :: r_ a :: st)) rfl (hl.1.trans C.2.2.1.symm) (rest := st) rfl (by rw [C.2.1]; exact hd) (by omega) (by show 2 * 0 + _ + _ ≤ _; omega)
  have e1 : copied (arrV (D.2.2 t) N0 (fun j => (fun z => vl (aty t) z none) (Z a j))) (arrV (D.2.2 t) N1 (fun j => (fun z => vl (aty t) z none) (Z b j))) (Int32.ofInt sp) (Int32.ofInt dp) (Int32.ofInt m) = arrV (D.2.2 t) N1 (fun j => (fun z => vl (aty t) z none) (va_cpy (Z a) (Z b) sp.toNat dp.toNat m.toNat j)) := by
    have := va_copied (sp := (Int32.ofInt sp).toNatClampNeg) (dp := (Int32.ofInt dp).toNatClampNeg) (n := (Int32.ofInt m).toNatClampNeg) (n0 := N0) (n1 := N1) (fun z => vl (aty t) z none) (D.2.2 t) (D.2.2 t) (Z a) (Z b) (by rw [rg_nat h0 r1, rg_nat h2 r3]; omega)
    rw [rg_nat h0 r1, rg_nat h1 r2, rg_nat h2 r3] at this
    rw [← this]
    unfold copied
    rw [rg_nat h0 r1, rg_nat h1 r2, rg_nat h2 r3]
  rw [e1] at X' step
  generalize hcn : arrV (D.2.2 t) N1 (fun j => (fun z => vl (aty t) z none) (va_cpy (Z a) (Z b) sp.toNat dp.toNat m.toNat j)) = cn at X' step
  have hlt : b < H.size := (Array.getElem?_eq_some_iff.mp c1).1
  have hheap : ((T.setVm vm').setCell b cn).heap = H.setIfInBounds b cn := by rw [← hT]; rfl
  have oq : ∀ q : Nat, q ≠ b → (H.setIfInBounds b cn)[q]? = H[q]? := fun q hq => by simp [Array.getElem?_setIfInBounds, Ne.symm hq]
  have hR' : Rep D B Hb x (cpyZ Z a sp.toNat b dp.toNat m.toNat) (H.setIfInBounds b cn) := by
    refine hR.put hS1 ht2 ⟨rfl, rfl⟩ (fun q hq => ⟨funext fun i => by simp [cpyZ, hq], rfl⟩) (by simp) oq (CellIs.new ht ?_)
    rw [show (H.setIfInBounds b cn)[b]? = some cn by simp [Array.getElem?_setIfInBounds, hlt], ← hcn]
    congr 2
    funext j
    rw [hty]
    simp [cpyZ, va_cpy]
  have hw : ∀ LL : List Loc, (∀ q ∈ LL, B ≤ q.base) → W p l e R s me args below meth c (H.setIfInBounds b cn) LL cells slots QF (F0 me (pc + 3) ls st) := fun LL h => kk D B Hb p l e R s me args below meth c (H.setIfInBounds b cn) LL cells slots QF ls C hR' h hm hl hret
  have hx := fun h => hw _ h _ hheap X'
  obtain ⟨t', a1, b1⟩ := hx (by
    intro q hq
    rcases List.mem_append.mp hq with h | h
    · exact hL q h
    · obtain ⟨z, -, hz⟩ := List.mem_map.mp h
      rw [← hz]
      exact hB1 ht2)
  exact ⟨t', step t' a1, b1⟩
end VM
