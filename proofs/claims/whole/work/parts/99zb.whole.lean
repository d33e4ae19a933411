/-! THE CLAIM OUT OF ONE WALK OF THE LAW'S BODY. Your part is whole_start (and what it stands on); all else here is the same for every law, but numbers. -/
def R_law : String := "CurveSharesLaw"
def lw_P (b : Addr) (xs : List Int32) (args : Array Value) (s : State) : Prop := args = #[.ref b] ∧ s.IntsAt b xs ∧ xs.length ≤ 3584 ∧ (Jvm.Cond.and given_1 narrow_1).before args s = true
def lw_Q (_ : Array Value) (s : State) (o : Outcome) (t : State) : Prop := o = .returned (some (.int 1)) ∧ Framed s o t [] 600000 7302250
def lw_Z (below : List Frame) (a : Array Value) (s : State) : State → Prop := fun t => ∃ o, t.status = .running ∧ Ended t below o ∧ lw_Q a s o t
/-- the law's own end, with 1 on the stack, nothing written that was there before, its room as the claim has it -/
theorem lw_ret {p : Program} {l : Launch} {e : Env} {s : State} {m : MethodId} {below : List Frame} {meth : Method} {c : Code} {b : Nat} (hx : p.tables.exec = Jvm.exec) (hb : c.code = code) (hr : meth.sig.returnType = ret) (hlocks : meth.locks = false) {pc : Nat} {H : Heap} {ls : Array Slot} (hdg : decode code pc = .ok (.ireturn, 1)) : W p l e room_1 s m #[Value.ref b] below meth c H [] 600000 7302250 (lw_Z below #[Value.ref b] s) (F0 m pc ls [.int 1]) := by
  intro T hT X
  obtain ⟨fs, hret, hrun, hended, hW, hframe⟩ := X.leave (v := some (.int 1)) (hlocks := hlocks) (fun h => by rw [hr] at h; cases h)
  have hmeth' : T.vm.method? m = some meth := X.method'
  refine ⟨T.setFrames fs, ?_, .returned (some (.int 1)), hrun, hended, rfl, ⟨_, rfl⟩, hW, hframe⟩
  jvm_step X.here [X.here.top, hx, hb, hdg, hmeth', hr, ret, narrow_b1]
  (try refine ⟨rfl, ?_⟩); (try refine ⟨rfl, ?_⟩)
  first | (intro acts; rw [hret _ acts rfl rfl rfl]) | rw [hret _ _ rfl rfl rfl]
  exact Steps.refl _
/-- what holds at the law's entry: the machine, the code, the tables' words (any of lw_tbl by 'hts w (by decide +kernel)'), the script of L ints xs at the cell b, what the Statement gives of the start (any of its parts by flat_of_before) -/
def lw_At (p : Program) (s : State) (m : MethodId) (meth : Method) (c : Code) (b L : Nat) (xs : Nat → Int32) : Prop :=
  p.tables.exec = Jvm.exec ∧ c.code = code ∧ meth.sig.returnType = ret ∧ c.maxLocals = 4 ∧ s.vm.findClass R_law = some m.cls ∧ (∀ w ∈ lw_tbl, w.before #[Value.ref b] s = true) ∧ va_X b L xs s s.heap ∧ b < s.heap.size ∧ meth.locks = false ∧ meth.name = "law" ∧ (Jvm.Cond.and given_1 narrow_1).before #[Value.ref b] s = true
/-- an array that was there before: kind, address, length, numbers -/
def OldAt (s : State) (q : Nat × Nat × Nat × (Nat → Int)) : Prop := (q.1 = 200 ∨ q.1 = 201) ∧ q.2.2.1 < 2 ^ 31 ∧ (∀ j : Nat, j < q.2.2.1 → Rg (q.2.2.2 j)) ∧ ∃ cell : Cell, s.heap[q.2.1]? = some cell ∧ s.isArrayOf cell (aty q.1) ∧ cell.vm ≠ .unknown ∧ (q.2.2.1 ≤ cell.slots.size ∧ cell.slots.size.toInt32 = Int32.ofNat q.2.2.1) ∧ ∀ j : Nat, j < q.2.2.1 → cell.slots[j]? = some (i_ (q.2.2.2 j))
theorem OldAt.eq {s : State} {q r : Nat × Nat × Nat × (Nat → Int)} (h1 : OldAt s q) (h2 : OldAt s r) (e : q.2.1 = r.2.1) : q.1 = r.1 ∧ q.2.2.1 = r.2.2.1 ∧ ∀ j : Nat, j < q.2.2.1 → q.2.2.2 j = r.2.2.2 j := by
  obtain ⟨a1, a2, a3, c1, b1, b2, b3, b4, b5⟩ := h1
  obtain ⟨d1, d2, d3, c2, e1, e2, e3, e4, e5⟩ := h2
  rw [e] at b1
  cases b1.symm.trans e1
  have hn : q.2.2.1 = r.2.2.1 := by
    have h := congrArg Int32.toNatClampNeg (b4.2.symm.trans e4.2)
    rwa [Int32.toNatClampNeg_ofNat_of_lt a2, Int32.toNatClampNeg_ofNat_of_lt d2] at h
  refine ⟨?_, hn, fun j hj => ?_⟩
  · obtain ⟨-, k1, hk1, m1, hc1⟩ := b2
    obtain ⟨-, k2, hk2, m2, hc2⟩ := e2
    cases hk1.symm.trans hk2
    have ht : aty q.1 = aty r.1 := by
      have h := hc1.symm.trans hc2
      injection h
    rcases a1 with h | h <;> rcases d1 with h' | h'
    · rw [h, h']
    · rw [h, h'] at ht; exact absurd ht (by decide)
    · rw [h, h'] at ht; exact absurd ht (by decide)
    · rw [h, h']
  · have h := (b5 j hj).symm.trans (e5 j (by omega))
    have h2 : Int32.ofInt (q.2.2.2 j) = Int32.ofInt (r.2.2.2 j) := by
      have := Option.some.inj h
      injection this
    rwa [rg_eq (a3 j hj) (d3 j (by omega))] at h2
theorem old_world {s : State} {L : List (Nat × Nat × Nat × (Nat → Int))} (h : ∀ q ∈ L, OldAt s q) : ∃ (S : Nat → Option (Nat × Nat)) (Z : Zt), (∀ q ∈ L, S q.2.1 = some (q.1, q.2.2.1) ∧ ∀ j : Nat, j < q.2.2.1 → Z q.2.1 j = q.2.2.2 j) ∧ ∀ (a t n : Nat), S a = some (t, n) → OldAt s (t, a, n, Z a) := by
  have h0 : ∀ a : Nat, ∃ w : Option (Nat × Nat) × (Nat → Int), (∀ q ∈ L, q.2.1 = a → w.1 = some (q.1, q.2.2.1) ∧ ∀ j : Nat, j < q.2.2.1 → w.2 j = q.2.2.2 j) ∧ ∀ (t n : Nat), w.1 = some (t, n) → OldAt s (t, a, n, w.2) := by
    intro a
    by_cases c : ∃ q, q ∈ L ∧ q.2.1 = a
    · obtain ⟨q, hq, ha⟩ := c
      refine ⟨(some (q.1, q.2.2.1), q.2.2.2), fun r hr e => ?_, fun t n e => ?_⟩
      · obtain ⟨e1, e2, e3⟩ := (h q hq).eq (h r hr) (ha.trans e.symm)
        exact ⟨by rw [e1, e2], fun j hj => e3 j (by omega)⟩
      · cases e
        have := h q hq
        subst ha
        exact this
    · exact ⟨(none, fun _ => 0), fun q hq e => absurd ⟨q, hq, e⟩ c, fun t n e => by cases e⟩
  obtain ⟨w, hw⟩ := Classical.axiomOfChoice h0
  exact ⟨fun a => (w a).1, fun a => (w a).2, fun q hq => (hw q.2.1).1 q hq rfl, fun a t n e => (hw a).2 t n e⟩
theorem OldAt.of {s : State} {ty : FieldType} {t a N : Nat} {f : Nat → Int} {A : Nat → Prop} (ht : (t = 200 ∧ ty = .int) ∨ (t = 201 ∧ ty = .byte)) (hN : N < 2 ^ 31) (hf : ∀ j : Nat, j < N → Rg (f j)) (h : va_T ty a N (fun j => i_ (f j)) A s s.heap) : OldAt s (t, a, N, f) := by
  obtain ⟨cell, h1, h2, h3, h4, h5, h6, h7⟩ := h
  rcases ht with ⟨rfl, rfl⟩ | ⟨rfl, rfl⟩
  · exact ⟨Or.inl rfl, hN, hf, cell, h1, h2, h3, ⟨h4, h5⟩, h6⟩
  · exact ⟨Or.inr rfl, hN, hf, cell, h1, h2, h3, ⟨h4, h5⟩, h6⟩
theorem arr_ok {s : State} {args : Array Value} (hts : ∀ w ∈ lw_tbl, w.before args s = true) : ∀ t : Nat, ∃ c : ClassId, t ∈ atags → ArrOfT s c (aty t) ∧ va_RA s c (aty t) := by
  have hp : ∀ ty : FieldType, Cond.arrayClass ty ∈ lw_tbl → (∀ c, s.vm.findClass ("[" ++ ty.toString) = some c → va_RA s c ty) → ∃ c : ClassId, ArrOfT s c ty ∧ va_RA s c ty := fun ty hm hr => by
    obtain ⟨c, k, comp, h1, h2, h3⟩ := Cond.arrayClass_spec (hts _ hm)
    exact ⟨c, fun n z => ⟨(fun k h => by cases h), k, h2, comp, h3⟩, hr c h1⟩
  obtain ⟨cI, hI⟩ := hp .int (by decide +kernel) (fun c h => h)
  obtain ⟨cB, hB⟩ := hp .byte (by decide +kernel) (fun c h => h)
  obtain ⟨cZ, hZ⟩ := hp .boolean (by decide +kernel) (fun c h => h)
  obtain ⟨cJ, hJ⟩ := hp .long (by decide +kernel) (fun c h => h)
  obtain ⟨o1, cA, kA, o2, o3, o4, o5⟩ := Cond.arrayOver_specA (hts (.arrayOver (.array .int)) (by decide +kernel))
  have hA : ArrOfT s cA (.array .int) ∧ va_RA s cA (.array .int) := ⟨fun n z => ⟨(fun k h => by cases h), kA, o3, o1, o4⟩, o5⟩
  obtain ⟨u1, cT, kT, u2, u3, u4, u5, u6⟩ := Cond.arrayOver_spec (hts (.arrayOver (.object "CurveShares$Told")) (by decide +kernel))
  have hTo : ArrOfT s cT (.object "CurveShares$Told") ∧ va_RA s cT (.object "CurveShares$Told") := ⟨fun n z => ⟨(fun k h => by cases h), kT, u4, u1, u5⟩, kT, u1, u4, u5, u2, u6⟩
  intro t
  by_cases c : t ∈ atags
  · simp only [atags, List.mem_cons, List.not_mem_nil, or_false] at c
    rcases c with rfl | rfl | rfl | rfl | rfl | rfl | rfl | rfl
    · exact ⟨cI, fun _ => hI⟩
    · exact ⟨cB, fun _ => hB⟩
    · exact ⟨cZ, fun _ => hZ⟩
    · exact ⟨cJ, fun _ => hJ⟩
    · exact ⟨cA, fun _ => hA⟩
    · exact ⟨cT, fun _ => hTo⟩
    · exact ⟨cI, fun _ => hI⟩
    · exact ⟨cB, fun _ => hB⟩
  · exact ⟨cI, fun h => absurd h c⟩
theorem arr_all {s : State} {args : Array Value} (hts : ∀ w ∈ lw_tbl, w.before args s = true) : ∃ f : Nat → ClassId, (∀ t ∈ atags, ArrOfT s (f t) (aty t) ∧ va_RA s (f t) (aty t)) ∧ ∀ t ∈ atags, ∀ j : Nat, ArrOfT s (f (t + 1000 * (j + 1))) (aty t) ∧ ∀ cell : Cell, s.heap[j]? = some cell → s.isArrayOf cell (aty t) → cell.cls = f (t + 1000 * (j + 1)) := by
  obtain ⟨b, hb⟩ := Classical.axiomOfChoice (arr_ok hts)
  have h1 : ∀ u : Nat, ∃ c : ClassId, u % 1000 ∈ atags → ArrOfT s c (aty (u % 1000)) ∧ ∀ cell : Cell, s.heap[u / 1000 - 1]? = some cell → s.isArrayOf cell (aty (u % 1000)) → cell.cls = c := by
    intro u
    by_cases c : ∃ cell : Cell, s.heap[u / 1000 - 1]? = some cell ∧ s.isArrayOf cell (aty (u % 1000))
    · obtain ⟨cell, e1, e2⟩ := c
      exact ⟨cell.cls, fun _ => ⟨fun n z => ⟨(fun k h => by cases h), e2.2⟩, fun cell' e3 _ => by cases e1.symm.trans e3; rfl⟩⟩
    · exact ⟨b (u % 1000), fun ht => ⟨(hb _ ht).1, fun cell e1 e2 => absurd ⟨cell, e1, e2⟩ c⟩⟩
  obtain ⟨g, hg⟩ := Classical.axiomOfChoice h1
  have hlt : ∀ t ∈ atags, t < 1000 := by decide
  refine ⟨fun u => if u < 1000 then b u else g u, fun t ht => ?_, fun t ht j => ?_⟩
  · show ArrOfT s (if t < 1000 then b t else g t) _ ∧ va_RA s (if t < 1000 then b t else g t) _
    rw [if_pos (hlt t ht)]
    exact hb t ht
  · have hl := hlt t ht
    show ArrOfT s (if t + 1000 * (j + 1) < 1000 then b _ else g (t + 1000 * (j + 1))) _ ∧ ∀ cell : Cell, s.heap[j]? = some cell → s.isArrayOf cell (aty t) → cell.cls = (if t + 1000 * (j + 1) < 1000 then b _ else g (t + 1000 * (j + 1)))
    rw [if_neg (by omega)]
    have h := hg (t + 1000 * (j + 1))
    rw [show (t + 1000 * (j + 1)) % 1000 = t from by omega, show (t + 1000 * (j + 1)) / 1000 - 1 = j from by omega] at h
    exact h ht
theorem cls_all {s : State} {args : Array Value} (hts : ∀ w ∈ lw_tbl, w.before args s = true) : ∃ (dC : Nat → ClassId) (dI : Nat → Nat → Nat), ∀ (c : Nat) (q : vw_C), cls[c]? = some q → u_Kn s q.1 q.2.1 q.2.2 (dC c) (dI c) := by
  have hi : ∀ (c : Nat) (q : vw_C), cls[c]? = some q → Cond.instantiable q.1 q.2.2 ∈ lw_tbl := by
    intro c q h
    match c, h with
    | 0, h => cases h; exact ln_0
    | 1, h => cases h; exact ln_1
    | 2, h => cases h; exact ln_2
    | 3, h => cases h; exact ln_3
    | 4, h => cases h; exact ln_4
    | 5, h => cases h; exact ln_5
    | 6, h => cases h; exact ln_6
    | 7, h => cases h; exact ln_7
    | 8, h => cases h; exact ln_8
    | 9, h => cases h; exact ln_9
    | 10, h => cases h; exact ln_10
    | 11, h => cases h; exact ln_11
    | 12, h => cases h; exact ln_12
    | c + 13, h => simp [cls] at h
  have h0 : ∀ c : Nat, ∃ w : ClassId × (Nat → Nat), ∀ q : vw_C, cls[c]? = some q → u_Kn s q.1 q.2.1 q.2.2 w.1 w.2 := by
    intro c
    cases e : cls[c]? with
    | none => exact ⟨(0, fun _ => 0), fun q h => by cases h⟩
    | some q =>
      obtain ⟨cC, iS, hk⟩ := u_known (C := q.1) (T := q.2.1) (N := q.2.2) hts (fun w hw => ((clsOk c q e).1 w hw).1) (hts _ (hi c q e))
      exact ⟨(cC, iS), fun q' h => by cases h; exact hk⟩
  obtain ⟨w, hw⟩ := Classical.axiomOfChoice h0
  exact ⟨fun c => (w c).1, fun c => (w c).2, fun c q h => hw c q h⟩
def stB : List (List Int32) := [[112, 114, 105, 109, 101], [99, 117, 114, 118, 101], [102, 97, 114], [97, 116], [121], [120]]
def stL : List Nat := [5, 5, 3, 2, 1, 1]
def stI : List Nat := [63, 73, 88, 93, 101, 103]
def stT (i : Nat) : Term := .string "CurveShares$Reader" (stI.getD i 0)
abbrev lw_g : Cond := Jvm.Cond.and given_1 narrow_1
theorem st_1 : ∀ i, i < 6 → Cond.exactly (stT i) "java/lang/String" ∈ flatC lw_g := by decide +kernel
theorem st_2 : ∀ i, i < 6 → Cond.eq (.field (stT i) "java/lang/String" "coder" "B") (.int 0) ∈ flatC lw_g := by decide +kernel
theorem st_3 : ∀ i, i < 6 → Cond.arrayOf (.field (stT i) "java/lang/String" "value" "[B") .byte ∈ flatC lw_g := by decide +kernel
theorem st_4 : ∀ i, i < 6 → Cond.eq (.length (.field (stT i) "java/lang/String" "value" "[B")) (.int (Int32.ofNat (stL.getD i 0))) ∈ flatC lw_g := by decide +kernel
theorem st_5 : ∀ i, i < 6 → ∀ j, j < stL.getD i 0 → Cond.eq (.elem (.field (stT i) "java/lang/String" "value" "[B") (.int (Int32.ofNat j))) (.int ((stB.getD i []).getD j 0)) ∈ flatC lw_g := by decide +kernel
theorem st_6 : ∀ i, i < 6 → ∀ j, j < 6 → i ≠ j → Cond.not (Cond.eq (stT i) (stT j)) ∈ flatC lw_g ∨ Cond.not (Cond.eq (stT j) (stT i)) ∈ flatC lw_g := by decide +kernel
theorem st_7 : ∀ i, i < 6 → ∀ j, j < stL.getD i 0 → (stB.getD i []).getD j 0 = Int32.ofInt ((wd (i + 10)).getD j 0) := by decide +kernel
theorem st_8 : ∀ i, i < 6 → stL.getD i 0 = (wd (i + 10)).length := by decide +kernel
theorem st_9 : ∀ j ∈ strs, j.1 - 10 < 6 ∧ j.1 = j.1 - 10 + 10 ∧ Cond.stringRef "CurveShares$Reader" j.2.1 j.2.2 ∈ lw_tbl ∧ j.2.1 = stI.getD (j.1 - 10) 0 := by decide +kernel
def skN (i : Nat) : String := if i = 0 then "MOST_OF_SORT" else if i = 1 then "FIRST_ROW_OF_SORT" else "PRIMES"
def skL (i : Nat) : Nat := if i = 2 then 5 else 3
def skV (i j : Nat) : Int := if i = 0 then mstr j else if i = 1 then fstr j else [3, 5, 7, 11, 13].getD j 0
theorem sk_1 : ∀ i, i < 3 → Cond.arrayOf (.static "CurveShares" (skN i) "[I") .int ∈ flatC lw_g ∧ Cond.eq (.length (.static "CurveShares" (skN i) "[I")) (.int (Int32.ofNat (skL i))) ∈ flatC lw_g ∧ Cond.laysStatic "CurveShares" (skN i) "[I" ∈ lw_tbl := by decide +kernel
theorem sk_2 : ∀ i, i < 3 → ∀ j, j < skL i → Cond.eq (.elem (.static "CurveShares" (skN i) "[I") (.int (Int32.ofNat j))) (.int (Int32.ofInt (skV i j))) ∈ flatC lw_g := by decide +kernel
theorem sk_3 : ∀ i, i < 3 → ∀ j, j < skL i → (-2147483648 ≤ skV i j ∧ skV i j < 2147483648) := by decide +kernel
set_option maxHeartbeats 4000000 in
/-- YOUR PART: from the entry, for every script of at most 3584 ints, the law comes to its end with true -/
theorem whole_start (hT : Ties) {p : Program} {e : Env} {s : State} {m : MethodId} {below : List Frame} {meth : Method} {c : Code} (l : Launch) {b L : Nat} {xs : Nat → Int32} (hL : L ≤ 3584) (C0 : lw_At p s m meth c b L xs) : W p l e room_1 s m #[Value.ref b] below meth c s.heap [] 0 0 (lw_Z below #[Value.ref b] s) (entryFrame m ([Value.ref b] : List Value).toArray 4) := by
  obtain ⟨hx, hb, hr, hml, hown, hts, hX, hbl, hlocks, hname, hgv⟩ := id C0
  have hs := flat_of_before _ hgv
  have hA : ∀ a : Nat, a < s.heap.size → ¬ (fun q : Nat => s.heap.size ≤ q) a := fun a h => Nat.not_le.mpr h
  obtain ⟨dC, dI, hKc⟩ := cls_all hts
  obtain ⟨dA, hA1, hA2⟩ := arr_all hts
  have hk0 : ∀ i : Nat, ∃ t : Nat, i < 3 → va_Z "CurveShares" (skN i) "[I" (.ref t) (fun q => s.heap.size ≤ q) s s.heap ∧ va_T .int t (skL i) (fun j => i_ (skV i j)) (fun q => s.heap.size ≤ q) s s.heap := by
    intro i
    by_cases hi : i < 3
    · obtain ⟨k1, k2, k3⟩ := sk_1 i hi
      obtain ⟨t, ht, hv⟩ := va_Tof (tm := .static "CurveShares" (skN i) "[I") (ty := .int) (N := skL i) (f := fun j => i_ (skV i j)) (A := fun q => s.heap.size ≤ q) (by unfold skL; split <;> decide) (hs _ k1) (va_eqt (hs _ k2)) (fun j hj => va_eqt (hs _ (sk_2 i hi j hj))) hA
      exact ⟨t, fun _ => ⟨va_Zref (hts _ k3) (hts (.initialized "CurveShares") (by decide +kernel)) ht hA, hv⟩⟩
    · exact ⟨0, fun h => absurd h hi⟩
  obtain ⟨aS, hS0⟩ := Classical.axiomOfChoice hk0
  obtain ⟨aK, aV, hSt, hEv⟩ := vk_Sof (N := 6) (tm := stT) (len := stL) (byt := stB) (A := fun q => s.heap.size ≤ q) (args := #[Value.ref b]) (s := s) (fun i hi => (show ∀ i, i < 6 → stL.getD i 0 < 2 ^ 31 by decide) i hi) (fun i hi => hs _ (st_1 i hi)) (fun i hi => hs _ (st_2 i hi)) (fun i hi => hs _ (st_3 i hi)) (fun i hi => hs _ (st_4 i hi)) (fun i hi j hj => hs _ (st_5 i hi j hj)) (fun i j hi hj hn => (st_6 i hi j hj hn).imp (hs _) (hs _)) hA
  obtain ⟨cs, hcs⟩ : ∃ cs : Nat → Nat, cs = fun k => if k < 3 then aS k else if k < 16 then aK (k - 10) else aV (k - 20) := ⟨_, rfl⟩
  have cs1 : ∀ i : Nat, i < 3 → cs i = aS i := fun i hi => by rw [hcs]; show (if i < 3 then _ else _) = _; rw [if_pos hi]
  have cs2 : ∀ i : Nat, i < 6 → cs (i + 10) = aK i := fun i hi => by rw [hcs]; show (if i + 10 < 3 then _ else if i + 10 < 16 then aK (i + 10 - 10) else _) = _; rw [if_neg (by omega), if_pos (by omega), Nat.add_sub_cancel]
  have cs3 : ∀ i : Nat, i < 6 → cs (i + 10 + 10) = aV i := fun i hi => by rw [hcs]; show (if i + 10 + 10 < 3 then _ else if i + 10 + 10 < 16 then _ else aV (i + 10 + 10 - 20)) = _; rw [if_neg (by omega), if_neg (by omega), show i + 10 + 10 - 20 = i from by omega]
  have hbO : OldAt s (200, b, L, fun j => (xs j).toInt) := by
    obtain ⟨scr, h1, h2, h3, h4, h5⟩ := hX
    refine ⟨Or.inl rfl, by show L < _; omega, fun j _ => ⟨Int32.le_toInt (xs j), Int32.toInt_lt (xs j)⟩, scr, h1, h2, h3, ⟨Nat.le_of_eq h4.symm, congrArg Nat.toInt32 h4⟩, fun j hj => ?_⟩
    rw [h5 j hj]
    show some (Value.int (xs j)) = some (Value.int (Int32.ofInt (xs j).toInt))
    rw [Int32.ofInt_toInt]
  have hSo : ∀ i : Nat, i < 3 → OldAt s (200, cs i, skL i, skV i) := fun i hi => by
    rw [cs1 i hi]
    exact OldAt.of (Or.inl ⟨rfl, rfl⟩) (by unfold skL; split <;> decide) (fun j hj => sk_3 i hi j hj) (hS0 i hi).2
  have hVo : ∀ i : Nat, i < 6 → OldAt s (201, cs (i + 10 + 10), (wd (i + 10)).length, fun j => (wd (i + 10)).getD j 0) := fun i hi => by
    rw [cs3 i hi]
    have h := (hSt.1 i hi).2.2.2
    rw [st_8 i hi] at h
    refine OldAt.of (Or.inr ⟨rfl, rfl⟩) (by have := wd_len (i + 10); omega) (fun j _ => by have := wd_rg (i + 10) j; exact ⟨by omega, by omega⟩) (A := fun q => s.heap.size ≤ q) ?_
    obtain ⟨cell, h1, h2, h3, h4, h5, h6, h7⟩ := h
    exact ⟨cell, h1, h2, h3, h4, h5, fun j hj => by
      rw [h6 j hj]
      show some (Value.int ((stB.getD i []).getD j 0)) = some (Value.int (Int32.ofInt ((wd (i + 10)).getD j 0)))
      rw [st_7 i hi j (by rw [st_8 i hi]; exact hj)], h7⟩
  obtain ⟨S, Z, w1, w2⟩ := old_world (s := s) (L := (200, b, L, fun j => (xs j).toInt) :: ((List.range 3).map (fun i => (200, cs i, skL i, skV i)) ++ (List.range 6).map (fun i => (201, cs (i + 10 + 10), (wd (i + 10)).length, fun j => (wd (i + 10)).getD j 0)))) (fun q hq => by
    rcases List.mem_cons.mp hq with rfl | hq
    · exact hbO
    · rcases List.mem_append.mp hq with hq | hq
      · obtain ⟨i, hi, rfl⟩ := List.mem_map.mp hq
        exact hSo i (List.mem_range.mp hi)
      · obtain ⟨i, hi, rfl⟩ := List.mem_map.mp hq
        exact hVo i (List.mem_range.mp hi))
  have wb := w1 _ List.mem_cons_self
  have wS : ∀ i : Nat, i < 3 → S (cs i) = some (200, skL i) ∧ ∀ j : Nat, j < skL i → Z (cs i) j = skV i j := fun i hi => w1 _ (List.mem_cons_of_mem _ (List.mem_append_left _ (List.mem_map.mpr ⟨i, List.mem_range.mpr hi, rfl⟩)))
  have wV : ∀ i : Nat, i < 6 → S (cs (i + 10 + 10)) = some (201, (wd (i + 10)).length) ∧ ∀ j : Nat, j < (wd (i + 10)).length → Z (cs (i + 10 + 10)) j = (wd (i + 10)).getD j 0 := fun i hi => w1 _ (List.mem_cons_of_mem _ (List.mem_append_right _ (List.mem_map.mpr ⟨i, List.mem_range.mpr hi, rfl⟩)))
  have hlt : ∀ q : Nat × Nat × Nat × (Nat → Int), OldAt s q → q.2.1 < s.heap.size := fun q h => by
    obtain ⟨-, -, -, cell, h1, -⟩ := h
    exact (Array.getElem?_eq_some_iff.mp h1).1
  have hKK : KK (dC, dI, dA) s.heap.size s.heap cs s := by
    refine ⟨hKc, hA1, fun w hw hn => ?_, ⟨over_moved (Vm.Alike.refl _) (hts (.arrayOver (.array .int)) (by decide +kernel)), va_AO.of (hts (.arrayOver (.object "CurveShares$Told")) (by decide +kernel))⟩, fun j hj => ?_, fun j hj => ?_, ⟨fun j hj => ?_, ?_, ?_⟩, fun t ht j => (hA2 t ht j).1⟩
    · rcases hn with ⟨a, i, b', n, d, h, rfl⟩ | ⟨a, i, y, h, rfl⟩
      · exact va_Nw.of rfl (hts _ hw)
      · exact va_Nw.of rfl (hts _ hw)
    · have hj' : ∀ j ∈ stats, j.1 < 3 ∧ j.2 = skN j.1 := by decide
      obtain ⟨e1, e2⟩ := hj' j hj
      rw [e2, cs1 _ e1]
      exact (hS0 j.1 e1).1
    · obtain ⟨e1, e2, e3, e4⟩ := st_9 j hj
      rw [e2, cs2 _ e1]
      refine vk_R.of (A := #[Value.ref b]) (hts _ e3) ?_
      rw [e4]
      exact hEv _ e1
    · obtain ⟨e1, e2, e3, e4⟩ := st_9 j hj
      rw [e2, cs2 _ e1, cs3 _ e1]
      exact ⟨(hSt.1 _ e1).1, (hSt.1 _ e1).2.1, (hSt.1 _ e1).2.2.1⟩
    · exact va_Zof (hts (.laysStatic "java/lang/String" "COMPACT_STRINGS" "Z") (by decide +kernel)) (hts (.initialized "java/lang/String") (by decide +kernel)) (va_eqi (hs (.eq (.static "java/lang/String" "COMPACT_STRINGS" "Z") (.int 1)) (by decide +kernel))) hA
    · rcases va_Zqof (A := fun q => s.heap.size ≤ q) (hts (.laysStatic "jdk/internal/util/Preconditions" "SIOOBE_FORMATTER" "Ljava/util/function/BiFunction;") (by decide +kernel)) (hts (.initialized "jdk/internal/util/Preconditions") (by decide +kernel)) (hs (.isRef (.static "jdk/internal/util/Preconditions" "SIOOBE_FORMATTER" "Ljava/util/function/BiFunction;")) (by decide +kernel)) hA with h | ⟨t, h⟩
      · exact ⟨_, rfl, h⟩
      · exact ⟨_, rfl, h⟩
  have hC : Ctx mL_law (dC, dI, dA) s.heap.size s.heap cs p s m #[Value.ref b] meth c := ⟨hx, hb, hml, hr, hlocks, hown, hname, fun w hw _ => hts w hw, hKK⟩
  have hR : Rep (dC, dI, dA) s.heap.size s.heap (S, (fun _ _ => none), s.heap.size, cs) Z s.heap := by
    refine ⟨rfl, fun q _ => rfl, Nat.le_refl _, fun a t n e => ?_⟩
    obtain ⟨h1, h2, h3, cell, h4, h5, h6, h7, h8⟩ := w2 a t n e
    have h1 : t = 200 ∨ t = 201 := h1
    have ht : t ∈ atags := by rcases h1 with rfl | rfl <;> decide
    refine ⟨fun h => by omega, Or.inr ⟨ht, fun h => by omega, cell, h4, Or.inr ((hA2 t ht a).2 cell h4 h5), h5.1, h6, h7, fun j hj => ?_⟩⟩
    rw [h8 j hj]
    rcases h1 with rfl | rfl <;> rfl
  have hV := lw_all hT (s := b) (L := L) (x := (S, (fun _ _ => none), s.heap.size, cs)) (Z := Z) (Q := fun v _ _ => v = some (i_ 1)) (fun _ _ => rfl) ⟨⟨(wS 0 (by decide)).1, (wS 1 (by decide)).1, (wS 2 (by decide)).1⟩, ⟨fun j hj => (wS 0 (by decide)).2 j hj, fun j hj => (wS 1 (by decide)).2 j hj, (wS 2 (by decide)).2 0 (by decide), (wS 2 (by decide)).2 1 (by decide), (wS 2 (by decide)).2 2 (by decide), (wS 2 (by decide)).2 3 (by decide), (wS 2 (by decide)).2 4 (by decide)⟩, fun j hj => ?_, fun j hj i hi => ?_, ⟨fun j hj => hlt _ (hSo j hj), fun j hj => ?_⟩⟩ ⟨wb.1, hbl⟩ (fun j hj => ?_) hL
  · rw [lg_entry_eq]
    refine hV (dC, dI, dA) s.heap.size s.heap p l e room_1 s m _ below meth c s.heap [] 0 0 _ _ hC hR (fun q hq => by simp at hq) ⟨by decide, by decide, by decide, by decide⟩ (LH_ent (vs := [Value.ref b]) (cat_of rfl) (Nat.le_of_ble_eq_true rfl)) ?_
    intro v x' Z' H' locs' cells' slots' pc' ls' hq hcs' hR' hL' hc' hs' hro
    subst hq
    rcases hro with ⟨hd, -⟩ | ⟨-, z, h, -⟩ | ⟨-, r, ty, h, -⟩ | ⟨-, h, -⟩
    · exact va_forget hL' (W.widen (k := 600000) (n := 7302250) hc' hs' (lw_ret hx hb hr hlocks hd))
    · cases h
    · cases r <;> cases h
    · cases h
  · obtain ⟨e1, e2, e3, e4⟩ := st_9 j hj
    show S (cs (j.1 + 10)) = some (201, (wd j.1).length)
    rw [e2]
    exact (wV _ e1).1
  · obtain ⟨e1, e2, e3, e4⟩ := st_9 j hj
    show Z (cs (j.1 + 10)) i = (wd j.1).getD i 0
    rw [e2] at hi ⊢
    exact (wV _ e1).2 i hi
  · obtain ⟨e1, e2, e3, e4⟩ := st_9 j hj
    show cs (j.1 + 10) < s.heap.size
    rw [e2]
    exact hlt _ (hVo _ e1)
  · rw [wb.2 j hj]
    exact ⟨Int32.le_toInt (xs j), Int32.toInt_lt (xs j)⟩
set_option maxHeartbeats 4000000 in
theorem lw_walk (hT : Ties) (l : Launch) (b : Addr) (xs : List Int32) : MetFree l x (headSpec (Jvm.Cond.code x code maxLocals ret :: tables_1) room_1) (lw_P b xs) (fun _ _ _ _ _ => True) lw_Q := by
  refine MetFree.of_bodyS (code := code) (maxLocals := maxLocals) (ret := ret) (by decide) ?_ ?_
  · intro args s m h hn
    obtain ⟨meth, c, h1, h2, h3, h4, h5, h6, -, -⟩ := Cond.code_spec hn (atoms_spec (ws := Jvm.Cond.code x code maxLocals ret :: tables_1) h _ List.mem_cons_self)
    exact ⟨meth, c, h1, h2, h3, h4, h5, h6⟩
  · intro p e s m args below meth c s₁ B hml0 hP _
    obtain ⟨rfl, hx, hbd, hgv⟩ := hP
    obtain ⟨scr, harrAt, hlist, hof, hsmall⟩ := hx
    obtain ⟨hcb, hkn, -, -⟩ := State.arrayAt?_spec harrAt
    have hown : s.vm.findClass R_law = some m.cls := findClass_of_methodNamed B.named
    have hts0 : ∀ c ∈ (Jvm.Cond.code x code maxLocals ret :: tables_1), c.before #[Value.ref b] s = true := atoms_spec (ws := Jvm.Cond.code x code maxLocals ret :: tables_1) B.pre
    have hts : ∀ w ∈ lw_tbl, w.before #[Value.ref b] s = true := k2_hts_sels lw_privs (fun w hw => hts0 w (List.mem_cons_of_mem _ hw)) lw_privs_ok
    have hml : c.maxLocals = 4 := B.maxLocals_eq (hts0 _ List.mem_cons_self)
    have X₀ : Stand p l e room_1 s m #[Value.ref b] below meth c s₁ [] 0 0 := Stand.of_body B
    have hh0 : s₁.heap = s.heap := by rw [B.state]; rfl
    have hsz : scr.slots.size = xs.length := by rw [← Array.length_toList, hlist, List.length_map]
    have hval : ∀ j : Nat, j < xs.length → scr.slots[j]? = some (.int (xs.getD j 0)) := fun j hj => by
      rw [← Array.getElem?_toList, hlist]
      simp [hj]
    have hbl : b < s.heap.size := (Array.getElem?_eq_some_iff.mp hcb).1
    have hX : va_X b xs.length (fun j => xs.getD j 0) s s.heap := ⟨scr, hcb, hof, hkn, hsz, hval⟩
    have K : W p l e room_1 s m #[Value.ref b] below meth c s₁.heap [] 0 0 (lw_Z below #[Value.ref b] s) (entryFrame m ([Value.ref b] : List Value).toArray 4) := by
      rw [hh0]
      exact whole_start hT l hbd ⟨B.exec, B.bytes, B.returns, hml, hown, hts, hX, hbl, B.notSynchronized, (name_of_methodNamed B.named B.method).1, hgv⟩
    obtain ⟨t, a1, o, b1, b2, b3⟩ := K s₁ rfl X₀
    exact ⟨t, o, a1, b1, b2, b3⟩
theorem lw_pre_spec {args : Array Value} {s : State} (h : (Jvm.Cond.and given_1 narrow_1).before args s = true) (hr : rest_1_c.before args s = true) : ∃ (b : Addr) (xs : List Int32), lw_P b xs args s := by
  have hs := flat_of_before _ h
  have hq := flat_of_before _ hr
  have hc : (Cond.count 1).before args s = true := hs _ (by decide +kernel)
  have harr : (Cond.arrayOf (.arg 0) .int).before args s = true := hs _ (by decide +kernel)
  have hle : (Cond.le (.length (.arg 0)) (.int 3584)).before args s = true := hs _ (by decide +kernel)
  have hlen : (Cond.isInt (.length (.arg 0))).before args s = true := hq _ (by decide +kernel)
  have hall : (Cond.all (.arg 0) (.isInt (.elem (.arg 0) (.index 0)))).before args s = true := hq _ (by decide +kernel)
  obtain ⟨b, xs, hb, hx⟩ := State.ints_of_pre rfl harr hlen hall
  have hsm : xs.length < 2 ^ 31 := hx.choose_spec.2.2.2
  have hev : (Term.length (.arg 0)).eval args s none [] s = some (.int xs.length.toInt32) := hx.length_eval hb
  have hv := Cond.le_ints hev (show (Term.int 3584).eval args s none [] s = some (.int 3584) from rfl)
  have hd : xs.length.toInt32 ≤ 3584 := by
    simpa [Cond.before, Cond.holds, hv] using hle
  have hN : xs.length ≤ 3584 := (Int32.ofNat_le_ofNat hsm (by decide)).mp (show Int32.ofNat xs.length ≤ Int32.ofNat 3584 from hd)
  exact ⟨b, xs, Cond.one_arg hc (show args[0]? = some (.ref b) from hb), hx, hN, h⟩
theorem lw_comes (hT : Ties) (l : Launch) : Comes l x (Jvm.Cond.code x code maxLocals ret :: tables_1) room_1 (fun tb e args s => Calls_1 tb e args s ∧ rest_1 tb e args s ∧ Pre_1 tb e args s)
    (fun _ _ args s o t => lw_Q args s o t) := by
  intro p e ha hc hk s m args below hf hfit hheap happ hpre
  obtain ⟨b, xs, hP⟩ := lw_pre_spec hpre.2.2 hpre.2.1
  obtain ⟨k, o, h1, h2, h3, hQ⟩ := lw_walk hT l b xs p e ha hc hk s m args below hf ((Spec.applies_iff_loose hf).mp happ).1 hP trivial
  exact ⟨k, o, h1, h2, h3, hQ⟩
theorem lw_frame {s t : State} {o : Outcome} {args : Array Value} (h : Framed s o t [] 600000 7302250) :
    Framed s o t (fieldLocs frame_1_writes args s ++ arrayLocs frame_1_arrays args s ++ staticLocs frame_1_statics s) 600000 7302250 := h
theorem lw_limb (hT : Ties) (L : Cond) (hL : ∀ (args : Array Value) (s t : State), L.after args s (.returned (some (.int 1))) t = true) :
    ArmFor flags0 classFile x code maxLocals ret World_1 tables_1 room_1 Calls_1 rest_1 Pre_1
      (fun tb e a s o t => postC L tb e a s o t ∧ Framed s o t (fieldLocs frame_1_writes a s ++ arrayLocs frame_1_arrays a s ++ staticLocs frame_1_statics s) 600000 7302250) := by
  intro l _ _ _ p e ha hc hk s m args below hf hfit hheap happ hpre
  obtain ⟨k, o, h1, h2, h3, rfl, hF⟩ := lw_comes hT l p e ha hc hk s m args below hf hfit hheap happ hpre
  exact ⟨k, _, h1, h2, h3, hL args s _, lw_frame hF⟩
theorem i_vc_open (hT : Ties) : Claimed_1_1 ∧ Claimed_1_2 := ⟨lw_limb hT limb_1_1 (fun args s t => by simp [limb_1_1, Cond.after, Cond.holds, Cond.value]), lw_limb hT limb_1_2 (fun args s t => Cond.after_iff.mpr (by
  first | (rw [show limb_1_2 = Cond.eq .result (.int 1) from rfl, Cond.eq_ints (x := 1) (y := 1) rfl rfl]; simp; done) | (simp [limb_1_2, Cond.value, Term.eval]; done)))⟩
