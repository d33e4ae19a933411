/-! ===== the small machine's words: worlds, what a heap holds, V ===== -/
abbrev Zt : Type := Nat → Nat → Int
/-- kinds of the cells, references, the next address, the constants' addresses -/
abbrev Wx : Type := (Nat → Option (Nat × Nat)) × (Nat → Nat → Option Nat) × Nat × (Nat → Nat)
/-- a method: name, bytes, locals, answer, frames, words of locals -/
abbrev MD : Type := MethodName × ByteArray × Nat × Option FieldType × Nat × Nat
abbrev DD : Type := (Nat → ClassId) × (Nat → Nat → Nat) × (Nat → ClassId)
abbrev i_ (z : Int) : Value := Value.int (Int32.ofInt z)
abbrev l_ (z : Int) : Value := Value.long (Int64.ofInt z)
abbrev r_ (a : Nat) : Value := Value.ref a
def Rg (z : Int) : Prop := -2147483648 ≤ z ∧ z < 2147483648
def cls : List vw_C := [(RX0, TX0, 18), (RX1, TX1, 17), (RX2, TX2, 17), (RX3, TX3, 8), (RX4, TX4, 4), (RX5, TX5, 6), (RX6, TX6, 2), (RX7, TX7, 2), (RX8, TX8, 8), (RX9, TX9, 12), (RX10, TX10, 6), (RX11, TX11, 17), (RX12, TX12, 46)]
def fty (t : Nat) : Nat → FieldType := match t with
  | 0 => tyX0
  | 1 => tyX1
  | 2 => tyX2
  | 3 => tyX3
  | 4 => tyX4
  | 5 => tyX5
  | 6 => tyX6
  | 7 => tyX7
  | 8 => tyX8
  | 9 => tyX9
  | 10 => tyX10
  | 11 => tyX11
  | _ => tyX12
def aty (t : Nat) : FieldType := match t with
  | 100 => .int
  | 101 => .byte
  | 102 => .boolean
  | 103 => .long
  | 104 => .array .int
  | 105 => .object "CurveShares$Told"
  | 200 => .int
  | _ => .byte
def vl (ty : FieldType) (z : Int) (r : Option Nat) : Value := match ty with
  | .boolean => i_ z
  | .byte => i_ z
  | .char => i_ z
  | .short => i_ z
  | .int => i_ z
  | .long => l_ z
  | _ => va_rf r
def atags : List Nat := [100, 101, 102, 103, 104, 105, 200, 201]
def strs : List (Nat × Nat × String) := [(10, 63, "prime"), (11, 73, "curve"), (12, 88, "far"), (13, 93, "at"), (14, 101, "y"), (15, 103, "x")]
def stats : List (Nat × String) := [(0, "MOST_OF_SORT"), (1, "FIRST_ROW_OF_SORT"), (2, "PRIMES")]
/-- an array, also one that was there before: what a load sees of it -/
def Old (D : DD) (a t n : Nat) (r : Nat → Option Nat) (z : Nat → Int) (H : Heap) : Prop := ∃ cell : Cell, H[a]? = some cell ∧ (cell.cls = D.2.2 t ∨ cell.cls = D.2.2 (t + 1000 * (a + 1))) ∧ (∀ k : ClassId, cell.vm ≠ .statics k) ∧ cell.vm ≠ .unknown ∧ (n ≤ cell.slots.size ∧ cell.slots.size.toInt32 = Int32.ofNat n) ∧ ∀ j : Nat, j < n → cell.slots[j]? = some (vl (aty t) (z j) (r j))
def CellIs (D : DD) (a t n : Nat) (r : Nat → Option Nat) (z : Nat → Int) (H : Heap) : Prop :=
  (t < 100 ∧ ∃ q, cls[t]? = some q ∧ t_OB a (D.1 t) q.2.2 (D.2.1 t) H (fun k => vl (fty t k) (z k) (r k))) ∨
  (t ∈ atags ∧ (t < 200 → H[a]? = some (arrV (D.2.2 t) n (fun j => vl (aty t) (z j) (r j)))) ∧ Old D a t n r z H)
def Rep (D : DD) (B : Nat) (Hb : Heap) (x : Wx) (Z : Zt) (H : Heap) : Prop :=
  H.size = x.2.2.1 ∧ (∀ q : Nat, q < B → H[q]? = Hb[q]?) ∧ B ≤ H.size ∧ ∀ (a t n : Nat), x.1 a = some (t, n) → (t < 200 → B ≤ a) ∧ CellIs D a t n (x.2.1 a) (Z a) H
def isNest (w : Cond) : Prop := (∃ a i b n d h, w = .fieldLinkNest a i b n d h) ∨ (∃ a i y h, w = .methodLinkNest a i y h)
def AOv (t : FieldType) (U : State) : Prop := (Cond.arrayOver (.array t)).before #[] U = true
/-- the words' inside, and two of the machine's own settings -/
def KStr (B : Nat) (Hb : Heap) (cs : Nat → Nat) (s : State) : Prop :=
  (∀ j ∈ strs, va_O "java/lang/String" (cs j.1) (fun q => B ≤ q) s Hb ∧ va_OF "java/lang/String" "coder" "B" (.int 0) (cs j.1) (fun q => B ≤ q) s Hb ∧ va_OF "java/lang/String" "value" "[B" (.ref (cs (j.1 + 10))) (cs j.1) (fun q => B ≤ q) s Hb) ∧
  va_Z "java/lang/String" "COMPACT_STRINGS" "Z" (.int 1) (fun q => B ≤ q) s Hb ∧ (∃ v : Value, v.category = 1 ∧ va_Z "jdk/internal/util/Preconditions" "SIOOBE_FORMATTER" "Ljava/util/function/BiFunction;" v (fun q => B ≤ q) s Hb)
theorem KStr.moved {B : Nat} {Hb : Heap} {cs : Nat → Nat} {u U : State} (hvm : u.vm.Alike U.vm) (h : KStr B Hb cs u) : KStr B Hb cs U :=
  ⟨fun j hj => ⟨(h.1 j hj).1.moved hvm, (h.1 j hj).2.1.moved hvm, (h.1 j hj).2.2.moved hvm⟩, h.2.1.moved hvm, (let ⟨v, h1, h2⟩ := h.2.2; ⟨v, h1, h2.moved hvm⟩)⟩
def KK (D : DD) (B : Nat) (Hb : Heap) (cs : Nat → Nat) (s : State) : Prop :=
  (∀ (c : Nat) (q : vw_C), cls[c]? = some q → u_Kn s q.1 q.2.1 q.2.2 (D.1 c) (D.2.1 c)) ∧
  (∀ t ∈ atags, ArrOfT s (D.2.2 t) (aty t) ∧ va_RA s (D.2.2 t) (aty t)) ∧
  (∀ w ∈ lw_tbl, isNest w → va_Nw w s) ∧
  (AOv .int s ∧ va_AO "CurveShares$Told" s) ∧
  (∀ j ∈ stats, va_Z "CurveShares" j.2 "[I" (.ref (cs j.1)) (fun q => B ≤ q) s Hb) ∧
  (∀ j ∈ strs, vk_R "CurveShares$Reader" j.2.1 j.2.2 (cs j.1) s) ∧ KStr B Hb cs s ∧ ∀ t ∈ atags, ∀ j : Nat, ArrOfT s (D.2.2 (t + 1000 * (j + 1))) (aty t)
theorem AOv.moved {t : FieldType} {u U : State} (hvm : u.vm.Alike U.vm) (h : AOv t u) : AOv t U := over_moved hvm h
theorem KK.warm {D : DD} {B : Nat} {Hb : Heap} {cs : Nat → Nat} {s U : State} (hW : s.WarmedH U.vm) (h : KK D B Hb cs s) : KK D B Hb cs U := by
  obtain ⟨h1, h2, h3, h4, h5, h6, h7⟩ := h
  refine ⟨fun c q hq => u_Kn_moved hW.alike (h1 c q hq), fun t ht => ⟨arrOfT_moved hW.alike (h2 t ht).1, (h2 t ht).2.moved hW.alike⟩, fun w hw hn => ?_, ⟨h4.1.moved hW.alike, h4.2.moved hW.alike⟩, fun j hj => (h5 j hj).moved hW.alike, fun j hj => (h6 j hj).warm hW, h7.1.moved hW.alike, fun t ht j => arrOfT_moved hW.alike (h7.2 t ht j)⟩
  have h := h3 w hw hn
  rcases hn with ⟨a, i, b, n, d, h, rfl⟩ | ⟨a, i, y, h, rfl⟩
  · exact va_Nw.warmF hW h
  · exact va_Nw.warmM hW h
def Ctx (y : MD) (D : DD) (B : Nat) (Hb : Heap) (cs : Nat → Nat) (p : Program) (s : State) (m : MethodId) (args : Array Value) (meth : Method) (c : Code) : Prop :=
  p.tables.exec = Jvm.exec ∧ c.code = y.2.1 ∧ c.maxLocals = y.2.2.1 ∧ meth.sig.returnType = y.2.2.2.1 ∧ meth.locks = false ∧ s.vm.findClass y.1.cls = some m.cls ∧ meth.name = y.1.name ∧ (∀ w ∈ lw_tbl, goodWord w = true → w.before args s = true) ∧ KK D B Hb cs s
def LH (ls : Array Slot) (nL : Nat) (lv : List (Option Value)) : Prop := ls.size = nL ∧ lv_wf ls ∧ ∀ (i : Nat) (v : Value), lv[i]? = some (some v) → ls[i]? = some (.val v)
def RetOk (y : MD) (pc : Nat) (v : Option Value) : Prop :=
  (decode y.2.1 pc = .ok (.ireturn, 1) ∧ ∃ (z : Int32) (ty : FieldType), v = some (.int z) ∧ y.2.2.2.1 = some ty ∧ narrow ty (.int z) = .int z) ∨
  (decode y.2.1 pc = .ok (.lreturn, 1) ∧ ∃ z : Int64, v = some (.long z) ∧ y.2.2.2.1 = some .long) ∨
  (decode y.2.1 pc = .ok (.areturn, 1) ∧ ∃ (r : Option Nat) (ty : FieldType), v = some (va_rf r) ∧ y.2.2.2.1 = some ty ∧ ((∃ n, ty = .object n) ∨ ∃ t, ty = .array t)) ∨
  (decode y.2.1 pc = .ok (.return_, 1) ∧ v = none ∧ y.2.2.2.1 = none)
def V (y : MD) (k n pc : Nat) (lv : List (Option Value)) (st : List Value) (x : Wx) (Z : Zt) (Q : Option Value → Wx → Zt → Prop) : Prop :=
  ∀ (D : DD) (B : Nat) (Hb : Heap) (p : Program) (l : Launch) (e : Env) (R : Room) (s : State) (m : MethodId) (args : Array Value) (below : List Frame) (meth : Method) (c : Code) (H : Heap) (locs : List Loc) (cells slots : Nat) (QF : State → Prop) (ls : Array Slot),
    Ctx y D B Hb x.2.2.2 p s m args meth c → Rep D B Hb x Z H → (∀ q ∈ locs, B ≤ q.base) → (y.2.2.2.2.1 ≤ R.frames ∧ y.2.2.2.2.2 ≤ R.locals ∧ cells + k ≤ R.cells ∧ slots + n ≤ R.slots) → LH ls y.2.2.1 lv →
    (∀ (v : Option Value) (x' : Wx) (Z' : Zt) (H' : Heap) (locs' : List Loc) (cells' slots' pc' : Nat) (ls' : Array Slot), Q v x' Z' → x'.2.2.2 = x.2.2.2 → Rep D B Hb x' Z' H' → (∀ q ∈ locs', B ≤ q.base) → cells' ≤ R.cells → slots' ≤ R.slots → RetOk y pc' v → W p l e R s m args below meth c H' locs' cells' slots' QF (F0 m pc' ls' v.toList)) →
    W p l e R s m args below meth c H locs cells slots QF (F0 m pc ls st)
