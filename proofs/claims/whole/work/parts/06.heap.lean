/-! ===== V, a row an instruction: fields and arrays ===== -/
def up (Z : Zt) (a j : Nat) (v : Int) : Zt := fun b i => if b = a ∧ i = j then v else Z b i
def upR (R : Nat → Nat → Option Nat) (a j : Nat) (v : Option Nat) : Nat → Nat → Option Nat := fun b i => if b = a ∧ i = j then v else R b i
theorem up_self (Z : Zt) (a j : Nat) (v : Int) : up Z a j v a j = v := by simp [up]
theorem up_ne (Z : Zt) (a j : Nat) (v : Int) (b i : Nat) (h : b ≠ a ∨ i ≠ j) : up Z a j v b i = Z b i := by
  have : ¬ (b = a ∧ i = j) := fun q => h.elim (fun e => e q.1) (fun e => e q.2)
  simp [up, this]
def TB : List Cond := lw_tbl.filter goodWord
def ClsOk (t : Nat) (q : vw_C) : Prop := (∀ w ∈ u_ws q.1 q.2.1 q.2.2, w ∈ lw_tbl ∧ goodWord w = true) ∧ (∀ k, k < q.2.2 → parseFieldDescriptor (q.2.1 k).2.2.1 = some (fty t k)) ∧ (∀ a, a < q.2.2 → ∀ b, b < q.2.2 → a ≠ b → (q.2.1 a).2.1 ≠ (q.2.1 b).2.1)
theorem cw0 : ∀ w ∈ u_ws RX0 TX0 18, w ∈ lw_tbl ∧ goodWord w = true := by decide +kernel
theorem cw1 : ∀ w ∈ u_ws RX1 TX1 17, w ∈ lw_tbl ∧ goodWord w = true := by decide +kernel
theorem cw2 : ∀ w ∈ u_ws RX2 TX2 17, w ∈ lw_tbl ∧ goodWord w = true := by decide +kernel
theorem cw3 : ∀ w ∈ u_ws RX3 TX3 8, w ∈ lw_tbl ∧ goodWord w = true := by decide +kernel
theorem cw4 : ∀ w ∈ u_ws RX4 TX4 4, w ∈ lw_tbl ∧ goodWord w = true := by decide +kernel
theorem cw5 : ∀ w ∈ u_ws RX5 TX5 6, w ∈ lw_tbl ∧ goodWord w = true := by decide +kernel
theorem cw6 : ∀ w ∈ u_ws RX6 TX6 2, w ∈ lw_tbl ∧ goodWord w = true := by decide +kernel
theorem cw7 : ∀ w ∈ u_ws RX7 TX7 2, w ∈ lw_tbl ∧ goodWord w = true := by decide +kernel
theorem cw8 : ∀ w ∈ u_ws RX8 TX8 8, w ∈ lw_tbl ∧ goodWord w = true := by decide +kernel
theorem cw9 : ∀ w ∈ u_ws RX9 TX9 12, w ∈ lw_tbl ∧ goodWord w = true := by decide +kernel
theorem cw10 : ∀ w ∈ u_ws RX10 TX10 6, w ∈ lw_tbl ∧ goodWord w = true := by decide +kernel
theorem cw11 : ∀ w ∈ u_ws RX11 TX11 17, w ∈ lw_tbl ∧ goodWord w = true := by decide +kernel
theorem cw12 : ∀ w ∈ u_ws RX12 TX12 46, w ∈ lw_tbl ∧ goodWord w = true := by decide +kernel
theorem clsOk : ∀ (t : Nat) (q : vw_C), cls[t]? = some q → ClsOk t q
  | 0, _, h => by cases h; exact ⟨cw0, tyX0_ok, nmX0⟩
  | 1, _, h => by cases h; exact ⟨cw1, tyX1_ok, nmX1⟩
  | 2, _, h => by cases h; exact ⟨cw2, tyX2_ok, nmX2⟩
  | 3, _, h => by cases h; exact ⟨cw3, tyX3_ok, nmX3⟩
  | 4, _, h => by cases h; exact ⟨cw4, tyX4_ok, nmX4⟩
  | 5, _, h => by cases h; exact ⟨cw5, tyX5_ok, nmX5⟩
  | 6, _, h => by cases h; exact ⟨cw6, tyX6_ok, nmX6⟩
  | 7, _, h => by cases h; exact ⟨cw7, tyX7_ok, nmX7⟩
  | 8, _, h => by cases h; exact ⟨cw8, tyX8_ok, nmX8⟩
  | 9, _, h => by cases h; exact ⟨cw9, tyX9_ok, nmX9⟩
  | 10, _, h => by cases h; exact ⟨cw10, tyX10_ok, nmX10⟩
  | 11, _, h => by cases h; exact ⟨cw11, tyX11_ok, nmX11⟩
  | 12, _, h => by cases h; exact ⟨cw12, tyX12_ok, nmX12⟩
  | t + 13, _, h => by simp [cls] at h
theorem cls_lt {t : Nat} {q : vw_C} (h : cls[t]? = some q) : t < 100 := by
  have := (List.getElem?_eq_some_iff.mp h).1
  have e : cls.length = 13 := rfl
  omega
theorem Ctx.tb {y : MD} {D : DD} {B : Nat} {Hb : Heap} {cs : Nat → Nat} {p : Program} {s : State} {m : MethodId} {args : Array Value} {meth : Method} {c : Code} (C : Ctx y D B Hb cs p s m args meth c) : ∀ w ∈ TB, w.before args s = true := fun w hw => C.2.2.2.2.2.2.2.1 w (List.mem_filter.mp hw).1 (List.mem_filter.mp hw).2
theorem Ctx.kk {y : MD} {D : DD} {B : Nat} {Hb : Heap} {cs : Nat → Nat} {p : Program} {s : State} {m : MethodId} {args : Array Value} {meth : Method} {c : Code} (C : Ctx y D B Hb cs p s m args meth c) : KK D B Hb cs s := C.2.2.2.2.2.2.2.2
theorem Ctx.word {y : MD} {D : DD} {B : Nat} {Hb : Heap} {cs : Nat → Nat} {p : Program} {s : State} {m : MethodId} {args : Array Value} {meth : Method} {c : Code} (C : Ctx y D B Hb cs p s m args meth c) {w : Cond} (h : w ∈ lw_tbl) (hg : goodWord w = true) : w.before args s = true := C.2.2.2.2.2.2.2.1 w h hg
theorem Ctx.own {y : MD} {D : DD} {B : Nat} {Hb : Heap} {cs : Nat → Nat} {p : Program} {s : State} {m : MethodId} {args : Array Value} {meth : Method} {c : Code} (C : Ctx y D B Hb cs p s m args meth c) : s.vm.findClass y.1.cls = some m.cls := C.2.2.2.2.2.1
theorem ClsOk.in {t : Nat} {q : vw_C} (h : ClsOk t q) : ∀ w ∈ u_ws q.1 q.2.1 q.2.2, w ∈ TB := fun w hw => List.mem_filter.mpr (h.1 w hw)
theorem CellIs.obj {D : DD} {a t n : Nat} {r : Nat → Option Nat} {z : Nat → Int} {H : Heap} {q : vw_C} (h : CellIs D a t n r z H) (hq : cls[t]? = some q) : t_OB a (D.1 t) q.2.2 (D.2.1 t) H (fun k => vl (fty t k) (z k) (r k)) := by
  rcases h with ⟨-, q', hq', h⟩ | ⟨h1, -⟩
  · cases hq.symm.trans hq'
    exact h
  · have := cls_lt hq
    simp [atags] at h1
    omega
theorem CellIs.arr {D : DD} {a t n : Nat} {r : Nat → Option Nat} {z : Nat → Int} {H : Heap} (h : CellIs D a t n r z H) (ht : t ∈ atags) (ht2 : t < 200 := by first | assumption | decide) : H[a]? = some (arrV (D.2.2 t) n (fun j => vl (aty t) (z j) (r j))) := by
  rcases h with ⟨h1, -⟩ | ⟨-, h, -⟩
  · simp [atags] at ht
    omega
  · exact h ht2
theorem CellIs.old {D : DD} {a t n : Nat} {r : Nat → Option Nat} {z : Nat → Int} {H : Heap} (h : CellIs D a t n r z H) (ht : t ∈ atags) : Old D a t n r z H := by
  rcases h with ⟨h1, -⟩ | ⟨-, -, h⟩
  · simp [atags] at ht
    omega
  · exact h
theorem CellIs.new {D : DD} {a t n : Nat} {r : Nat → Option Nat} {z : Nat → Int} {H : Heap} (ht : t ∈ atags) (e : H[a]? = some (arrV (D.2.2 t) n (fun j => vl (aty t) (z j) (r j)))) : CellIs D a t n r z H :=
  Or.inr ⟨ht, fun _ => e, _, e, Or.inl rfl, (fun _ h => by cases h), (fun h => by cases h), ⟨Nat.le_of_eq (arrV_size _ _ _).symm, congrArg Nat.toInt32 (arrV_size _ _ _)⟩, fun j hj => arrV_read _ _ hj⟩
theorem CellIs.kept {D : DD} {a t n : Nat} {r : Nat → Option Nat} {z : Nat → Int} {H H' : Heap} (h : CellIs D a t n r z H) (e : H'[a]? = H[a]?) : CellIs D a t n r z H' := by
  rcases h with ⟨h1, q, hq, h⟩ | ⟨h1, h, cell, g, g2⟩
  · exact Or.inl ⟨h1, q, hq, h.kept e⟩
  · exact Or.inr ⟨h1, fun q => e.trans (h q), cell, e.trans g, g2⟩
theorem CellIs.lt {D : DD} {a t n : Nat} {r : Nat → Option Nat} {z : Nat → Int} {H : Heap} (h : CellIs D a t n r z H) : a < H.size := by
  rcases h with ⟨h1, q, hq, cell, h, -⟩ | ⟨h1, h, cell, g, g2⟩
  · exact (Array.getElem?_eq_some_iff.mp h).1
  · exact (Array.getElem?_eq_some_iff.mp g).1
theorem old_is {D : DD} {s : State} {t a : Nat} {cell : Cell} (hA : ArrOfT s (D.2.2 t) (aty t)) (hO : ∀ j : Nat, ArrOfT s (D.2.2 (t + 1000 * (j + 1))) (aty t)) (h1 : cell.cls = D.2.2 t ∨ cell.cls = D.2.2 (t + 1000 * (a + 1))) (h2 : ∀ k : ClassId, cell.vm ≠ .statics k) : s.isArrayOf cell (aty t) := by
  rcases h1 with h1 | h1
  · obtain ⟨-, k, hk, comp, hc⟩ := hA 0 (fun _ => .null)
    exact ⟨h2, k, by rw [h1]; exact hk, comp, hc⟩
  · obtain ⟨-, k, hk, comp, hc⟩ := hO a 0 (fun _ => .null)
    exact ⟨h2, k, by rw [h1]; exact hk, comp, hc⟩
theorem Rep.put {D : DD} {B : Nat} {Hb H H' : Heap} {x x' : Wx} {Z Z' : Zt} {a t n : Nat} (h : Rep D B Hb x Z H) (hS : x.1 a = some (t, n)) (ht : t < 200) (hx : x'.1 = x.1 ∧ x'.2.2 = x.2.2) (ho : ∀ b, b ≠ a → Z' b = Z b ∧ x'.2.1 b = x.2.1 b) (hz : H'.size = H.size) (hk : ∀ q, q ≠ a → H'[q]? = H[q]?) (hc : CellIs D a t n (x'.2.1 a) (Z' a) H') : Rep D B Hb x' Z' H' := by
  obtain ⟨h1, h2, h3, h4⟩ := h
  have hB := (h4 a t n hS).1 ht
  refine ⟨by rw [hz, h1, hx.2], fun q hq => by rw [hk q (by omega)]; exact h2 q hq, by omega, fun b t' n' hb => ?_⟩
  rw [hx.1] at hb
  by_cases e : b = a
  · subst e
    rw [hS] at hb
    cases hb
    exact ⟨fun _ => hB, hc⟩
  · obtain ⟨e1, e2⟩ := ho b e
    rw [e1, e2]
    exact ⟨(h4 b t' n' hb).1, (h4 b t' n' hb).2.kept (hk b e)⟩
section VH
variable {y : MD} {k n pc : Nat} {lv lv' : List (Option Value)} {st : List Value} {x : Wx} {Z : Zt} {Q : Option Value → Wx → Zt → Prop}
theorem V_get {t n0 f idx a : Nat} {q : vw_C} (hS : x.1 a = some (t, n0)) (hq : cls[t]? = some q) (hf : f < q.2.2) (hlk : Cond.fieldLink y.1.cls idx (q.2.1 f).1 (q.2.1 f).2.1 (q.2.1 f).2.2.1 ∈ lw_tbl) (hd : decode y.2.1 pc = .ok (.getfield idx, 3)) (kk : V y k n (pc + 3) lv (vl (fty t f) (Z a f) (x.2.1 a f) :: st) x Z Q) : V y k n pc lv (r_ a :: st) x Z Q := by
  intro D B Hb p l e R s m args below meth c H locs cells slots QF ls C hR hL hm hl hret
  obtain ⟨cell, q1, q2, q3, q4⟩ := (hR.2.2.2 a t n0 hS).2.obj hq
  obtain ⟨hSl, hfc, kC, hkC, hkind⟩ := C.kk.1 t q hq
  obtain ⟨cf, kf, fi, fd, hi, hsl⟩ := hSl f hf
  exact W.getf C.1 C.2.1 C.own (C.word hlk rfl) hi (u_facts hfc hkC (u_lays C.tb (clsOk t q hq).in hf) hi).1 q1 (by rw [q3]; exact fun h => by cases h) (by rw [hsl]; exact q4 f hf) rfl rfl hd (kk D B Hb p l e R s m args below meth c H locs cells slots QF ls C hR hL hm hl hret)
theorem V_getR {t n0 f idx a b : Nat} {q : vw_C} (hS : x.1 a = some (t, n0)) (hq : cls[t]? = some q) (hf : f < q.2.2) (hlk : Cond.fieldLink y.1.cls idx (q.2.1 f).1 (q.2.1 f).2.1 (q.2.1 f).2.2.1 ∈ lw_tbl) (hb : x.2.1 a f = some b) (hty : ∀ z r, vl (fty t f) z r = va_rf r) (hd : decode y.2.1 pc = .ok (.getfield idx, 3)) (kk : V y k n (pc + 3) lv (r_ b :: st) x Z Q) : V y k n pc lv (r_ a :: st) x Z Q :=
  V_get hS hq hf hlk hd (by rw [hty, hb]; exact kk)
theorem fld_apart {D : DD} {B : Nat} {Hb : Heap} {cs : Nat → Nat} {s : State} {args : Array Value} {t : Nat} {q : vw_C} (hK : KK D B Hb cs s) (htb : ∀ w ∈ TB, w.before args s = true) (hq : cls[t]? = some q) : ∀ a b, a < q.2.2 → b < q.2.2 → a ≠ b → D.2.1 t a ≠ D.2.1 t b := by
  obtain ⟨C, T, N⟩ := q
  exact va_apart (own := "") (D := (D.1, D.2.1)) (tys := []) htb (clsOk t _ hq).in (fty t) (clsOk t _ hq).2.1 (clsOk t _ hq).2.2 ⟨hK.1, fun k q h => by simp at h⟩ hq
/-- a number's field is written -/
theorem V_putI {t n0 f idx a : Nat} {z : Int} {q : vw_C} (hS : x.1 a = some (t, n0)) (hq : cls[t]? = some q) (hf : f < q.2.2) (hlk : Cond.fieldLink y.1.cls idx (q.2.1 f).1 (q.2.1 f).2.1 (q.2.1 f).2.2.1 ∈ lw_tbl) (hfin : (q.2.1 f).2.2.2 = false) (hty : ∀ r, vl (fty t f) z r = vl (fty t f) z none) (hn : narrow (fty t f) (vl (fty t f) z none) = vl (fty t f) z none) (hfit : fits (fty t f) (vl (fty t f) z none) = true) (hd : decode y.2.1 pc = .ok (.putfield idx, 3)) (kk : V y k n (pc + 3) lv st x (up Z a f z) Q) : V y k n pc lv (vl (fty t f) z none :: r_ a :: st) x Z Q := by
  intro D B Hb p l e R s m args below meth c H locs cells slots QF ls C hR hL hm hl hret
  obtain ⟨hB, hcell⟩ := hR.2.2.2 a t n0 hS
  obtain ⟨cell, q1, q2, q3, q4⟩ := hcell.obj hq
  obtain ⟨hSl, hfc, kC, hkC, hkind⟩ := C.kk.1 t q hq
  obtain ⟨cf, kf, fi, fd, hi, hsl⟩ := hSl f hf
  have hap := fld_apart C.kk C.tb hq
  have hlay := C.tb _ ((clsOk t q hq).in _ (u_in_lay hf))
  unfold u_lay at hlay
  rw [if_neg (by rw [hfin]; decide)] at hlay
  have hst := (u_facts hfc hkC (u_lays C.tb (clsOk t q hq).in hf) hi).1
  have h6 := u_store hfc hkC hkind hlay hi ((clsOk t q hq).2.1 f hf) hn hfit
  have ht : t < 100 := cls_lt hq
  refine W.putK C.1 C.2.1 (f := fd) ⟨C.own, C.word hlk rfl, ⟨_, _, _, hi⟩, hst⟩ (by rw [q2]; exact h6) q1 q3 (by rw [hsl]; exact k2_hasslot (q4 f hf)) rfl rfl hd fun H' e1 e2 e3 => ?_
  rw [hsl] at e1 ⊢
  refine kk D B Hb p l e R s m args below meth c H' _ cells slots QF ls C (hR.put hS (by omega) ⟨rfl, rfl⟩ (fun b hb => ⟨funext fun i => up_ne Z a f z b i (Or.inl hb), rfl⟩) e2 e3 (Or.inl ⟨ht, q, hq, _, e1, q2, q3, ?_⟩)) (fun l hl => ?_) hm hl hret
  · intro j hj
    rw [t_set q4 hap hf _ j hj]
    by_cases hjf : j = f
    · subst hjf
      simp [updV, up_self, hty]
    · simp [updV, hjf, up_ne Z a f z a j (Or.inr hjf)]
  · rcases List.mem_append.mp hl with h | h
    · exact hL l h
    · rw [List.mem_singleton.mp h]
      exact hB (by omega)
/-- a reference's field is written; fin: a final one, in its class's constructor -/
theorem V_putR {t n0 f idx a : Nat} {r : Option Nat} {q : vw_C} (hS : x.1 a = some (t, n0)) (hq : cls[t]? = some q) (hf : f < q.2.2) (hlk : Cond.fieldLink y.1.cls idx (q.2.1 f).1 (q.2.1 f).2.1 (q.2.1 f).2.2.1 ∈ lw_tbl) (hfin : (q.2.1 f).2.2.2 = false ∨ ((q.2.1 f).2.2.2 = true ∧ y.1.name = "<init>" ∧ (q.2.1 f).1 = y.1.cls)) (hty : ∀ z r, vl (fty t f) z r = va_rf r) (hn : narrow (fty t f) (va_rf r) = va_rf r) (hfit : fits (fty t f) (va_rf r) = true) (hd : decode y.2.1 pc = .ok (.putfield idx, 3)) (kk : V y k n (pc + 3) lv st (x.1, upR x.2.1 a f r, x.2.2) Z Q) : V y k n pc lv (va_rf r :: r_ a :: st) x Z Q := by
  intro D B Hb p l e R s m args below meth c H locs cells slots QF ls C hR hL hm hl hret
  obtain ⟨hB, hcell⟩ := hR.2.2.2 a t n0 hS
  obtain ⟨cell, q1, q2, q3, q4⟩ := hcell.obj hq
  obtain ⟨hSl, hfc, kC, hkC, hkind⟩ := C.kk.1 t q hq
  obtain ⟨cf, kf, fi, fd, hi, hsl⟩ := hSl f hf
  have hap := fld_apart C.kk C.tb hq
  have hlay := C.tb _ ((clsOk t q hq).in _ (u_in_lay hf))
  unfold u_lay at hlay
  have hst := (u_facts hfc hkC (u_lays C.tb (clsOk t q hq).in hf) hi).1
  have ht : t < 100 := cls_lt hq
  have fin : ∀ (H' : Heap), H'[a]? = some (cell.setSlot fd.slot (va_rf r)) → H'.size = H.size → (∀ q, q ≠ a → H'[q]? = H[q]?) → W p l e R s m args below meth c H' (locs ++ [⟨a, fd.slot⟩]) cells slots QF (F0 m (pc + 3) ls st) := by
    intro H' e1 e2 e3
    rw [hsl] at e1 ⊢
    refine kk D B Hb p l e R s m args below meth c H' _ cells slots QF ls C (hR.put hS (by omega) ⟨rfl, rfl⟩ (fun b hb => ⟨rfl, funext fun i => by simp [upR, hb]⟩) e2 e3 (Or.inl ⟨ht, q, hq, _, e1, q2, q3, ?_⟩)) (fun l hl => ?_) hm hl hret
    · intro j hj
      rw [t_set q4 hap hf _ j hj]
      by_cases hjf : j = f
      · subst hjf
        simp [updV, upR, hty]
      · simp [updV, hjf, upR]
    · rcases List.mem_append.mp hl with h | h
      · exact hL l h
      · rw [List.mem_singleton.mp h]
        exact hB (by omega)
  rcases hfin with hfin | ⟨hfin, hini, hdecl⟩
  · rw [if_neg (by rw [hfin]; decide)] at hlay
    have h6 := u_store hfc hkC hkind hlay hi ((clsOk t q hq).2.1 f hf) hn hfit
    exact W.putK C.1 C.2.1 (f := fd) ⟨C.own, C.word hlk rfl, ⟨_, _, _, hi⟩, hst⟩ (by rw [q2]; exact h6) q1 q3 (by rw [hsl]; exact k2_hasslot (q4 f hf)) rfl rfl hd fin
  · rw [if_pos hfin] at hlay
    have hcf : m.cls = cf := by
      obtain ⟨_, _, c', _, _, _, -, -, hf', -, -, -, hown2, -⟩ := Cond.laysFinal_spec hlay
      have e1 : c' = cf := by have := hi.symm.trans hf'; simp at this; exact this.1.symm
      rw [hdecl] at hown2
      rw [← e1]; exact Option.some.inj (C.own.symm.trans hown2)
    have h6 := u_fits hfc hkC hkind (Or.inr hlay) hi ((clsOk t q hq).2.1 f hf) hn hfit
    exact W.putFinK C.1 C.2.1 C.own (C.word hlk rfl) hi hst hcf (C.2.2.2.2.2.2.1.trans hini) (by rw [q2]; exact h6) q1 q3 (by rw [hsl]; exact k2_hasslot (q4 f hf)) rfl rfl hd fin
theorem V_iald {t N a : Nat} {j : Int} (hS : x.1 a = some (t, N)) (ht : t ∈ atags) (hty : aty t = .int) (h0 : 0 ≤ j) (h1 : j < N) (hN : N ≤ 2147483647) (hd : decode y.2.1 pc = .ok (.iaload, 1)) (kk : V y k n (pc + 1) lv (i_ (Z a j.toNat) :: st) x Z Q) : V y k n pc lv (i_ j :: r_ a :: st) x Z Q := by
  intro D B Hb p l e R s m args below meth c H locs cells slots QF ls C hR hL hm hl hret
  have hj : Rg j := ⟨by omega, by omega⟩
  obtain ⟨cell, g1, g2, g3, g4, g5, g6⟩ := (hR.2.2.2 a t N hS).2.old ht
  have hA := old_is (C.kk.2.1 t ht).1 (C.kk.2.2.2.2.2.2.2 t ht) g2 g3
  rw [hty] at hA g6
  exact W.iald (v := i_ (Z a j.toNat)) C.1 C.2.1 g1 hA g4 (fun q => rg_in h0 h1 hj (q.imp id (Nat.le_trans g5.1))) (by rw [rg_nat h0 hj]; exact g6 j.toNat (by omega)) rfl rfl hd (kk D B Hb p l e R s m args below meth c H locs cells slots QF ls C hR hL hm hl hret)
theorem V_bald {t N a : Nat} {j : Int} (hS : x.1 a = some (t, N)) (ht : t ∈ atags) (hty : aty t = .byte) (h0 : 0 ≤ j) (h1 : j < N) (hN : N ≤ 2147483647) (hd : decode y.2.1 pc = .ok (.baload, 1)) (kk : V y k n (pc + 1) lv (i_ (Z a j.toNat) :: st) x Z Q) : V y k n pc lv (i_ j :: r_ a :: st) x Z Q := by
  intro D B Hb p l e R s m args below meth c H locs cells slots QF ls C hR hL hm hl hret
  have hj : Rg j := ⟨by omega, by omega⟩
  obtain ⟨cell, g1, g2, g3, g4, g5, g6⟩ := (hR.2.2.2 a t N hS).2.old ht
  have hA := old_is (C.kk.2.1 t ht).1 (C.kk.2.2.2.2.2.2.2 t ht) g2 g3
  rw [hty] at hA g6
  exact W.bald (v := i_ (Z a j.toNat)) C.1 C.2.1 g1 hA g4 (fun q => rg_in h0 h1 hj (q.imp id (Nat.le_trans g5.1))) (by rw [rg_nat h0 hj]; exact g6 j.toNat (by omega)) rfl rfl hd (kk D B Hb p l e R s m args below meth c H locs cells slots QF ls C hR hL hm hl hret)
theorem V_zald {t N a : Nat} {j : Int} (hS : x.1 a = some (t, N)) (ht : t ∈ atags) (hty : aty t = .boolean) (h0 : 0 ≤ j) (h1 : j < N) (hN : N ≤ 2147483647) (hd : decode y.2.1 pc = .ok (.baload, 1)) (kk : V y k n (pc + 1) lv (i_ (Z a j.toNat) :: st) x Z Q) : V y k n pc lv (i_ j :: r_ a :: st) x Z Q := by
  intro D B Hb p l e R s m args below meth c H locs cells slots QF ls C hR hL hm hl hret
  have hj : Rg j := ⟨by omega, by omega⟩
  obtain ⟨cell, g1, g2, g3, g4, g5, g6⟩ := (hR.2.2.2 a t N hS).2.old ht
  have hA := old_is (C.kk.2.1 t ht).1 (C.kk.2.2.2.2.2.2.2 t ht) g2 g3
  rw [hty] at hA g6
  exact W.zald (v := i_ (Z a j.toNat)) C.1 C.2.1 g1 hA g4 (fun q => rg_in h0 h1 hj (q.imp id (Nat.le_trans g5.1))) (by rw [rg_nat h0 hj]; exact g6 j.toNat (by omega)) rfl rfl hd (kk D B Hb p l e R s m args below meth c H locs cells slots QF ls C hR hL hm hl hret)
theorem V_lald {t N a : Nat} {j : Int} (hS : x.1 a = some (t, N)) (ht : t ∈ atags) (hty : aty t = .long) (h0 : 0 ≤ j) (h1 : j < N) (hN : N ≤ 2147483647) (hd : decode y.2.1 pc = .ok (.laload, 1)) (kk : V y k n (pc + 1) lv (l_ (Z a j.toNat) :: st) x Z Q) : V y k n pc lv (i_ j :: r_ a :: st) x Z Q := by
  intro D B Hb p l e R s m args below meth c H locs cells slots QF ls C hR hL hm hl hret
  have hj : Rg j := ⟨by omega, by omega⟩
  obtain ⟨cell, g1, g2, g3, g4, g5, g6⟩ := (hR.2.2.2 a t N hS).2.old ht
  have hA := old_is (C.kk.2.1 t ht).1 (C.kk.2.2.2.2.2.2.2 t ht) g2 g3
  rw [hty] at hA g6
  exact W.lald (v := l_ (Z a j.toNat)) C.1 C.2.1 g1 hA g4 (fun q => rg_in h0 h1 hj (q.imp id (Nat.le_trans g5.1))) (by rw [rg_nat h0 hj]; exact g6 j.toNat (by omega)) rfl rfl hd (kk D B Hb p l e R s m args below meth c H locs cells slots QF ls C hR hL hm hl hret)
theorem V_aald {t N a : Nat} {j : Int} (hS : x.1 a = some (t, N)) (ht : t ∈ atags) (hty : ∀ z r, vl (aty t) z r = va_rf r) (href : (aty t).isReference = true) (h0 : 0 ≤ j) (h1 : j < N) (hN : N ≤ 2147483647) (hd : decode y.2.1 pc = .ok (.aaload, 1)) (kk : V y k n (pc + 1) lv (va_rf (x.2.1 a j.toNat) :: st) x Z Q) : V y k n pc lv (i_ j :: r_ a :: st) x Z Q := by
  intro D B Hb p l e R s m args below meth c H locs cells slots QF ls C hR hL hm hl hret
  have hj : Rg j := ⟨by omega, by omega⟩
  obtain ⟨cell, g1, g2, g3, g4, g5, g6⟩ := (hR.2.2.2 a t N hS).2.old ht
  have hA := old_is (C.kk.2.1 t ht).1 (C.kk.2.2.2.2.2.2.2 t ht) g2 g3
  exact W.aald (v := va_rf (x.2.1 a j.toNat)) C.1 C.2.1 g1 hA href g4 (fun q => rg_in h0 h1 hj (q.imp id (Nat.le_trans g5.1))) (by rw [rg_nat h0 hj, g6 j.toNat (by omega), hty]) rfl rfl hd (kk D B Hb p l e R s m args below meth c H locs cells slots QF ls C hR hL hm hl hret)
theorem V_alen {t N a : Nat} (hS : x.1 a = some (t, N)) (ht : t ∈ atags) (hN : N ≤ 2147483647) (hd : decode y.2.1 pc = .ok (.arraylength, 1)) (kk : V y k n (pc + 1) lv (i_ (N : Int) :: st) x Z Q) : V y k n pc lv (r_ a :: st) x Z Q := by
  intro D B Hb p l e R s m args below meth c H locs cells slots QF ls C hR hL hm hl hret
  obtain ⟨cell, g1, g2, g3, g4, g5, g6⟩ := (hR.2.2.2 a t N hS).2.old ht
  exact W.alen (n := Int32.ofInt (N : Int)) C.1 C.2.1 g1 (old_is (C.kk.2.1 t ht).1 (C.kk.2.2.2.2.2.2.2 t ht) g2 g3) (by rw [g5.2, Int32.ofInt_eq_ofNat]) rfl rfl hd (kk D B Hb p l e R s m args below meth c H locs cells slots QF ls C hR hL hm hl hret)
theorem V_iast {t N a : Nat} {j v : Int} (hS : x.1 a = some (t, N)) (ht : t ∈ atags) (ht2 : t < 200) (hty : aty t = .int) (h0 : 0 ≤ j) (h1 : j < N) (hN : N ≤ 2147483647) (hd : decode y.2.1 pc = .ok (.iastore, 1)) (kk : V y k n (pc + 1) lv st x (up Z a j.toNat v) Q) : V y k n pc lv (i_ v :: i_ j :: r_ a :: st) x Z Q := by
  intro D B Hb p l e R s m args below meth c H locs cells slots QF ls C hR hL hm hl hret
  have hj : Rg j := ⟨by omega, by omega⟩
  obtain ⟨hB, hcell⟩ := hR.2.2.2 a t N hS
  have hc := hcell.arr ht
  have ha := (C.kk.2.1 t ht).1 N (fun j => vl (aty t) (Z a j) (x.2.1 a j))
  rw [hty] at hc ha
  refine W.iast C.1 C.2.1 hc ha (fun h => by cases h) (by rw [arrV_size]; exact rg_in h0 h1 hj) rfl rfl hd fun H' e1 e2 e3 => ?_
  rw [arrV_store, rg_nat h0 hj] at e1
  refine kk D B Hb p l e R s m args below meth c H' _ cells slots QF ls C (hR.put hS ht2 ⟨rfl, rfl⟩ (fun b hb => ⟨funext fun i => up_ne Z a _ v b i (Or.inl hb), rfl⟩) e2 e3 (CellIs.new ht ?_)) (fun l hl => ?_) hm hl hret
  · rw [e1, hty]
    congr 2
    funext q
    by_cases hq : q = j.toNat
    · subst hq
      simp [updV, up_self, vl]
    · simp [updV, hq, up_ne Z a j.toNat v a q (Or.inr hq)]
  · rcases List.mem_append.mp hl with h | h
    · exact hL l h
    · rw [List.mem_singleton.mp h]
      exact hB ht2
theorem V_bast {t N a : Nat} {j v : Int} (hS : x.1 a = some (t, N)) (ht : t ∈ atags) (ht2 : t < 200) (hty : aty t = .byte) (h0 : 0 ≤ j) (h1 : j < N) (hN : N ≤ 2147483647) (hv : narrow .byte (i_ v) = i_ v) (hd : decode y.2.1 pc = .ok (.bastore, 1)) (kk : V y k n (pc + 1) lv st x (up Z a j.toNat v) Q) : V y k n pc lv (i_ v :: i_ j :: r_ a :: st) x Z Q := by
  intro D B Hb p l e R s m args below meth c H locs cells slots QF ls C hR hL hm hl hret
  have hj : Rg j := ⟨by omega, by omega⟩
  obtain ⟨hB, hcell⟩ := hR.2.2.2 a t N hS
  have hc := hcell.arr ht
  have ha := (C.kk.2.1 t ht).1 N (fun j => vl (aty t) (Z a j) (x.2.1 a j))
  rw [hty] at hc ha
  refine W.bast C.1 C.2.1 hc ha (fun h => by cases h) (by rw [arrV_size]; exact rg_in h0 h1 hj) rfl rfl hd fun H' e1 e2 e3 => ?_
  rw [hv] at e1; rw [arrV_store, rg_nat h0 hj] at e1
  refine kk D B Hb p l e R s m args below meth c H' _ cells slots QF ls C (hR.put hS ht2 ⟨rfl, rfl⟩ (fun b hb => ⟨funext fun i => up_ne Z a _ v b i (Or.inl hb), rfl⟩) e2 e3 (CellIs.new ht ?_)) (fun l hl => ?_) hm hl hret
  · rw [e1, hty]
    congr 2
    funext q
    by_cases hq : q = j.toNat
    · subst hq
      simp [updV, up_self, vl]
    · simp [updV, hq, up_ne Z a j.toNat v a q (Or.inr hq)]
  · rcases List.mem_append.mp hl with h | h
    · exact hL l h
    · rw [List.mem_singleton.mp h]
      exact hB ht2
theorem V_zast {t N a : Nat} {j v : Int} (hS : x.1 a = some (t, N)) (ht : t ∈ atags) (ht2 : t < 200) (hty : aty t = .boolean) (h0 : 0 ≤ j) (h1 : j < N) (hN : N ≤ 2147483647) (hv : narrow .boolean (i_ v) = i_ v) (hd : decode y.2.1 pc = .ok (.bastore, 1)) (kk : V y k n (pc + 1) lv st x (up Z a j.toNat v) Q) : V y k n pc lv (i_ v :: i_ j :: r_ a :: st) x Z Q := by
  intro D B Hb p l e R s m args below meth c H locs cells slots QF ls C hR hL hm hl hret
  have hj : Rg j := ⟨by omega, by omega⟩
  obtain ⟨hB, hcell⟩ := hR.2.2.2 a t N hS
  have hc := hcell.arr ht
  have ha := (C.kk.2.1 t ht).1 N (fun j => vl (aty t) (Z a j) (x.2.1 a j))
  rw [hty] at hc ha
  refine W.zast C.1 C.2.1 hc ha (fun h => by cases h) (by rw [arrV_size]; exact rg_in h0 h1 hj) rfl rfl hd fun H' e1 e2 e3 => ?_
  rw [hv] at e1; rw [arrV_store, rg_nat h0 hj] at e1
  refine kk D B Hb p l e R s m args below meth c H' _ cells slots QF ls C (hR.put hS ht2 ⟨rfl, rfl⟩ (fun b hb => ⟨funext fun i => up_ne Z a _ v b i (Or.inl hb), rfl⟩) e2 e3 (CellIs.new ht ?_)) (fun l hl => ?_) hm hl hret
  · rw [e1, hty]
    congr 2
    funext q
    by_cases hq : q = j.toNat
    · subst hq
      simp [updV, up_self, vl]
    · simp [updV, hq, up_ne Z a j.toNat v a q (Or.inr hq)]
  · rcases List.mem_append.mp hl with h | h
    · exact hL l h
    · rw [List.mem_singleton.mp h]
      exact hB ht2
theorem V_last {t N a : Nat} {j v : Int} (hS : x.1 a = some (t, N)) (ht : t ∈ atags) (ht2 : t < 200) (hty : aty t = .long) (h0 : 0 ≤ j) (h1 : j < N) (hN : N ≤ 2147483647) (hd : decode y.2.1 pc = .ok (.lastore, 1)) (kk : V y k n (pc + 1) lv st x (up Z a j.toNat v) Q) : V y k n pc lv (l_ v :: i_ j :: r_ a :: st) x Z Q := by
  intro D B Hb p l e R s m args below meth c H locs cells slots QF ls C hR hL hm hl hret
  have hj : Rg j := ⟨by omega, by omega⟩
  obtain ⟨hB, hcell⟩ := hR.2.2.2 a t N hS
  have hc := hcell.arr ht
  have ha := (C.kk.2.1 t ht).1 N (fun j => vl (aty t) (Z a j) (x.2.1 a j))
  rw [hty] at hc ha
  refine W.last C.1 C.2.1 hc ha (fun h => by cases h) (by rw [arrV_size]; exact rg_in h0 h1 hj) rfl rfl hd fun H' e1 e2 e3 => ?_
  rw [arrV_store, rg_nat h0 hj] at e1
  refine kk D B Hb p l e R s m args below meth c H' _ cells slots QF ls C (hR.put hS ht2 ⟨rfl, rfl⟩ (fun b hb => ⟨funext fun i => up_ne Z a _ v b i (Or.inl hb), rfl⟩) e2 e3 (CellIs.new ht ?_)) (fun l hl => ?_) hm hl hret
  · rw [e1, hty]
    congr 2
    funext q
    by_cases hq : q = j.toNat
    · subst hq
      simp [updV, up_self, vl]
    · simp [updV, hq, up_ne Z a j.toNat v a q (Or.inr hq)]
  · rcases List.mem_append.mp hl with h | h
    · exact hL l h
    · rw [List.mem_singleton.mp h]
      exact hB ht2
end VH
