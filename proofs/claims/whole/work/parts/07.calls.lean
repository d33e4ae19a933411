/-! ===== V: answers and calls ===== -/
theorem KK.same {D : DD} {B : Nat} {Hb : Heap} {cs : Nat → Nat} {s U : State} (hv : U.vm = s.vm) (h : KK D B Hb cs s) : KK D B Hb cs U := by
  obtain ⟨h1, h2, h3, h4, h5, h6, h7⟩ := h
  have ha : s.vm.Alike U.vm := by rw [hv]; exact Vm.Alike.refl _
  refine ⟨fun c q hq => u_Kn_moved ha (h1 c q hq), fun t ht => ⟨arrOfT_moved ha (h2 t ht).1, (h2 t ht).2.moved ha⟩, fun w hw hn => ?_, ⟨h4.1.moved ha, h4.2.moved ha⟩, fun j hj => (h5 j hj).moved ha, fun j hj => (h6 j hj).same hv, h7.1.moved ha, fun t ht j => arrOfT_moved ha (h7.2 t ht j)⟩
  have h := h3 w hw hn
  rcases hn with ⟨a, i, b, n, d, h, rfl⟩ | ⟨a, i, y, h, rfl⟩
  · exact va_Nw.same rfl hv.symm h
  · exact va_Nw.same rfl hv.symm h
def ent (nL : Nat) (vs : List Value) : List (Option Value) := vs.map some ++ List.replicate (nL - vs.length) none
theorem lg_sl_1 : ∀ (vs : List Value), (∀ v ∈ vs, v.category = 1) → lg_sl vs = vs.map Slot.val
  | [], _ => rfl
  | v :: vs, h => by
    have h1 := h v List.mem_cons_self
    have ih := lg_sl_1 vs (fun w hw => h w (List.mem_cons_of_mem _ hw))
    unfold lg_sl at ih ⊢
    rw [List.flatMap_cons, ih, if_neg (by omega)]
    rfl
theorem lv_args_1 : ∀ (vs : List Value) (i : Nat), (∀ v ∈ vs, v.category = 1) → ∀ (j : Nat) (v : Value), vs[j]? = some v → (i + j, v) ∈ lv_args i vs
  | [], _, _, j, v, h => by simp at h
  | w :: vs, i, hc, 0, v, h => by
    simp at h
    subst h
    exact List.mem_cons_self
  | w :: vs, i, hc, j + 1, v, h => by
    simp at h
    have h1 := hc w List.mem_cons_self
    have := lv_args_1 vs (i + 1) (fun u hu => hc u (List.mem_cons_of_mem _ hu)) j v h
    unfold lv_args
    rw [if_neg (by omega)]
    rw [show i + (j + 1) = i + 1 + j by omega]
    exact List.mem_cons_of_mem _ this
theorem LH_ent {nL : Nat} {vs : List Value} (hc : ∀ v ∈ vs, v.category = 1) (hn : vs.length ≤ nL) : LH ((lg_sl vs ++ List.replicate (nL - (lg_sl vs).length) Slot.unset).toArray) nL (ent nL vs) := by
  have e : (lg_sl vs).length = vs.length := by rw [lg_sl_1 vs hc, List.length_map]
  refine LH.of (lv_entry vs (n := nL) (by rw [e]; exact hn)) (fun i v h => ?_)
  unfold ent at h
  by_cases hi : i < vs.length
  · rw [List.getElem?_append_left (by rw [List.length_map]; exact hi), List.getElem?_map, List.getElem?_eq_getElem hi] at h
    simp at h
    have := lv_args_1 vs 0 hc i v (by rw [List.getElem?_eq_getElem hi, h])
    rwa [Nat.zero_add] at this
  · rw [List.getElem?_append_right (by rw [List.length_map]; omega), List.getElem?_replicate] at h
    split at h <;> cases h
/-- what the tables say of a method: its code, its class made ready, its parameters -/
def MOk (y : MD) (np : Nat) : Prop := Cond.code y.1 y.2.1 y.2.2.1 y.2.2.2.1 ∈ lw_tbl ∧ Cond.initialized y.1.cls ∈ lw_tbl ∧ plainName y.1.cls = true ∧ (y.1.cls ≠ "java/lang/invoke/MethodHandle" ∧ y.1.cls ≠ "java/lang/invoke/VarHandle") ∧ (parseMethodDescriptor y.1.desc).map (fun d => d.parameters.length) = some np
def wsM (y : MD) : List Cond := Cond.code y.1 y.2.1 y.2.2.1 y.2.2.2.1 :: TB
def rmM (y : MD) (k n : Nat) : Room := { frames := y.2.2.2.2.1, cells := k, slots := n, locals := y.2.2.2.2.2 }
def PcM (D : DD) (B : Nat) (Hb : Heap) (x : Wx) (Z : Zt) (vs : List Value) : Array Value → State → Prop := va_Pc vs (fun U => Rep D B Hb x Z U.heap ∧ KK D B Hb x.2.2.2 U)
def QcM (D : DD) (B : Nat) (Hb : Heap) (x : Wx) (Q : Option Value → Wx → Zt → Prop) : Array Value → State → Outcome → State → Prop := fun _ _ oc t => ∃ (v : Option Value) (x' : Wx) (Z' : Zt), oc = .returned v ∧ Q v x' Z' ∧ x'.2.2.2 = x.2.2.2 ∧ Rep D B Hb x' Z' t.heap
theorem met_of {y : MD} {np : Nat} (hM : MOk y np) (l : Launch) {D : DD} {B : Nat} {Hb : Heap} {x : Wx} {Z : Zt} {vs : List Value} {k n : Nat} {Q : Option Value → Wx → Zt → Prop} (hc : ∀ v ∈ vs, v.category = 1) (hn : vs.length ≤ y.2.2.1) (kk : V y k n 0 (ent y.2.2.1 vs) [] x Z Q) :
    Met l y.1 (wsM y) (rmM y k n) (PcM D B Hb x Z vs) (QcM D B Hb x Q) k n (fun q => B ≤ q) := by
  refine Met.ofW (cc := y.2.1) (maxL := y.2.2.1) (ret := y.2.2.2.1) hM.2.2.1 rfl ?_
  intro p e s m args below meth c s₁ Bd hml hv
  obtain ⟨rfl, hR, hK⟩ := hv
  have hts := atoms_spec (ws := wsM y) Bd.pre
  have hx := Bd.exec
  have hb := Bd.bytes
  have hr := Bd.returns
  have hlocks := Bd.notSynchronized
  have C : Ctx y D B Hb x.2.2.2 p s m vs.toArray meth c := ⟨hx, hb, hml, hr, hlocks, findClass_of_methodNamed Bd.named, (name_of_methodNamed Bd.named Bd.method).1, fun w hw hg => hts w (List.mem_cons_of_mem _ (List.mem_filter.mpr ⟨hw, hg⟩)), hK⟩
  rw [lg_entry_eq]
  refine kk D B Hb p l e _ s m _ below meth c s.heap [] 0 0 _ _ C hR (fun q hq => by simp at hq) ⟨Nat.le_refl _, Nat.le_refl _, ?_, ?_⟩ (LH_ent hc hn) ?_
  · show 0 + k ≤ k
    omega
  · show 0 + n ≤ n
    omega
  intro v x' Z' H' locs' cells' slots' pc' ls' hq hcs hR' hL' hc' hs' hro
  refine W.widen (k := k) (n := n) hc' hs' ?_
  have post : ∀ t : State, t.heap = H' → s.WarmedH t.vm → QcM D B Hb x Q vs.toArray s (.returned v) t := fun t ht _ => ⟨v, x', Z', rfl, hq, hcs, by rw [ht]; exact hR'⟩
  rcases hro with ⟨hd, z, ty, rfl, ht, hnar⟩ | ⟨hd, z, rfl, ht⟩ | ⟨hd, r, ty, rfl, ht, hty⟩ | ⟨hd, rfl, ht⟩
  · exact W.zret (ty := ty) hx hb (hr.trans ht) hnar post hL' hd
  · exact W.lret hx hb (hr.trans ht) post hL' hd
  · exact W.aret (rt := ty) hx hb (hr.trans ht) hty (by cases r <;> simp [va_rf]) post hL' hd
  · exact W.vret hx hb (hr.trans ht) post hL' hd
theorem blindM {D : DD} {B : Nat} {Hb : Heap} {x : Wx} {Z : Zt} {vs : List Value} : FrameBlind (PcM D B Hb x Z vs) := fun a U g mk h => ⟨h.1, h.2.1, KK.same (s := U) (U := U.calling g mk a) rfl h.2.2⟩
section VC
variable {y y' : MD} {k n k' n' pc np : Nat} {lv lv' : List (Option Value)} {st : List Value} {x : Wx} {Z : Zt} {Q : Option Value → Wx → Zt → Prop}
theorem run_to {p : Program} {l : Launch} {e : Env} {R : Room} {s : State} {m : MethodId} {args : Array Value} {below : List Frame} {meth : Method} {c : Code} {H : Heap} {locs : List Loc} {cells slots mc ms : Nat} {g : JFrame} {rest : List Value} {Qa : State → Outcome → State → Prop} {free : Addr → Prop} {QF : State → Prop}
    (hr : va_Run p l e R s m args below meth c H locs cells slots mc ms g rest Qa free) (kk : ∀ (v : Option Value) (st₀ t : State) (L : List Loc), Qa st₀ (.returned v) t → (∀ q ∈ L, free q.base) → W p l e R s m args below meth c t.heap (locs ++ L) (cells + mc) (slots + ms) QF { g with pc := g.pc + 3, stack := v.toList ++ rest }) : W p l e R s m args below meth c H locs cells slots QF g := by
  intro T hT X
  obtain ⟨v, st₀, t, T', L, h0, X', hL, hh, hvm, hQ, go⟩ := hr T hT X
  obtain ⟨t', a, b⟩ := kk v st₀ t L hQ hL T' hh X'
  exact ⟨t', go t' a, b⟩
theorem inTB {w : Cond} (h : w ∈ lw_tbl) (hg : goodWord w = true) : w ∈ TB := List.mem_filter.mpr ⟨h, hg⟩
theorem goodTB {w : Cond} (h : w ∈ TB) : w ∈ TB ∧ ((w.onTables && w.keeps) = true ∨ ∃ ty, w = .arrayClass ty) := ⟨h, good_of_word (List.mem_filter.mp h).2⟩
theorem good_wsM (hM : MOk y' np) : GoodIn TB (wsM y') := fun w hw => by
  rcases List.mem_cons.mp hw with rfl | h
  · exact goodTB (inTB hM.1 rfl)
  · exact goodTB h
/-- what is left of a call's frame: where the answer goes -/
theorem call_go {D : DD} {B : Nat} {Hb : Heap} {p : Program} {l : Launch} {e : Env} {R : Room} {s : State} {m : MethodId} {args : Array Value} {below : List Frame} {meth : Method} {c : Code} {H : Heap} {locs : List Loc} {cells slots : Nat} {QF : State → Prop} {ls : Array Slot} {rest : List Value} {A : Array Value}
    (C : Ctx y D B Hb x.2.2.2 p s m args meth c) (hL : ∀ q ∈ locs, B ≤ q.base) (hm : y.2.2.2.2.1 ≤ R.frames ∧ y.2.2.2.2.2 ≤ R.locals ∧ cells + k ≤ R.cells ∧ slots + n ≤ R.slots) (hl : LH ls y.2.2.1 lv) (hk : k' ≤ k) (hn : n' ≤ n)
    (hret : ∀ (v : Option Value) (x' : Wx) (Z' : Zt) (H' : Heap) (locs' : List Loc) (cells' slots' pc' : Nat) (ls' : Array Slot), Q v x' Z' → x'.2.2.2 = x.2.2.2 → Rep D B Hb x' Z' H' → (∀ q ∈ locs', B ≤ q.base) → cells' ≤ R.cells → slots' ≤ R.slots → RetOk y pc' v → W p l e R s m args below meth c H' locs' cells' slots' QF (F0 m pc' ls' v.toList))
    (hr : va_Run p l e R s m args below meth c H locs cells slots k' n' (F0 m pc ls st) rest (QcM D B Hb x (fun v x' Z' => V y (k - k') (n - n') (pc + 3) lv (v.toList ++ rest) x' Z' Q) A) (fun q => B ≤ q)) : W p l e R s m args below meth c H locs cells slots QF (F0 m pc ls st) := by
  refine run_to hr (fun v st₀ t L hQ hf => ?_)
  obtain ⟨v', x', Z', e1, hV, hcs, hR'⟩ := hQ
  cases e1
  refine hV D B Hb p l e R s m args below meth c t.heap (locs ++ L) (cells + k') (slots + n') QF ls (by rw [hcs]; exact C) hR' (fun q hq => ?_) ⟨hm.1, hm.2.1, by omega, by omega⟩ hl (fun v x'' Z'' H' locs' cells' slots' pc' ls' hq h2 => hret v x'' Z'' H' locs' cells' slots' pc' ls' hq (h2.trans hcs))
  rcases List.mem_append.mp hq with h | h
  · exact hL q h
  · exact hf q h
theorem V_callV {idx t n0 a : Nat} {q : vw_C} (As rest : List Value) (hM : MOk y' As.length) (hS : x.1 a = some (t, n0)) (hq : cls[t]? = some q) (hC : y'.1.cls = q.1) (hlk : Cond.methodLink y.1.cls idx y'.1 ∈ lw_tbl) (hin : Cond.instanceMethod y'.1 ∈ lw_tbl) (hsel : Cond.selects q.1 y'.1 y'.1 ∈ lw_tbl)
    (hfr : y'.2.2.2.2.1 + 1 ≤ y.2.2.2.2.1) (hlo : 8 + (y'.2.2.1 + 11) + y'.2.2.2.2.2 ≤ y.2.2.2.2.2) (hrest : (rest.map fun v => v.category).sum ≤ 8) (hcat : ∀ v ∈ (r_ a :: As), v.category = 1) (hlen : (r_ a :: As).length ≤ y'.2.2.1) (hk : k' ≤ k) (hn : n' ≤ n) (hst : st = As.reverse ++ r_ a :: rest) (hd : decode y.2.1 pc = .ok (.invokevirtual idx, 3))
    (kk : V y' k' n' 0 (ent y'.2.2.1 (r_ a :: As)) [] x Z (fun v x' Z' => V y (k - k') (n - n') (pc + 3) lv (v.toList ++ rest) x' Z' Q)) : V y k n pc lv st x Z Q := by
  intro D B Hb p l e R s m args below meth c H locs cells slots QF ls C hR hL hm hl hret
  subst hst
  obtain ⟨cell, q1, q2, q3, q4⟩ := (hR.2.2.2 a t n0 hS).2.obj hq
  obtain ⟨hSl, hfc, kC, hkC, hkind⟩ := C.kk.1 t q hq
  have hini : Cond.initialized q.1 ∈ lw_tbl := by rw [← hC]; exact hM.2.1
  refine call_go C hL hm hl hk hn hret (va_runV (C := q.1) (Ts := TB) (nL := y.2.2.1) ⟨C.1, C.2.1, C.2.2.1, C.own, C.tb⟩ (met_of hM l hcat hlen kk) (cwV As.length C.tb (fun w hw => ?_) rfl rfl rfl ⟨hC, hM.2.2.2.1.1, hM.2.2.2.1.2, hM.2.2.2.2⟩ ⟨by show y'.2.2.2.2.1 + 1 ≤ R.frames; omega, by show 8 + (y'.2.2.1 + 11) + y'.2.2.2.2.2 ≤ R.locals; omega⟩) ⟨blindM, ⟨cell, q1, by rw [q3]; rfl, by rw [q2]; exact hfc⟩, fun U hU hW => ⟨rfl, by rw [hU]; exact hR, C.kk.warm hW⟩⟩ rfl rfl hl.1 rfl (lv_room hrest) hd ⟨by omega, by omega⟩)
  rcases List.mem_append.mp hw with h | h
  · simp only [List.mem_cons, List.not_mem_nil, or_false] at h
    rcases h with rfl | rfl | rfl | rfl
    · exact goodTB (inTB hlk rfl)
    · exact goodTB (inTB hin rfl)
    · exact goodTB (inTB hsel rfl)
    · exact goodTB (inTB hini rfl)
  · exact good_wsM hM w h
/-- a call of a word's method -/
theorem V_callSt {idx : Nat} {j : Nat × Nat × String} (hj : j ∈ strs) (As rest : List Value) (hM : MOk y' As.length) (hC : y'.1.cls = "java/lang/String") (hlk : Cond.methodLink y.1.cls idx y'.1 ∈ lw_tbl) (hin : Cond.instanceMethod y'.1 ∈ lw_tbl) (hsel : Cond.selects "java/lang/String" y'.1 y'.1 ∈ lw_tbl)
    (hfr : y'.2.2.2.2.1 + 1 ≤ y.2.2.2.2.1) (hlo : 8 + (y'.2.2.1 + 11) + y'.2.2.2.2.2 ≤ y.2.2.2.2.2) (hrest : (rest.map fun v => v.category).sum ≤ 8) (hcat : ∀ v ∈ (r_ (x.2.2.2 j.1) :: As), v.category = 1) (hlen : (r_ (x.2.2.2 j.1) :: As).length ≤ y'.2.2.1) (hk : k' ≤ k) (hn : n' ≤ n) (hst : st = As.reverse ++ r_ (x.2.2.2 j.1) :: rest) (hd : decode y.2.1 pc = .ok (.invokevirtual idx, 3))
    (kk : V y' k' n' 0 (ent y'.2.2.1 (r_ (x.2.2.2 j.1) :: As)) [] x Z (fun v x' Z' => V y (k - k') (n - n') (pc + 3) lv (v.toList ++ rest) x' Z' Q)) : V y k n pc lv st x Z Q := by
  intro D B Hb p l e R s m args below meth c H locs cells slots QF ls C hR hL hm hl hret
  subst hst
  obtain ⟨cell, q1, q2, q3, q4⟩ := (C.kk.2.2.2.2.2.2.1.1 j hj).1
  have hini : Cond.initialized "java/lang/String" ∈ lw_tbl := by rw [← hC]; exact hM.2.1
  refine call_go C hL hm hl hk hn hret (va_runV (C := "java/lang/String") (Ts := TB) (nL := y.2.2.1) ⟨C.1, C.2.1, C.2.2.1, C.own, C.tb⟩ (met_of hM l hcat hlen kk) (cwV As.length C.tb (fun w hw => ?_) rfl rfl rfl ⟨hC, hM.2.2.2.1.1, hM.2.2.2.1.2, hM.2.2.2.2⟩ ⟨by show y'.2.2.2.2.1 + 1 ≤ R.frames; omega, by show 8 + (y'.2.2.1 + 11) + y'.2.2.2.2.2 ≤ R.locals; omega⟩) ⟨blindM, ⟨cell, by rw [hR.2.1 _ (Nat.not_le.mp q4)]; exact q1, q2, q3⟩, fun U hU hW => ⟨rfl, by rw [hU]; exact hR, C.kk.warm hW⟩⟩ rfl rfl hl.1 rfl (lv_room hrest) hd ⟨by omega, by omega⟩)
  rcases List.mem_append.mp hw with h | h
  · simp only [List.mem_cons, List.not_mem_nil, or_false] at h
    rcases h with rfl | rfl | rfl | rfl
    · exact goodTB (inTB hlk rfl)
    · exact goodTB (inTB hin rfl)
    · exact goodTB (inTB hsel rfl)
    · exact goodTB (inTB hini rfl)
  · exact good_wsM hM w h
theorem V_callS {idx : Nat} (As rest : List Value) (hM : MOk y' As.length) (hlk : Cond.methodLink y.1.cls idx y'.1 ∈ lw_tbl) (hsta : Cond.static y'.1 ∈ lw_tbl)
    (hfr : y'.2.2.2.2.1 + 1 ≤ y.2.2.2.2.1) (hlo : 8 + (y'.2.2.1 + 11) + y'.2.2.2.2.2 ≤ y.2.2.2.2.2) (hrest : (rest.map fun v => v.category).sum ≤ 8) (hcat : ∀ v ∈ As, v.category = 1) (hlen : As.length ≤ y'.2.2.1) (hk : k' ≤ k) (hn : n' ≤ n) (hst : st = As.reverse ++ rest) (hd : decode y.2.1 pc = .ok (.invokestatic idx, 3))
    (kk : V y' k' n' 0 (ent y'.2.2.1 As) [] x Z (fun v x' Z' => V y (k - k') (n - n') (pc + 3) lv (v.toList ++ rest) x' Z' Q)) : V y k n pc lv st x Z Q := by
  intro D B Hb p l e R s m args below meth c H locs cells slots QF ls C hR hL hm hl hret
  subst hst
  exact call_go C hL hm hl hk hn hret (va_runS (Ts := TB) (nL := y.2.2.1) ⟨C.1, C.2.1, C.2.2.1, C.own, C.tb⟩ (met_of hM l hcat hlen kk) ⟨callB_of As.length C.tb (good_wsM hM) rfl rfl rfl (C.word hM.2.1 rfl) (C.word hlk rfl) ⟨hM.2.2.2.1.1, hM.2.2.2.1.2, hM.2.2.2.2⟩ ⟨by show y'.2.2.2.2.1 + 1 ≤ R.frames; omega, by show 8 + (y'.2.2.1 + 11) + y'.2.2.2.2.2 ≤ R.locals; omega⟩, C.word hsta rfl⟩ ⟨blindM, fun U hU hW => ⟨rfl, by rw [hU]; exact hR, C.kk.warm hW⟩⟩ rfl rfl hl.1 rfl (lv_room hrest) hd ⟨by omega, by omega⟩)
theorem V_callI {idx a : Nat} (As rest : List Value) (hM : MOk y' As.length) (hname : y'.1.name = "<init>") (hrt : y'.2.2.2.1 = none) (hlk : Cond.methodLink y.1.cls idx y'.1 ∈ lw_tbl) (hin : Cond.instanceMethod y'.1 ∈ lw_tbl)
    (hfr : y'.2.2.2.2.1 + 1 ≤ y.2.2.2.2.1) (hlo : 8 + (y'.2.2.1 + 11) + y'.2.2.2.2.2 ≤ y.2.2.2.2.2) (hrest : (rest.map fun v => v.category).sum ≤ 8) (hcat : ∀ v ∈ (r_ a :: As), v.category = 1) (hlen : (r_ a :: As).length ≤ y'.2.2.1) (hk : k' ≤ k) (hn : n' ≤ n) (hst : st = As.reverse ++ r_ a :: rest) (hd : decode y.2.1 pc = .ok (.invokespecial idx, 3))
    (kk : V y' k' n' 0 (ent y'.2.2.1 (r_ a :: As)) [] x Z (fun v x' Z' => V y (k - k') (n - n') (pc + 3) lv (v.toList ++ rest) x' Z' Q)) : V y k n pc lv st x Z Q := by
  intro D B Hb p l e R s m args below meth c H locs cells slots QF ls C hR hL hm hl hret
  subst hst
  have hws : wsM y' = Cond.code y'.1 y'.2.1 y'.2.2.1 none :: TB := by unfold wsM; rw [hrt]
  exact call_go C hL hm hl hk hn hret (va_runI (Ts := TB) (nL := y.2.2.1) ⟨C.1, C.2.1, C.2.2.1, C.own, C.tb⟩ (met_of hM l hcat hlen kk) (cwI As.length C.tb (good_wsM hM) hws rfl rfl (C.word hM.2.1 rfl) (C.word hlk rfl) (C.word hin rfl) hname ⟨hM.2.2.2.1.1, hM.2.2.2.1.2, hM.2.2.2.2⟩ ⟨by show y'.2.2.2.2.1 + 1 ≤ R.frames; omega, by show 8 + (y'.2.2.1 + 11) + y'.2.2.2.2.2 ≤ R.locals; omega⟩) ⟨blindM, fun U hU hW => ⟨rfl, by rw [hU]; exact hR, C.kk.warm hW⟩⟩ rfl rfl hl.1 rfl (lv_room hrest) hd ⟨by omega, by omega⟩)
theorem V_callIN {idx a : Nat} {host : String} (As rest : List Value) (hM : MOk y' As.length) (hname : y'.1.name = "<init>") (hrt : y'.2.2.2.1 = none) (hlk : Cond.methodLinkNest y.1.cls idx y'.1 host ∈ lw_tbl) (hin : Cond.instanceMethod y'.1 ∈ lw_tbl)
    (hfr : y'.2.2.2.2.1 + 1 ≤ y.2.2.2.2.1) (hlo : 8 + (y'.2.2.1 + 11) + y'.2.2.2.2.2 ≤ y.2.2.2.2.2) (hrest : (rest.map fun v => v.category).sum ≤ 8) (hcat : ∀ v ∈ (r_ a :: As), v.category = 1) (hlen : (r_ a :: As).length ≤ y'.2.2.1) (hk : k' ≤ k) (hn : n' ≤ n) (hst : st = As.reverse ++ r_ a :: rest) (hd : decode y.2.1 pc = .ok (.invokespecial idx, 3))
    (kk : V y' k' n' 0 (ent y'.2.2.1 (r_ a :: As)) [] x Z (fun v x' Z' => V y (k - k') (n - n') (pc + 3) lv (v.toList ++ rest) x' Z' Q)) : V y k n pc lv st x Z Q := by
  intro D B Hb p l e R s m args below meth c H locs cells slots QF ls C hR hL hm hl hret
  subst hst
  have hws : wsM y' = Cond.code y'.1 y'.2.1 y'.2.2.1 none :: TB := by unfold wsM; rw [hrt]
  exact call_go C hL hm hl hk hn hret (va_runIN (Ts := TB) (nL := y.2.2.1) (host := host) ⟨C.1, C.2.1, C.2.2.1, C.own, C.tb⟩ (met_of hM l hcat hlen kk) ⟨va_cnB As.length C.tb (good_wsM hM) hws rfl rfl (C.kk.2.2.1 _ hlk (Or.inr ⟨_, _, _, _, rfl⟩)) (C.word hM.2.1 rfl) ⟨hM.2.2.2.1.1, hM.2.2.2.1.2, hM.2.2.2.2⟩ ⟨by show y'.2.2.2.2.1 + 1 ≤ R.frames; omega, by show 8 + (y'.2.2.1 + 11) + y'.2.2.2.2.2 ≤ R.locals; omega⟩, hname, C.word hin rfl⟩ ⟨blindM, fun U hU hW => ⟨rfl, by rw [hU]; exact hR, C.kk.warm hW⟩⟩ rfl rfl hl.1 rfl (lv_room hrest) hd ⟨by omega, by omega⟩)
/-- answers -/
theorem V_iret {z : Int} {ty : FieldType} (hd : decode y.2.1 pc = .ok (.ireturn, 1)) (hr : y.2.2.2.1 = some ty) (hn : narrow ty (i_ z) = i_ z) (hq : Q (some (i_ z)) x Z) : V y k n pc lv [i_ z] x Z Q := by
  intro D B Hb p l e R s m args below meth c H locs cells slots QF ls C hR hL hm hl hret
  exact hret (some (i_ z)) x Z H locs cells slots pc ls hq rfl hR hL (by omega) (by omega) (Or.inl ⟨hd, _, ty, rfl, hr, hn⟩)
theorem V_lret {z : Int} (hd : decode y.2.1 pc = .ok (.lreturn, 1)) (hr : y.2.2.2.1 = some .long) (hq : Q (some (l_ z)) x Z) : V y k n pc lv [l_ z] x Z Q := by
  intro D B Hb p l e R s m args below meth c H locs cells slots QF ls C hR hL hm hl hret
  exact hret (some (l_ z)) x Z H locs cells slots pc ls hq rfl hR hL (by omega) (by omega) (Or.inr (Or.inl ⟨hd, _, rfl, hr⟩))
theorem V_aret {r : Option Nat} {ty : FieldType} (hd : decode y.2.1 pc = .ok (.areturn, 1)) (hr : y.2.2.2.1 = some ty) (ht : (∃ n, ty = .object n) ∨ ∃ t, ty = .array t) (hq : Q (some (va_rf r)) x Z) : V y k n pc lv [va_rf r] x Z Q := by
  intro D B Hb p l e R s m args below meth c H locs cells slots QF ls C hR hL hm hl hret
  exact hret (some (va_rf r)) x Z H locs cells slots pc ls hq rfl hR hL (by omega) (by omega) (Or.inr (Or.inr (Or.inl ⟨hd, _, ty, rfl, hr, ht⟩)))
theorem V_ret (hd : decode y.2.1 pc = .ok (.return_, 1)) (hr : y.2.2.2.1 = none) (hq : Q none x Z) : V y k n pc lv [] x Z Q := by
  intro D B Hb p l e R s m args below meth c H locs cells slots QF ls C hR hL hm hl hret
  exact hret none x Z H locs cells slots pc ls hq rfl hR hL (by omega) (by omega) (Or.inr (Or.inr (Or.inr ⟨hd, rfl, hr⟩)))
/-- what is asked of the end may be less -/
theorem V_imp {Q' : Option Value → Wx → Zt → Prop} (h : V y k n pc lv st x Z Q') (hq : ∀ v x' Z', Q' v x' Z' → Q v x' Z') : V y k n pc lv st x Z Q := by
  intro D B Hb p l e R s m args below meth c H locs cells slots QF ls C hR hL hm hl hret
  exact h D B Hb p l e R s m args below meth c H locs cells slots QF ls C hR hL hm hl (fun v x' Z' H' locs' cells' slots' pc' ls' hv => hret v x' Z' H' locs' cells' slots' pc' ls' (hq _ _ _ hv))
/-- Object's constructor -/
theorem V_objI {idx a : Nat} {rest : List Value} (hlk : Cond.methodLink y.1.cls idx objectInit ∈ lw_tbl) (hin : Cond.instanceMethod objectInit ∈ lw_tbl) (hco : Cond.code objectInit ⟨#[0xb1]⟩ 1 none ∈ lw_tbl) (hfr : 1 ≤ y.2.2.2.2.1) (hlo : (rest.map fun v => v.category).sum + 12 ≤ y.2.2.2.2.2) (hd : decode y.2.1 pc = .ok (.invokespecial idx, 3)) (kk : V y k n (pc + 3) lv rest x Z Q) : V y k n pc lv (r_ a :: rest) x Z Q := by
  intro D B Hb p l e R s m args below meth c H locs cells slots QF ls C hR hL hm hl hret
  exact W.objInit C.1 C.2.1 C.own (C.word hlk rfl) (C.word hin rfl) (C.word hco rfl) rfl (hl.1.trans C.2.2.1.symm) rfl hd (by omega) (by show 2 * 0 + _ + 12 ≤ R.locals; omega) (kk D B Hb p l e R s m args below meth c H locs cells slots QF ls C hR hL hm hl hret)
end VC
