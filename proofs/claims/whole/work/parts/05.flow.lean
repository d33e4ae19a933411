/-! ===== V, a row an instruction: stores of locals, branches, longs ===== -/
def prs (lv : List (Option Value)) : List (Nat × Value) := lv.zipIdx.filterMap (fun q => q.1.map (fun v => (q.2, v)))
theorem mem_prs {lv : List (Option Value)} {i : Nat} {v : Value} : (i, v) ∈ prs lv ↔ lv[i]? = some (some v) := by
  unfold prs
  rw [List.mem_filterMap]
  constructor
  · rintro ⟨⟨o, j⟩, hm, he⟩
    rw [List.mem_zipIdx_iff_getElem?] at hm
    cases o with
    | none => simp at he
    | some w =>
      simp at he
      obtain ⟨rfl, rfl⟩ := he
      exact hm
  · intro h
    refine ⟨(some v, i), ?_, by simp⟩
    rw [List.mem_zipIdx_iff_getElem?]
    exact h
theorem LH.has {ls : Array Slot} {nL : Nat} {lv : List (Option Value)} (h : LH ls nL lv) : lv_has ls nL (prs lv) := ⟨h.1, h.2.1, fun q hq => h.2.2 q.1 q.2 (mem_prs.mp hq)⟩
theorem LH.of {ls : Array Slot} {nL : Nat} {lv : List (Option Value)} {l : List (Nat × Value)} (h : lv_has ls nL l) (hs : ∀ (i : Nat) (v : Value), lv[i]? = some (some v) → (i, v) ∈ l) : LH ls nL lv := ⟨h.1, h.2.1, fun i v hv => h.2.2 (i, v) (hs i v hv)⟩
/-- a store into i ends a long that began one before -/
def clr (lv : List (Option Value)) (i : Nat) : List (Option Value) := match i with
  | 0 => lv
  | j + 1 => match lv[j]? with
    | some (some w) => if w.category = 2 then lv.set j none else lv
    | _ => lv
theorem clr_get {lv : List (Option Value)} {i j : Nat} {w : Value} (h : (clr lv i)[j]? = some (some w)) : lv[j]? = some (some w) ∧ ¬ (j + 1 = i ∧ w.category = 2) := by
  unfold clr at h
  cases i with
  | zero => exact ⟨h, fun q => by omega⟩
  | succ i =>
    simp only at h
    split at h
    · rename_i w' hw'
      split at h
      · rw [List.getElem?_set] at h
        split at h
        · split at h <;> cases h
        · exact ⟨h, fun q => by omega⟩
      · rename_i hc
        refine ⟨h, fun q => ?_⟩
        have : j = i := by omega
        subst this
        rw [hw'] at h
        cases h
        exact hc q.2
    · rename_i hne
      refine ⟨h, fun q => ?_⟩
      have : j = i := by omega
      subst this
      exact hne w h
def sto (lv : List (Option Value)) (i : Nat) (v : Value) : List (Option Value) := (clr lv i).set i (some v)
def sto2 (lv : List (Option Value)) (i : Nat) (v : Value) : List (Option Value) := ((clr lv i).set (i + 1) none).set i (some v)
theorem sto_in {lv : List (Option Value)} {i : Nat} {v : Value} (j : Nat) (w : Value) (h : (sto lv i v)[j]? = some (some w)) : (j, w) ∈ (i, v) :: (prs lv).filter (fun q => !(q.1 == i) && !(q.1 + 1 == i && q.2.category == 2)) := by
  unfold sto at h
  rw [List.getElem?_set] at h
  split at h
  · rename_i e
    split at h
    · cases h
      subst e
      exact List.mem_cons_self
    · cases h
  · rename_i e
    obtain ⟨h1, h2⟩ := clr_get h
    refine List.mem_cons_of_mem _ (List.mem_filter.mpr ⟨mem_prs.mpr h1, ?_⟩)
    simp only [Bool.and_eq_true, Bool.not_eq_true', beq_eq_false_iff_ne, ne_eq, Bool.and_eq_false_imp, beq_iff_eq]
    exact ⟨fun q => e q.symm, fun q q2 => h2 ⟨q, q2⟩⟩
theorem sto2_in {lv : List (Option Value)} {i : Nat} {v : Value} (j : Nat) (w : Value) (h : (sto2 lv i v)[j]? = some (some w)) : (j, w) ∈ (i, v) :: (prs lv).filter (fun q => !(q.1 == i) && (!(q.1 == i + 1) && !(q.1 + 1 == i && q.2.category == 2))) := by
  unfold sto2 at h
  rw [List.getElem?_set] at h
  split at h
  · rename_i e
    split at h
    · cases h
      subst e
      exact List.mem_cons_self
    · cases h
  · rename_i e
    rw [List.getElem?_set] at h
    split at h
    · split at h <;> cases h
    · rename_i e2
      obtain ⟨h1, h2⟩ := clr_get h
      refine List.mem_cons_of_mem _ (List.mem_filter.mpr ⟨mem_prs.mpr h1, ?_⟩)
      simp only [Bool.and_eq_true, Bool.not_eq_true', beq_eq_false_iff_ne, ne_eq, Bool.and_eq_false_imp, beq_iff_eq]
      exact ⟨fun q => e q.symm, fun q => e2 q.symm, fun q q2 => h2 ⟨q, q2⟩⟩
theorem rw_lt {a b : Int} (ha : Rg a) (hb : Rg b) : (Int32.ofInt a < Int32.ofInt b) ↔ a < b := by rw [rg_lt ha hb]
theorem rw_ge {a b : Int} (ha : Rg a) (hb : Rg b) : (Int32.ofInt b ≤ Int32.ofInt a) ↔ b ≤ a := by rw [rg_le hb ha]
theorem rw_gt {a b : Int} (ha : Rg a) (hb : Rg b) : (Int32.ofInt b < Int32.ofInt a) ↔ b < a := by rw [rg_lt hb ha]
theorem rw_le {a b : Int} (ha : Rg a) (hb : Rg b) : (Int32.ofInt a ≤ Int32.ofInt b) ↔ a ≤ b := by rw [rg_le ha hb]
theorem rw_eq {a b : Int} (ha : Rg a) (hb : Rg b) : (Int32.ofInt a = Int32.ofInt b) ↔ a = b := by rw [rg_eq ha hb]
theorem rw_ne {a b : Int} (ha : Rg a) (hb : Rg b) : (¬ Int32.ofInt a = Int32.ofInt b) ↔ a ≠ b := by rw [rg_eq ha hb]
theorem ng_lt {a b : Int} (h : ¬ a < b) : b ≤ a := by omega
theorem ng_ge {a b : Int} (h : ¬ b ≤ a) : a < b := by omega
theorem ng_gt {a b : Int} (h : ¬ b < a) : a ≤ b := by omega
theorem ng_le {a b : Int} (h : ¬ a ≤ b) : b < a := by omega
theorem ng_eq {a b : Int} (h : ¬ a = b) : a ≠ b := h
theorem ng_ne {a b : Int} (h : ¬ a ≠ b) : a = b := by omega
def Rl (z : Int) : Prop := -9223372036854775808 ≤ z ∧ z < 9223372036854775808
theorem rl_to {z : Int} (h : Rl z) : (Int64.ofInt z).toInt = z := Int64.toInt_ofInt_of_le (by have := h.1; omega) (by have := h.2; omega)
theorem rl_tdiv {a b : Int} (ha : Rl a) (hb : Rl b) (h0 : 0 < b) : Int64.ofInt a / Int64.ofInt b = Int64.ofInt (a.tdiv b) := by
  have h1 := ha.1; have h2 := ha.2; have h3 := hb.1; have h4 := hb.2
  exact (Int64.ofInt_tdiv (by show (-9223372036854775808 : Int) ≤ a; omega) (by show a ≤ (9223372036854775807 : Int); omega) (by show (-9223372036854775808 : Int) ≤ b; omega) (by show b ≤ (9223372036854775807 : Int); omega)).symm
theorem rl_i2l {a : Int} (ha : Rg a) : Int64.ofInt a = (Int32.ofInt a).toInt64 := by
  apply Int64.toInt_inj.mp
  rw [rl_to ⟨by have := ha.1; omega, by have := ha.2; omega⟩]
  simp [rg_to ha]
section VS
variable {y : MD} {k n pc : Nat} {lv lv' : List (Option Value)} {st : List Value} {x : Wx} {Z : Zt} {Q : Option Value → Wx → Zt → Prop}
/-- fewer locals -/
def msk : List Bool → List (Option Value) → List (Option Value)
  | b :: bs, v :: vs => (if b then v else none) :: msk bs vs
  | _, _ => []
theorem msk_get : ∀ (bs : List Bool) (lv : List (Option Value)) (i : Nat) (v : Value), (msk bs lv)[i]? = some (some v) → lv[i]? = some (some v)
  | [], _, _, _, h => by simp [msk] at h
  | _ :: _, [], _, _, h => by simp [msk] at h
  | b :: bs, w :: lv, 0, v, h => by
    simp only [msk, List.getElem?_cons_zero] at h ⊢
    split at h
    · exact h
    · cases h
  | b :: bs, w :: lv, i + 1, v, h => by
    simp only [msk, List.getElem?_cons_succ] at h ⊢
    exact msk_get bs lv i v h
theorem V_msk (bs : List Bool) (hm : msk bs lv = lv') (kk : V y k n pc lv' st x Z Q) : V y k n pc lv st x Z Q := by
  intro D B Hb p l e R s m args below meth c H locs cells slots QF ls C hR hL hm2 hl hret
  exact kk D B Hb p l e R s m args below meth c H locs cells slots QF ls C hR hL hm2 ⟨hl.1, hl.2.1, fun i v h => hl.2.2 i v (msk_get bs lv i v (by rw [hm]; exact h))⟩ hret
theorem V_istore {i : Nat} {z : Int} (hd : decode y.2.1 pc = .ok (.istore i, 2)) (hn : i < y.2.2.1) (hs : sto lv i (i_ z) = lv') (kk : V y k n (pc + 2) lv' (st) x Z Q) : V y k n pc lv (i_ z :: st) x Z Q := by
  intro D B Hb p l e R s m args below meth c H locs cells slots QF ls C hR hL hm hl hret
  exact lv_istore C.1 C.2.1 hd hl.has hn rfl (fun ls2 h2 => by
    have hl2 : LH ls2 y.2.2.1 lv' := LH.of h2 (by rw [← hs]; exact sto_in)
    exact kk D B Hb p l e R s m args below meth c H locs cells slots QF ls2 C hR hL hm hl2 hret)
theorem V_istore_n {q : Fin 4} {z : Int} (hd : decode y.2.1 pc = .ok (.istore_n q, 1)) (hn : (q : Nat) < y.2.2.1) (hs : sto lv (q : Nat) (i_ z) = lv') (kk : V y k n (pc + 1) lv' (st) x Z Q) : V y k n pc lv (i_ z :: st) x Z Q := by
  intro D B Hb p l e R s m args below meth c H locs cells slots QF ls C hR hL hm hl hret
  exact lv_istore_n C.1 C.2.1 hd rfl hl.has hn rfl (fun ls2 h2 => by
    have hl2 : LH ls2 y.2.2.1 lv' := LH.of h2 (by rw [← hs]; exact sto_in)
    exact kk D B Hb p l e R s m args below meth c H locs cells slots QF ls2 C hR hL hm hl2 hret)
theorem V_astore {i : Nat} {z : Nat} (hd : decode y.2.1 pc = .ok (.astore i, 2)) (hn : i < y.2.2.1) (hs : sto lv i (r_ z) = lv') (kk : V y k n (pc + 2) lv' (st) x Z Q) : V y k n pc lv (r_ z :: st) x Z Q := by
  intro D B Hb p l e R s m args below meth c H locs cells slots QF ls C hR hL hm hl hret
  exact lv_astore C.1 C.2.1 hd hl.has hn rfl (fun ls2 h2 => by
    have hl2 : LH ls2 y.2.2.1 lv' := LH.of h2 (by rw [← hs]; exact sto_in)
    exact kk D B Hb p l e R s m args below meth c H locs cells slots QF ls2 C hR hL hm hl2 hret)
theorem V_astore_n {q : Fin 4} {z : Nat} (hd : decode y.2.1 pc = .ok (.astore_n q, 1)) (hn : (q : Nat) < y.2.2.1) (hs : sto lv (q : Nat) (r_ z) = lv') (kk : V y k n (pc + 1) lv' (st) x Z Q) : V y k n pc lv (r_ z :: st) x Z Q := by
  intro D B Hb p l e R s m args below meth c H locs cells slots QF ls C hR hL hm hl hret
  exact lv_astore_n C.1 C.2.1 hd rfl hl.has hn rfl (fun ls2 h2 => by
    have hl2 : LH ls2 y.2.2.1 lv' := LH.of h2 (by rw [← hs]; exact sto_in)
    exact kk D B Hb p l e R s m args below meth c H locs cells slots QF ls2 C hR hL hm hl2 hret)
theorem V_lstore {i : Nat} {z : Int} (hd : decode y.2.1 pc = .ok (.lstore i, 2)) (hn : i + 1 < y.2.2.1) (hs : sto2 lv i (l_ z) = lv') (kk : V y k n (pc + 2) lv' (st) x Z Q) : V y k n pc lv (l_ z :: st) x Z Q := by
  intro D B Hb p l e R s m args below meth c H locs cells slots QF ls C hR hL hm hl hret
  exact lv_lstore C.1 C.2.1 hd hl.has hn rfl (fun ls2 h2 => by
    have hl2 : LH ls2 y.2.2.1 lv' := LH.of h2 (by rw [← hs]; exact sto2_in)
    exact kk D B Hb p l e R s m args below meth c H locs cells slots QF ls2 C hR hL hm hl2 hret)
theorem V_lstore_n {q : Fin 4} {z : Int} (hd : decode y.2.1 pc = .ok (.lstore_n q, 1)) (hn : (q : Nat) + 1 < y.2.2.1) (hs : sto2 lv (q : Nat) (l_ z) = lv') (kk : V y k n (pc + 1) lv' (st) x Z Q) : V y k n pc lv (l_ z :: st) x Z Q := by
  intro D B Hb p l e R s m args below meth c H locs cells slots QF ls C hR hL hm hl hret
  exact lv_lstore_n C.1 C.2.1 hd rfl hl.has hn rfl (fun ls2 h2 => by
    have hl2 : LH ls2 y.2.2.1 lv' := LH.of h2 (by rw [← hs]; exact sto2_in)
    exact kk D B Hb p l e R s m args below meth c H locs cells slots QF ls2 C hR hL hm hl2 hret)
theorem V_iinc {i : Nat} {z d : Int} (hd : decode y.2.1 pc = .ok (.iinc i d, 3)) (hv : lv[i]? = some (some (i_ z))) (hn : i < y.2.2.1) (hs : sto lv i (i_ (z + d)) = lv') (kk : V y k n (pc + 3) lv' (st) x Z Q) : V y k n pc lv (st) x Z Q := by
  intro D B Hb p l e R s m args below meth c H locs cells slots QF ls C hR hL hm hl hret
  obtain ⟨j, hj⟩ := List.getElem?_of_mem (mem_prs.mpr hv)
  exact lv_iinc (v := Int32.ofInt (z + d)) C.1 C.2.1 hd hl.has hj (Int32.ofInt_add z d).symm hn rfl (fun ls2 h2 => by
    have hl2 : LH ls2 y.2.2.1 lv' := LH.of h2 (by rw [← hs]; exact sto_in)
    exact kk D B Hb p l e R s m args below meth c H locs cells slots QF ls2 C hR hL hm hl2 hret)
theorem V_icmp_lt {a b : Int} {off : Int} {tgt : Nat} (hd : decode y.2.1 pc = .ok (.if_icmp .lt off, 3)) (ht : (pc : Int) + off = (tgt : Int)) (ha : Rg a) (hb : Rg b) (kt : a < b → V y k n tgt lv (st) x Z Q) (kf : b ≤ a → V y k n (pc + 3) lv (st) x Z Q) : V y k n pc lv (i_ b :: i_ a :: st) x Z Q := by
  intro D B Hb p l e R s m args below meth c H locs cells slots QF ls C hR hL hm hl hret
  refine lv_icmp_lt C.1 C.2.1 hd ht (fun h => ?_) (fun h => ?_)
  · exact kt ((rw_lt ha hb).mp h) D B Hb p l e R s m args below meth c H locs cells slots QF ls C hR hL hm hl hret
  · exact kf (ng_lt (fun q => h ((rw_lt ha hb).mpr q))) D B Hb p l e R s m args below meth c H locs cells slots QF ls C hR hL hm hl hret
theorem V_if_lt {a : Int} {off : Int} {tgt : Nat} (hd : decode y.2.1 pc = .ok (.ifCond .lt off, 3)) (ht : (pc : Int) + off = (tgt : Int)) (ha : Rg a) (kt : a < 0 → V y k n tgt lv (st) x Z Q) (kf : 0 ≤ a → V y k n (pc + 3) lv (st) x Z Q) : V y k n pc lv (i_ a :: st) x Z Q := by
  intro D B Hb p l e R s m args below meth c H locs cells slots QF ls C hR hL hm hl hret
  refine lv_if_lt C.1 C.2.1 hd ht (fun h => ?_) (fun h => ?_)
  · exact kt ((rw_lt ha rg_z).mp h) D B Hb p l e R s m args below meth c H locs cells slots QF ls C hR hL hm hl hret
  · exact kf (ng_lt (fun q => h ((rw_lt ha rg_z).mpr q))) D B Hb p l e R s m args below meth c H locs cells slots QF ls C hR hL hm hl hret
theorem V_icmp_ge {a b : Int} {off : Int} {tgt : Nat} (hd : decode y.2.1 pc = .ok (.if_icmp .ge off, 3)) (ht : (pc : Int) + off = (tgt : Int)) (ha : Rg a) (hb : Rg b) (kt : b ≤ a → V y k n tgt lv (st) x Z Q) (kf : a < b → V y k n (pc + 3) lv (st) x Z Q) : V y k n pc lv (i_ b :: i_ a :: st) x Z Q := by
  intro D B Hb p l e R s m args below meth c H locs cells slots QF ls C hR hL hm hl hret
  refine lv_icmp_ge C.1 C.2.1 hd ht (fun h => ?_) (fun h => ?_)
  · exact kt ((rw_ge ha hb).mp h) D B Hb p l e R s m args below meth c H locs cells slots QF ls C hR hL hm hl hret
  · exact kf (ng_ge (fun q => h ((rw_ge ha hb).mpr q))) D B Hb p l e R s m args below meth c H locs cells slots QF ls C hR hL hm hl hret
theorem V_if_ge {a : Int} {off : Int} {tgt : Nat} (hd : decode y.2.1 pc = .ok (.ifCond .ge off, 3)) (ht : (pc : Int) + off = (tgt : Int)) (ha : Rg a) (kt : 0 ≤ a → V y k n tgt lv (st) x Z Q) (kf : a < 0 → V y k n (pc + 3) lv (st) x Z Q) : V y k n pc lv (i_ a :: st) x Z Q := by
  intro D B Hb p l e R s m args below meth c H locs cells slots QF ls C hR hL hm hl hret
  refine lv_if_ge C.1 C.2.1 hd ht (fun h => ?_) (fun h => ?_)
  · exact kt ((rw_ge ha rg_z).mp h) D B Hb p l e R s m args below meth c H locs cells slots QF ls C hR hL hm hl hret
  · exact kf (ng_ge (fun q => h ((rw_ge ha rg_z).mpr q))) D B Hb p l e R s m args below meth c H locs cells slots QF ls C hR hL hm hl hret
theorem V_icmp_gt {a b : Int} {off : Int} {tgt : Nat} (hd : decode y.2.1 pc = .ok (.if_icmp .gt off, 3)) (ht : (pc : Int) + off = (tgt : Int)) (ha : Rg a) (hb : Rg b) (kt : b < a → V y k n tgt lv (st) x Z Q) (kf : a ≤ b → V y k n (pc + 3) lv (st) x Z Q) : V y k n pc lv (i_ b :: i_ a :: st) x Z Q := by
  intro D B Hb p l e R s m args below meth c H locs cells slots QF ls C hR hL hm hl hret
  refine lv_icmp_gt C.1 C.2.1 hd ht (fun h => ?_) (fun h => ?_)
  · exact kt ((rw_gt ha hb).mp h) D B Hb p l e R s m args below meth c H locs cells slots QF ls C hR hL hm hl hret
  · exact kf (ng_gt (fun q => h ((rw_gt ha hb).mpr q))) D B Hb p l e R s m args below meth c H locs cells slots QF ls C hR hL hm hl hret
theorem V_if_gt {a : Int} {off : Int} {tgt : Nat} (hd : decode y.2.1 pc = .ok (.ifCond .gt off, 3)) (ht : (pc : Int) + off = (tgt : Int)) (ha : Rg a) (kt : 0 < a → V y k n tgt lv (st) x Z Q) (kf : a ≤ 0 → V y k n (pc + 3) lv (st) x Z Q) : V y k n pc lv (i_ a :: st) x Z Q := by
  intro D B Hb p l e R s m args below meth c H locs cells slots QF ls C hR hL hm hl hret
  refine lv_if_gt C.1 C.2.1 hd ht (fun h => ?_) (fun h => ?_)
  · exact kt ((rw_gt ha rg_z).mp h) D B Hb p l e R s m args below meth c H locs cells slots QF ls C hR hL hm hl hret
  · exact kf (ng_gt (fun q => h ((rw_gt ha rg_z).mpr q))) D B Hb p l e R s m args below meth c H locs cells slots QF ls C hR hL hm hl hret
theorem V_icmp_le {a b : Int} {off : Int} {tgt : Nat} (hd : decode y.2.1 pc = .ok (.if_icmp .le off, 3)) (ht : (pc : Int) + off = (tgt : Int)) (ha : Rg a) (hb : Rg b) (kt : a ≤ b → V y k n tgt lv (st) x Z Q) (kf : b < a → V y k n (pc + 3) lv (st) x Z Q) : V y k n pc lv (i_ b :: i_ a :: st) x Z Q := by
  intro D B Hb p l e R s m args below meth c H locs cells slots QF ls C hR hL hm hl hret
  refine lv_icmp_le C.1 C.2.1 hd ht (fun h => ?_) (fun h => ?_)
  · exact kt ((rw_le ha hb).mp h) D B Hb p l e R s m args below meth c H locs cells slots QF ls C hR hL hm hl hret
  · exact kf (ng_le (fun q => h ((rw_le ha hb).mpr q))) D B Hb p l e R s m args below meth c H locs cells slots QF ls C hR hL hm hl hret
theorem V_if_le {a : Int} {off : Int} {tgt : Nat} (hd : decode y.2.1 pc = .ok (.ifCond .le off, 3)) (ht : (pc : Int) + off = (tgt : Int)) (ha : Rg a) (kt : a ≤ 0 → V y k n tgt lv (st) x Z Q) (kf : 0 < a → V y k n (pc + 3) lv (st) x Z Q) : V y k n pc lv (i_ a :: st) x Z Q := by
  intro D B Hb p l e R s m args below meth c H locs cells slots QF ls C hR hL hm hl hret
  refine lv_if_le C.1 C.2.1 hd ht (fun h => ?_) (fun h => ?_)
  · exact kt ((rw_le ha rg_z).mp h) D B Hb p l e R s m args below meth c H locs cells slots QF ls C hR hL hm hl hret
  · exact kf (ng_le (fun q => h ((rw_le ha rg_z).mpr q))) D B Hb p l e R s m args below meth c H locs cells slots QF ls C hR hL hm hl hret
theorem V_icmp_eq {a b : Int} {off : Int} {tgt : Nat} (hd : decode y.2.1 pc = .ok (.if_icmp .eq off, 3)) (ht : (pc : Int) + off = (tgt : Int)) (ha : Rg a) (hb : Rg b) (kt : a = b → V y k n tgt lv (st) x Z Q) (kf : a ≠ b → V y k n (pc + 3) lv (st) x Z Q) : V y k n pc lv (i_ b :: i_ a :: st) x Z Q := by
  intro D B Hb p l e R s m args below meth c H locs cells slots QF ls C hR hL hm hl hret
  refine lv_icmp_eq C.1 C.2.1 hd ht (fun h => ?_) (fun h => ?_)
  · exact kt ((rw_eq ha hb).mp h) D B Hb p l e R s m args below meth c H locs cells slots QF ls C hR hL hm hl hret
  · exact kf (ng_eq (fun q => h ((rw_eq ha hb).mpr q))) D B Hb p l e R s m args below meth c H locs cells slots QF ls C hR hL hm hl hret
theorem V_if_eq {a : Int} {off : Int} {tgt : Nat} (hd : decode y.2.1 pc = .ok (.ifCond .eq off, 3)) (ht : (pc : Int) + off = (tgt : Int)) (ha : Rg a) (kt : a = 0 → V y k n tgt lv (st) x Z Q) (kf : a ≠ 0 → V y k n (pc + 3) lv (st) x Z Q) : V y k n pc lv (i_ a :: st) x Z Q := by
  intro D B Hb p l e R s m args below meth c H locs cells slots QF ls C hR hL hm hl hret
  refine lv_if_eq C.1 C.2.1 hd ht (fun h => ?_) (fun h => ?_)
  · exact kt ((rw_eq ha rg_z).mp h) D B Hb p l e R s m args below meth c H locs cells slots QF ls C hR hL hm hl hret
  · exact kf (ng_eq (fun q => h ((rw_eq ha rg_z).mpr q))) D B Hb p l e R s m args below meth c H locs cells slots QF ls C hR hL hm hl hret
theorem V_icmp_ne {a b : Int} {off : Int} {tgt : Nat} (hd : decode y.2.1 pc = .ok (.if_icmp .ne off, 3)) (ht : (pc : Int) + off = (tgt : Int)) (ha : Rg a) (hb : Rg b) (kt : a ≠ b → V y k n tgt lv (st) x Z Q) (kf : a = b → V y k n (pc + 3) lv (st) x Z Q) : V y k n pc lv (i_ b :: i_ a :: st) x Z Q := by
  intro D B Hb p l e R s m args below meth c H locs cells slots QF ls C hR hL hm hl hret
  refine lv_icmp_ne C.1 C.2.1 hd ht (fun h => ?_) (fun h => ?_)
  · exact kt ((rw_ne ha hb).mp h) D B Hb p l e R s m args below meth c H locs cells slots QF ls C hR hL hm hl hret
  · exact kf ((rw_eq ha hb).mp h) D B Hb p l e R s m args below meth c H locs cells slots QF ls C hR hL hm hl hret
theorem V_if_ne {a : Int} {off : Int} {tgt : Nat} (hd : decode y.2.1 pc = .ok (.ifCond .ne off, 3)) (ht : (pc : Int) + off = (tgt : Int)) (ha : Rg a) (kt : a ≠ 0 → V y k n tgt lv (st) x Z Q) (kf : a = 0 → V y k n (pc + 3) lv (st) x Z Q) : V y k n pc lv (i_ a :: st) x Z Q := by
  intro D B Hb p l e R s m args below meth c H locs cells slots QF ls C hR hL hm hl hret
  refine lv_if_ne C.1 C.2.1 hd ht (fun h => ?_) (fun h => ?_)
  · exact kt ((rw_ne ha rg_z).mp h) D B Hb p l e R s m args below meth c H locs cells slots QF ls C hR hL hm hl hret
  · exact kf ((rw_eq ha rg_z).mp h) D B Hb p l e R s m args below meth c H locs cells slots QF ls C hR hL hm hl hret
theorem V_goto {off : Int} {tgt : Nat} (hd : decode y.2.1 pc = .ok (.goto off, 3)) (ht : (pc : Int) + off = (tgt : Int)) (kk : V y k n tgt lv (st) x Z Q) : V y k n pc lv (st) x Z Q := by
  intro D B Hb p l e R s m args below meth c H locs cells slots QF ls C hR hL hm hl hret
  exact lv_goto C.1 C.2.1 hd ht (kk D B Hb p l e R s m args below meth c H locs cells slots QF ls C hR hL hm hl hret)
theorem V_ifnull {off : Int} {tgt : Nat} {r : Option Nat} (hd : decode y.2.1 pc = .ok (.ifnull off, 3)) (ht : (pc : Int) + off = (tgt : Int)) (kt : r = none → V y k n tgt lv (st) x Z Q) (kf : r ≠ none → V y k n (pc + 3) lv (st) x Z Q) : V y k n pc lv (va_rf r :: st) x Z Q := by
  intro D B Hb p l e R s m args below meth c H locs cells slots QF ls C hR hL hm hl hret
  cases r with
  | none => exact lv_ifnullN C.1 C.2.1 hd ht (kt rfl D B Hb p l e R s m args below meth c H locs cells slots QF ls C hR hL hm hl hret)
  | some a => exact lv_ifnull C.1 C.2.1 hd (kf (fun h => by cases h) D B Hb p l e R s m args below meth c H locs cells slots QF ls C hR hL hm hl hret)
theorem V_ifnonnull {off : Int} {tgt : Nat} {r : Option Nat} (hd : decode y.2.1 pc = .ok (.ifnonnull off, 3)) (ht : (pc : Int) + off = (tgt : Int)) (kt : r ≠ none → V y k n tgt lv (st) x Z Q) (kf : r = none → V y k n (pc + 3) lv (st) x Z Q) : V y k n pc lv (va_rf r :: st) x Z Q := by
  intro D B Hb p l e R s m args below meth c H locs cells slots QF ls C hR hL hm hl hret
  cases r with
  | none => exact lv_ifnonnullN C.1 C.2.1 hd (kf rfl D B Hb p l e R s m args below meth c H locs cells slots QF ls C hR hL hm hl hret)
  | some a => exact lv_ifnonnull C.1 C.2.1 hd ht (kt (fun h => by cases h) D B Hb p l e R s m args below meth c H locs cells slots QF ls C hR hL hm hl hret)
theorem V_aloadq {i : Nat} {r : Option Nat} (hd : decode y.2.1 pc = .ok (.aload i, 2)) (hv : lv[i]? = some (some (va_rf r))) (kk : V y k n (pc + 2) lv (va_rf r :: st) x Z Q) : V y k n pc lv (st) x Z Q := by
  intro D B Hb p l e R s m args below meth c H locs cells slots QF ls C hR hL hm hl hret
  cases r with
  | none => exact lv_aloadN C.1 C.2.1 hd (hl.2.2 i _ hv) (kk D B Hb p l e R s m args below meth c H locs cells slots QF ls C hR hL hm hl hret)
  | some a => exact lv_aload C.1 C.2.1 hd (hl.2.2 i _ hv) (kk D B Hb p l e R s m args below meth c H locs cells slots QF ls C hR hL hm hl hret)
theorem V_aloadq_n {q : Fin 4} {r : Option Nat} (hd : decode y.2.1 pc = .ok (.aload_n q, 1)) (hv : lv[(q : Nat)]? = some (some (va_rf r))) (kk : V y k n (pc + 1) lv (va_rf r :: st) x Z Q) : V y k n pc lv (st) x Z Q := by
  intro D B Hb p l e R s m args below meth c H locs cells slots QF ls C hR hL hm hl hret
  cases r with
  | none => exact lv_aload_nN C.1 C.2.1 hd rfl (hl.2.2 _ _ hv) (kk D B Hb p l e R s m args below meth c H locs cells slots QF ls C hR hL hm hl hret)
  | some a => exact lv_aload_n C.1 C.2.1 hd rfl (hl.2.2 _ _ hv) (kk D B Hb p l e R s m args below meth c H locs cells slots QF ls C hR hL hm hl hret)
theorem V_astoreq {i : Nat} {r : Option Nat} (hd : decode y.2.1 pc = .ok (.astore i, 2)) (hn : i < y.2.2.1) (hs : sto lv i (va_rf r) = lv') (kk : V y k n (pc + 2) lv' (st) x Z Q) : V y k n pc lv (va_rf r :: st) x Z Q := by
  intro D B Hb p l e R s m args below meth c H locs cells slots QF ls C hR hL hm hl hret
  cases r with
  | none => exact lv_astoreN C.1 C.2.1 hd hl.has hn rfl (fun ls2 h2 => by
    have hl2 : LH ls2 y.2.2.1 lv' := LH.of h2 (by rw [← hs]; exact sto_in)
    exact kk D B Hb p l e R s m args below meth c H locs cells slots QF ls2 C hR hL hm hl2 hret)
  | some a => exact lv_astore C.1 C.2.1 hd hl.has hn rfl (fun ls2 h2 => by
    have hl2 : LH ls2 y.2.2.1 lv' := LH.of h2 (by rw [← hs]; exact sto_in)
    exact kk D B Hb p l e R s m args below meth c H locs cells slots QF ls2 C hR hL hm hl2 hret)
theorem V_astoreq_n {q : Fin 4} {r : Option Nat} (hd : decode y.2.1 pc = .ok (.astore_n q, 1)) (hn : (q : Nat) < y.2.2.1) (hs : sto lv (q : Nat) (va_rf r) = lv') (kk : V y k n (pc + 1) lv' (st) x Z Q) : V y k n pc lv (va_rf r :: st) x Z Q := by
  intro D B Hb p l e R s m args below meth c H locs cells slots QF ls C hR hL hm hl hret
  cases r with
  | none => exact lv_astore_nN C.1 C.2.1 hd rfl hl.has hn rfl (fun ls2 h2 => by
    have hl2 : LH ls2 y.2.2.1 lv' := LH.of h2 (by rw [← hs]; exact sto_in)
    exact kk D B Hb p l e R s m args below meth c H locs cells slots QF ls2 C hR hL hm hl2 hret)
  | some a => exact lv_astore_n C.1 C.2.1 hd rfl hl.has hn rfl (fun ls2 h2 => by
    have hl2 : LH ls2 y.2.2.1 lv' := LH.of h2 (by rw [← hs]; exact sto_in)
    exact kk D B Hb p l e R s m args below meth c H locs cells slots QF ls2 C hR hL hm hl2 hret)
theorem V_dup {v : Value} (hd : decode y.2.1 pc = .ok (.dup, 1)) (hc : v.category = 1) (kk : V y k n (pc + 1) lv (v :: v :: st) x Z Q) : V y k n pc lv (v :: st) x Z Q := by
  intro D B Hb p l e R s m args below meth c H locs cells slots QF ls C hR hL hm hl hret
  exact lv_dup C.1 C.2.1 hd hc (kk D B Hb p l e R s m args below meth c H locs cells slots QF ls C hR hL hm hl hret)
theorem V_dup2 {v w : Value} (hd : decode y.2.1 pc = .ok (.dup2, 1)) (hc : v.category = 1) (hc2 : w.category = 1) (kk : V y k n (pc + 1) lv (v :: w :: v :: w :: st) x Z Q) : V y k n pc lv (v :: w :: st) x Z Q := by
  intro D B Hb p l e R s m args below meth c H locs cells slots QF ls C hR hL hm hl hret
  exact lv_dup2_11 C.1 C.2.1 hd hc hc2 (kk D B Hb p l e R s m args below meth c H locs cells slots QF ls C hR hL hm hl hret)
theorem V_pop {v : Value} (hd : decode y.2.1 pc = .ok (.pop, 1)) (hc : v.category = 1) (kk : V y k n (pc + 1) lv (st) x Z Q) : V y k n pc lv (v :: st) x Z Q := by
  intro D B Hb p l e R s m args below meth c H locs cells slots QF ls C hR hL hm hl hret
  exact lv_pop C.1 C.2.1 hd hc (kk D B Hb p l e R s m args below meth c H locs cells slots QF ls C hR hL hm hl hret)
theorem V_ladd {a b : Int} (hd : decode y.2.1 pc = .ok (.ladd, 1)) (kk : V y k n (pc + 1) lv (l_ (a + b) :: st) x Z Q) : V y k n pc lv (l_ b :: l_ a :: st) x Z Q := by
  intro D B Hb p l e R s m args below meth c H locs cells slots QF ls C hR hL hm hl hret
  refine lv_ladd C.1 C.2.1 hd ?_
  rw [← Int64.ofInt_add]
  exact kk D B Hb p l e R s m args below meth c H locs cells slots QF ls C hR hL hm hl hret
theorem V_lsub {a b : Int} (hd : decode y.2.1 pc = .ok (.lsub, 1)) (kk : V y k n (pc + 1) lv (l_ (a - b) :: st) x Z Q) : V y k n pc lv (l_ b :: l_ a :: st) x Z Q := by
  intro D B Hb p l e R s m args below meth c H locs cells slots QF ls C hR hL hm hl hret
  refine lv_lsub C.1 C.2.1 hd ?_
  rw [← Int64.ofInt_sub]
  exact kk D B Hb p l e R s m args below meth c H locs cells slots QF ls C hR hL hm hl hret
theorem V_lmul {a b : Int} (hd : decode y.2.1 pc = .ok (.lmul, 1)) (kk : V y k n (pc + 1) lv (l_ (a * b) :: st) x Z Q) : V y k n pc lv (l_ b :: l_ a :: st) x Z Q := by
  intro D B Hb p l e R s m args below meth c H locs cells slots QF ls C hR hL hm hl hret
  refine lv_lmul C.1 C.2.1 hd ?_
  rw [← Int64.ofInt_mul]
  exact kk D B Hb p l e R s m args below meth c H locs cells slots QF ls C hR hL hm hl hret
theorem V_lneg {a : Int} (hd : decode y.2.1 pc = .ok (.lneg, 1)) (kk : V y k n (pc + 1) lv (l_ (-a) :: st) x Z Q) : V y k n pc lv (l_ a :: st) x Z Q := by
  intro D B Hb p l e R s m args below meth c H locs cells slots QF ls C hR hL hm hl hret
  refine lv_lneg C.1 C.2.1 hd ?_
  rw [← Int64.ofInt_neg]
  exact kk D B Hb p l e R s m args below meth c H locs cells slots QF ls C hR hL hm hl hret
theorem V_ldiv {a b : Int} (hd : decode y.2.1 pc = .ok (.ldiv, 1)) (ha : Rl a) (hb : Rl b) (h0 : 0 < b) (kk : V y k n (pc + 1) lv (l_ (a.tdiv b) :: st) x Z Q) : V y k n pc lv (l_ b :: l_ a :: st) x Z Q := by
  intro D B Hb p l e R s m args below meth c H locs cells slots QF ls C hR hL hm hl hret
  refine lv_ldiv C.1 C.2.1 hd (fun h => ?_) ?_
  · have h2 := congrArg Int64.toInt h
    rw [rl_to hb] at h2
    have h3 : b = 0 := h2
    omega
  rw [rl_tdiv ha hb h0]
  exact kk D B Hb p l e R s m args below meth c H locs cells slots QF ls C hR hL hm hl hret
theorem V_i2l {a : Int} (hd : decode y.2.1 pc = .ok (.i2l, 1)) (ha : Rg a) (kk : V y k n (pc + 1) lv (l_ a :: st) x Z Q) : V y k n pc lv (i_ a :: st) x Z Q := by
  intro D B Hb p l e R s m args below meth c H locs cells slots QF ls C hR hL hm hl hret
  exact lv_i2l C.1 C.2.1 hd (by rw [← rl_i2l ha]) (kk D B Hb p l e R s m args below meth c H locs cells slots QF ls C hR hL hm hl hret)
theorem V_i2b {a r : Int} (hd : decode y.2.1 pc = .ok (.i2b, 1)) (hr : (Int32.ofInt a).toInt8.toInt32 = Int32.ofInt r) (kk : V y k n (pc + 1) lv (i_ r :: st) x Z Q) : V y k n pc lv (i_ a :: st) x Z Q := by
  intro D B Hb p l e R s m args below meth c H locs cells slots QF ls C hR hL hm hl hret
  exact lv_i2b C.1 C.2.1 hd hr (kk D B Hb p l e R s m args below meth c H locs cells slots QF ls C hR hL hm hl hret)
theorem V_iushr {a b r : Int} (hd : decode y.2.1 pc = .ok (.iushr, 1)) (hr : ((Int32.ofInt a).toUInt32 >>> ((Int32.ofInt b).toUInt32 &&& Int32.toUInt32 31)).toInt32 = Int32.ofInt r) (kk : V y k n (pc + 1) lv (i_ r :: st) x Z Q) : V y k n pc lv (i_ b :: i_ a :: st) x Z Q := by
  intro D B Hb p l e R s m args below meth c H locs cells slots QF ls C hR hL hm hl hret
  exact lv_iushr C.1 C.2.1 hd hr (kk D B Hb p l e R s m args below meth c H locs cells slots QF ls C hR hL hm hl hret)
theorem V_ishr {a b r : Int} (hd : decode y.2.1 pc = .ok (.ishr, 1)) (hr : Int32.ofInt a >>> (Int32.ofInt b &&& 31) = Int32.ofInt r) (kk : V y k n (pc + 1) lv (i_ r :: st) x Z Q) : V y k n pc lv (i_ b :: i_ a :: st) x Z Q := by
  intro D B Hb p l e R s m args below meth c H locs cells slots QF ls C hR hL hm hl hret
  refine lv_ishr C.1 C.2.1 hd ?_
  rw [hr]
  exact kk D B Hb p l e R s m args below meth c H locs cells slots QF ls C hR hL hm hl hret
theorem V_tableIn {a dflt lo hi : Int} {offs : Array Int} {len tgt : Nat} {off : Int} (hd : decode y.2.1 pc = .ok (.tableswitch dflt lo hi offs, len)) (ha : Rg a) (h1 : lo ≤ a) (h2 : a ≤ hi) (ho : offs[(a - lo).toNat]? = some off) (ht : (pc : Int) + off = (tgt : Int)) (kk : V y k n tgt lv (st) x Z Q) : V y k n pc lv (i_ a :: st) x Z Q := by
  intro D B Hb p l e R s m args below meth c H locs cells slots QF ls C hR hL hm hl hret
  refine lv_tableIn C.1 C.2.1 hd (by rw [rg_to ha]; omega) (by rw [rg_to ha]; omega) (by rw [rg_to ha]; exact ho) ht (kk D B Hb p l e R s m args below meth c H locs cells slots QF ls C hR hL hm hl hret)
theorem V_tableOut {a dflt lo hi : Int} {offs : Array Int} {len tgt : Nat} (hd : decode y.2.1 pc = .ok (.tableswitch dflt lo hi offs, len)) (ha : Rg a) (h : a < lo ∨ hi < a) (ht : (pc : Int) + dflt = (tgt : Int)) (kk : V y k n tgt lv (st) x Z Q) : V y k n pc lv (i_ a :: st) x Z Q := by
  intro D B Hb p l e R s m args below meth c H locs cells slots QF ls C hR hL hm hl hret
  refine lv_tableOut C.1 C.2.1 hd (by rw [rg_to ha]; exact h) ht (kk D B Hb p l e R s m args below meth c H locs cells slots QF ls C hR hL hm hl hret)
end VS
