/-! ===== what a constructor makes, as a list of steps (the newest first) ===== -/
abbrev Mo : Type := Nat × Nat × Nat × Int
def stp (a : Nat) (o : Mo) (s : Wx × Zt) : Wx × Zt :=
  if o.1 = 0 then (mk s.1 (o.2.1, o.2.2.1), rowZ s.2 s.1.2.2.1)
  else if o.1 = 1 then (mk2 s.1 o.2.1 o.2.2.1, rowsZ s.2 s.1.2.2.1 o.2.1)
  else if o.1 = 2 then ((s.1.1, upR s.1.2.1 (a + o.2.1) o.2.2.1 (some (a + o.2.2.2.toNat)), s.1.2.2), s.2)
  else (s.1, up s.2 (a + o.2.1) o.2.2.1 o.2.2.2)
def rn (a : Nat) : List Mo → Wx × Zt → Wx × Zt
  | [], s => s
  | o :: L, s => stp a o (rn a L s)
def nxo : List Mo → Nat
  | [] => 1
  | o :: L => if o.1 = 0 then nxo L + 1 else if o.1 = 1 then nxo L + 1 + o.2.1 else nxo L
theorem nxo_pos : ∀ L : List Mo, 1 ≤ nxo L
  | [] => Nat.le_refl 1
  | o :: L => by
    have := nxo_pos L
    unfold nxo
    split
    · omega
    · split <;> omega
theorem rn_nx {a : Nat} {s : Wx × Zt} (hs : s.1.2.2.1 = a + 1) : ∀ L : List Mo, (rn a L s).1.2.2.1 = a + nxo L
  | [] => hs
  | o :: L => by
    have ih := rn_nx hs L
    unfold rn nxo stp
    split
    · show (rn a L s).1.2.2.1 + 1 = _; omega
    · split
      · show (rn a L s).1.2.2.1 + 1 + o.2.1 = _; omega
      · split
        · exact ih
        · exact ih
theorem rn_nxo {a d : Nat} {s : Wx × Zt} (hs : s.1.2.2.1 = a + 1) {L : List Mo} (h : nxo L = d) : (rn a L s).1.2.2.1 = a + d := by rw [rn_nx hs, h]
theorem rn_c {a : Nat} {s : Wx × Zt} : ∀ L : List Mo, (rn a L s).1.2.2.2 = s.1.2.2.2
  | [] => rfl
  | o :: L => by
    have ih := rn_c (a := a) (s := s) L
    unfold rn stp
    split
    · exact ih
    · split
      · exact ih
      · split
        · exact ih
        · exact ih
/-- what lies below is kept -/
theorem rn_low {a : Nat} {s : Wx × Zt} (hs : s.1.2.2.1 = a + 1) {b : Nat} (hb : b < a) : ∀ L : List Mo, (rn a L s).1.1 b = s.1.1 b ∧ (rn a L s).1.2.1 b = s.1.2.1 b ∧ (rn a L s).2 b = s.2 b
  | [] => ⟨rfl, rfl, rfl⟩
  | o :: L => by
    obtain ⟨i1, i2, i3⟩ := rn_low hs hb L
    have hn := rn_nx hs L
    have hp := nxo_pos L
    unfold rn stp
    split
    · refine ⟨?_, funext fun f => ?_, funext fun f => ?_⟩
      · show newS _ _ _ b = _; unfold newS; rw [if_neg (by omega)]; exact i1
      · show rowR _ _ b f = _; unfold rowR; rw [if_neg (by omega), i2]
      · show rowZ _ _ b f = _; unfold rowZ; rw [if_neg (by omega), i3]
    · split
      · refine ⟨?_, funext fun f => ?_, funext fun f => ?_⟩
        · show (if b = _ then _ else _) = _; rw [if_neg (by omega), if_neg (by omega)]; exact i1
        · show (if b = _ then _ else _) = _; rw [if_neg (by omega), if_neg (by omega), i2]
        · show rowsZ _ _ _ b f = _; unfold rowsZ; rw [if_neg (by omega), i3]
      · split
        · refine ⟨i1, funext fun f => ?_, i3⟩
          show upR _ _ _ _ b f = _; unfold upR; rw [if_neg (by omega), i2]
        · refine ⟨i1, i2, funext fun f => ?_⟩
          show up _ _ _ _ b f = _; rw [up_ne _ _ _ _ _ _ (Or.inl (by omega)), i3]
theorem rn_k0 {a : Nat} {s : Wx × Zt} (hs : s.1.2.2.1 = a + 1) : ∀ L : List Mo, (rn a L s).1.1 a = s.1.1 a
  | [] => rfl
  | o :: L => by
    have ih := rn_k0 hs L
    have hn := rn_nx hs L
    have hp := nxo_pos L
    unfold rn stp
    split
    · show newS _ _ _ a = _; unfold newS; rw [if_neg (by omega)]; exact ih
    · split
      · show (if a = _ then _ else _) = _; rw [if_neg (by omega), if_neg (by omega)]; exact ih
      · split
        · exact ih
        · exact ih
def kAt : List Mo → Nat → Option (Nat × Nat)
  | [], _ => none
  | o :: L, b => if o.1 = 0 ∧ b = nxo L then some (o.2.1, o.2.2.1) else if o.1 = 1 ∧ b = nxo L then some (104, o.2.1) else if o.1 = 1 ∧ nxo L < b ∧ b ≤ nxo L + o.2.1 then some (100, o.2.2.1) else kAt L b
theorem rn_k {a : Nat} {s : Wx × Zt} (hs : s.1.2.2.1 = a + 1) {b : Nat} {q : Nat × Nat} : ∀ {L : List Mo}, kAt L b = some q → (rn a L s).1.1 (a + b) = some q
  | [], h => by cases h
  | o :: L, h => by
    have hn := rn_nx hs L
    unfold kAt at h
    unfold rn stp
    by_cases h0 : o.1 = 0
    · rw [if_pos h0]
      show newS _ _ _ (a + b) = _; unfold newS
      by_cases hb : b = nxo L
      · rw [if_pos ⟨h0, hb⟩] at h; rw [if_pos (by omega)]; exact h
      · rw [if_neg (fun q => hb q.2), if_neg (by omega), if_neg (by omega)] at h; rw [if_neg (by omega)]; exact rn_k hs h
    · rw [if_neg h0]
      rw [if_neg (fun q => h0 q.1)] at h
      by_cases h1 : o.1 = 1
      · rw [if_pos h1]
        show (if a + b = _ then _ else _) = _
        by_cases hb : b = nxo L
        · rw [if_pos ⟨h1, hb⟩] at h; rw [if_pos (by omega)]; exact h
        · rw [if_neg (fun q => hb q.2)] at h; rw [if_neg (by omega)]
          by_cases hc : nxo L < b ∧ b ≤ nxo L + o.2.1
          · rw [if_pos ⟨h1, hc⟩] at h; rw [if_pos (by omega)]; exact h
          · rw [if_neg (fun q => hc q.2)] at h; rw [if_neg (by omega)]; exact rn_k hs h
      · rw [if_neg h1]
        rw [if_neg (fun q => h1 q.1), if_neg (fun q => h1 q.1)] at h
        split
        · exact rn_k hs h
        · exact rn_k hs h
def rAt : List Mo → Nat → Nat → Option (Option Nat)
  | [], _, _ => none
  | o :: L, b, f => if o.1 = 0 ∧ b = nxo L then some none else if o.1 = 1 ∧ b = nxo L then some (if f < o.2.1 then some (nxo L + 1 + f) else none) else if o.1 = 1 ∧ nxo L < b ∧ b ≤ nxo L + o.2.1 then some none else if o.1 = 2 ∧ b = o.2.1 ∧ f = o.2.2.1 then some (some o.2.2.2.toNat) else rAt L b f
theorem rn_r' {a : Nat} {s : Wx × Zt} (hs : s.1.2.2.1 = a + 1) {b f : Nat} {d : Option Nat} : ∀ {L : List Mo}, rAt L b f = some d → (rn a L s).1.2.1 (a + b) f = d.map (a + ·)
  | [], h => by cases h
  | o :: L, h => by
    have hn := rn_nx hs L
    unfold rAt at h
    unfold rn stp
    by_cases h0 : o.1 = 0
    · rw [if_pos h0]
      show rowR _ _ (a + b) f = _; unfold rowR
      by_cases hb : b = nxo L
      · rw [if_pos ⟨h0, hb⟩] at h; cases h; rw [if_pos (by omega)]; rfl
      · rw [if_neg (fun q => hb q.2), if_neg (by omega), if_neg (by omega), if_neg (by omega)] at h; rw [if_neg (by omega)]; exact rn_r' hs h
    · rw [if_neg h0]
      rw [if_neg (fun q => h0 q.1)] at h
      by_cases h1 : o.1 = 1
      · rw [if_pos h1]
        show (if a + b = _ then _ else _) = _
        by_cases hb : b = nxo L
        · rw [if_pos ⟨h1, hb⟩] at h; cases h; rw [if_pos (by omega)]
          by_cases hf : f < o.2.1
          · rw [if_pos hf, if_pos hf]; show some _ = some (a + (nxo L + 1 + f)); congr 1; omega
          · rw [if_neg hf, if_neg hf]; rfl
        · rw [if_neg (fun q => hb q.2)] at h; rw [if_neg (by omega)]
          by_cases hc : nxo L < b ∧ b ≤ nxo L + o.2.1
          · rw [if_pos ⟨h1, hc⟩] at h; cases h; rw [if_pos (by omega)]; rfl
          · rw [if_neg (fun q => hc q.2), if_neg (by omega)] at h; rw [if_neg (by omega)]; exact rn_r' hs h
      · rw [if_neg h1]
        rw [if_neg (fun q => h1 q.1), if_neg (fun q => h1 q.1)] at h
        by_cases h2 : o.1 = 2
        · rw [if_pos h2]
          show upR _ _ _ _ (a + b) f = _; unfold upR
          by_cases hb : b = o.2.1 ∧ f = o.2.2.1
          · rw [if_pos ⟨h2, hb⟩] at h; cases h; rw [if_pos ⟨by omega, hb.2⟩]; rfl
          · rw [if_neg (fun q => hb q.2)] at h; rw [if_neg (by omega)]; exact rn_r' hs h
        · rw [if_neg h2]
          rw [if_neg (fun q => h2 q.1)] at h
          exact rn_r' hs h
theorem rn_r {a : Nat} {s : Wx × Zt} (hs : s.1.2.2.1 = a + 1) {b f d : Nat} {L : List Mo} (h : rAt L b f = some (some d)) : (rn a L s).1.2.1 (a + b) f = some (a + d) := rn_r' hs h
theorem rn_rn {a : Nat} {s : Wx × Zt} (hs : s.1.2.2.1 = a + 1) {b f : Nat} {L : List Mo} (h : rAt L b f = some none) : (rn a L s).1.2.1 (a + b) f = none := rn_r' hs h
def zAt : List Mo → Nat → Nat → Option Int
  | [], _, _ => none
  | o :: L, b, f => if o.1 = 0 ∧ b = nxo L then some 0 else if o.1 = 1 ∧ nxo L ≤ b ∧ b ≤ nxo L + o.2.1 then some 0 else if o.1 ≠ 0 ∧ o.1 ≠ 1 ∧ o.1 ≠ 2 ∧ b = o.2.1 ∧ f = o.2.2.1 then some o.2.2.2 else zAt L b f
theorem rn_z {a : Nat} {s : Wx × Zt} (hs : s.1.2.2.1 = a + 1) {b f : Nat} {v : Int} : ∀ {L : List Mo}, zAt L b f = some v → (rn a L s).2 (a + b) f = v
  | [], h => by cases h
  | o :: L, h => by
    have hn := rn_nx hs L
    unfold zAt at h
    unfold rn stp
    by_cases h0 : o.1 = 0
    · rw [if_pos h0]
      show rowZ _ _ (a + b) f = _; unfold rowZ
      by_cases hb : b = nxo L
      · rw [if_pos ⟨h0, hb⟩] at h; cases h; rw [if_pos (by omega)]
      · rw [if_neg (fun q => hb q.2), if_neg (by omega), if_neg (fun q => q.1 h0)] at h; rw [if_neg (by omega)]; exact rn_z hs h
    · rw [if_neg h0]
      rw [if_neg (fun q => h0 q.1)] at h
      by_cases h1 : o.1 = 1
      · rw [if_pos h1]
        show rowsZ _ _ _ (a + b) f = _; unfold rowsZ
        by_cases hc : nxo L ≤ b ∧ b ≤ nxo L + o.2.1
        · rw [if_pos ⟨h1, hc⟩] at h; cases h; rw [if_pos (by omega)]
        · rw [if_neg (fun q => hc q.2), if_neg (fun q => q.2.1 h1)] at h; rw [if_neg (by omega)]; exact rn_z hs h
      · rw [if_neg h1]
        rw [if_neg (fun q => h1 q.1)] at h
        by_cases h2 : o.1 = 2
        · rw [if_pos h2]
          rw [if_neg (fun q => q.2.2.1 h2)] at h
          exact rn_z hs h
        · rw [if_neg h2]
          show up _ _ _ _ (a + b) f = _
          by_cases hb : b = o.2.1 ∧ f = o.2.2.1
          · rw [if_pos ⟨h0, h1, h2, hb⟩] at h; cases h; rw [hb.1, hb.2]; exact up_self _ _ _ _
          · rw [if_neg (fun q => hb q.2.2.2)] at h; rw [up_ne _ _ _ _ _ _ (by omega)]; exact rn_z hs h
/-- a row that nothing has been put into -/
def zRow : List Mo → Nat → Bool
  | [], _ => false
  | o :: L, b => if o.1 = 0 ∧ b = nxo L then true else if o.1 = 1 ∧ nxo L ≤ b ∧ b ≤ nxo L + o.2.1 then true else if o.1 ≠ 0 ∧ o.1 ≠ 1 ∧ o.1 ≠ 2 ∧ b = o.2.1 then false else zRow L b
theorem zRow_at {b f : Nat} : ∀ {L : List Mo}, zRow L b = true → zAt L b f = some 0
  | [], h => by cases h
  | o :: L, h => by
    unfold zRow at h
    unfold zAt
    split at h
    · rename_i c; rw [if_pos c]
    · rename_i c; rw [if_neg c]
      split at h
      · rename_i c2; rw [if_pos c2]
      · rename_i c2; rw [if_neg c2]
        split at h
        · cases h
        · rename_i c3; rw [if_neg (fun q => c3 ⟨q.1, q.2.1, q.2.2.1, q.2.2.2.1⟩)]; exact zRow_at h
theorem rn_row {a : Nat} {s : Wx × Zt} (hs : s.1.2.2.1 = a + 1) {b : Nat} {L : List Mo} (h : zRow L b = true) : (rn a L s).2 (a + b) = fun _ => 0 := funext fun _ => rn_z hs (zRow_at h)
def shf (d : Nat) : List Mo → List Mo
  | [] => []
  | o :: L => (if o.1 = 0 ∨ o.1 = 1 then o else if o.1 = 2 then (2, o.2.1 + d, o.2.2.1, ((o.2.2.2.toNat + d : Nat) : Int)) else (o.1, o.2.1 + d, o.2.2.1, o.2.2.2)) :: shf d L
theorem rn_shf {a d : Nat} {s : Wx × Zt} : ∀ L : List Mo, rn a (shf d L) s = rn (a + d) L s
  | [] => rfl
  | o :: L => by
    have ih := rn_shf (a := a) (d := d) (s := s) L
    obtain ⟨o1, o2, o3, o4⟩ := o
    show stp a (if o1 = 0 ∨ o1 = 1 then (o1, o2, o3, o4) else if o1 = 2 then (2, o2 + d, o3, ((o4.toNat + d : Nat) : Int)) else (o1, o2 + d, o3, o4)) (rn a (shf d L) s) = stp (a + d) (o1, o2, o3, o4) (rn (a + d) L s)
    rw [ih]
    by_cases h0 : o1 = 0
    · subst h0; rfl
    · by_cases h1 : o1 = 1
      · subst h1; rfl
      · by_cases h2 : o1 = 2
        · subst h2
          show ((_, upR _ (a + (o2 + d)) o3 (some (a + ((o4.toNat + d : Nat) : Int).toNat)), _), _) = ((_, upR _ (a + d + o2) o3 (some (a + d + o4.toNat)), _), _)
          rw [Int.toNat_natCast, show a + (o2 + d) = a + d + o2 from by omega, show a + (o4.toNat + d) = a + d + o4.toNat from by omega]
        · rw [if_neg (by show ¬ (o1 = 0 ∨ o1 = 1); omega), if_neg (show ¬ o1 = 2 from h2)]
          unfold stp
          rw [if_neg (show ¬ o1 = 0 from h0), if_neg (show ¬ o1 = 1 from h1), if_neg (show ¬ o1 = 2 from h2), if_neg (show ¬ o1 = 0 from h0), if_neg (show ¬ o1 = 1 from h1), if_neg (show ¬ o1 = 2 from h2)]
          show (_, up _ (a + (o2 + d)) o3 o4) = (_, up _ (a + d + o2) o3 o4)
          rw [show a + (o2 + d) = a + d + o2 from by omega]
theorem rn_app {a : Nat} {s : Wx × Zt} (L2 : List Mo) : ∀ L : List Mo, rn a (L ++ L2) s = rn a L (rn a L2 s)
  | [] => rfl
  | o :: L => by show stp a o (rn a (L ++ L2) s) = stp a o (rn a L (rn a L2 s)); rw [rn_app L2 L]
theorem V_le {y : MD} {k n k2 n2 pc : Nat} {lv : List (Option Value)} {st : List Value} {x : Wx} {Z : Zt} {Q : Option Value → Wx → Zt → Prop} (hk : k2 ≤ k) (hn : n2 ≤ n) (h : V y k2 n2 pc lv st x Z Q) : V y k n pc lv st x Z Q := by
  intro D B Hb p l e R s m args below meth c H locs cells slots QF ls C hR hL hm hl hret
  exact h D B Hb p l e R s m args below meth c H locs cells slots QF ls C hR hL ⟨hm.1, hm.2.1, by omega, by omega⟩ hl hret
section VR
variable {y : MD} {k n k0 n0 pc : Nat} {lv : List (Option Value)} {st : List Value} {a d : Nat} {s : Wx × Zt} {L : List Mo} {Q : Option Value → Wx → Zt → Prop}
theorem R_new {t idx : Nat} {q : vw_C} (hq : cls[t]? = some q) (hlk : Cond.classLink y.1.cls idx q.1 ∈ lw_tbl) (hins : Cond.instantiable q.1 q.2.2 ∈ lw_tbl) (hini : Cond.initialized q.1 ∈ lw_tbl) (hdf : ∀ j, j < q.2.2 → defaultValue (fty t j) = vl (fty t j) 0 none) (hd : decode y.2.1 pc = .ok (.new idx, 3)) (hs : s.1.2.2.1 = a + 1) (hn : nxo L = d) (ek : k0 = k + 1) (en : n0 = n + q.2.2) (kk : V y k n (pc + 3) lv (r_ (a + d) :: st) (rn a ((0, t, 0, 0) :: L) s).1 (rn a ((0, t, 0, 0) :: L) s).2 Q) : V y k0 n0 pc lv st (rn a L s).1 (rn a L s).2 Q := by
  subst ek en
  refine V_new hq hlk hins hini hdf hd ?_
  rw [rn_nxo hs hn]
  have : rn a ((0, t, 0, 0) :: L) s = (mk (rn a L s).1 (t, 0), rowZ (rn a L s).2 (rn a L s).1.2.2.1) := rfl
  rw [this, rn_nxo hs hn] at kk
  exact kk
theorem R_arr {t N : Nat} {at_ : ArrayType} {z : Int} (ht : t ∈ atags) (hty : aty t = newarray.typeOf at_) (hprim : ∀ (U : State) (cA : ClassId), va_RA U cA (newarray.typeOf at_) → U.vm.findClass ("[" ++ (newarray.typeOf at_).toString) = some cA) (hz : z = (N : Int)) (hN : N ≤ 60000000) (hdf : defaultValue (newarray.typeOf at_) = vl (newarray.typeOf at_) 0 none) (hcb : componentBytes (newarray.typeOf at_) ≤ 8) (hw : Cond.arrayClass (newarray.typeOf at_) ∈ lw_tbl) (hd : decode y.2.1 pc = .ok (.newarray at_, 2)) (hs : s.1.2.2.1 = a + 1) (hn : nxo L = d) (ek : k0 = k + 1) (en : n0 = n + N) (kk : V y k n (pc + 2) lv (r_ (a + d) :: st) (rn a ((0, t, N, 0) :: L) s).1 (rn a ((0, t, N, 0) :: L) s).2 Q) : V y k0 n0 pc lv (i_ z :: st) (rn a L s).1 (rn a L s).2 Q := by
  subst ek en
  refine V_newarr ht hty hprim hz hN hdf hcb hw hd ?_
  rw [rn_nxo hs hn]
  have : rn a ((0, t, N, 0) :: L) s = (mk (rn a L s).1 (t, N), rowZ (rn a L s).2 (rn a L s).1.2.2.1) := rfl
  rw [this, rn_nxo hs hn] at kk
  exact kk
theorem R_anew {idx N : Nat} {z : Int} (hz : z = (N : Int)) (hN : N ≤ 60000000) (hlk : Cond.classLink y.1.cls idx "CurveShares$Told" ∈ lw_tbl) (hd : decode y.2.1 pc = .ok (.anewarray idx, 3)) (hs : s.1.2.2.1 = a + 1) (hn : nxo L = d) (ek : k0 = k + 1) (en : n0 = n + N) (kk : V y k n (pc + 3) lv (r_ (a + d) :: st) (rn a ((0, 105, N, 0) :: L) s).1 (rn a ((0, 105, N, 0) :: L) s).2 Q) : V y k0 n0 pc lv (i_ z :: st) (rn a L s).1 (rn a L s).2 Q := by
  subst ek en
  refine V_anew hz hN hlk hd ?_
  rw [rn_nxo hs hn]
  have : rn a ((0, 105, N, 0) :: L) s = (mk (rn a L s).1 (105, N), rowZ (rn a L s).2 (rn a L s).1.2.2.1) := rfl
  rw [this, rn_nxo hs hn] at kk
  exact kk
theorem R_mna {idx N K : Nat} {z w : Int} (hz : z = (N : Int)) (hw : w = (K : Int)) (hN : N ≤ 60000000) (hK : K ≤ 60000000) (hlk : Cond.classLink y.1.cls idx "[[I" ∈ lw_tbl) (hd : decode y.2.1 pc = .ok (.multianewarray idx 2, 4)) (hs : s.1.2.2.1 = a + 1) (hn : nxo L = d) (ek : k0 = k + (1 + N)) (en : n0 = n + (N + N * K)) (kk : V y k n (pc + 4) lv (r_ (a + d) :: st) (rn a ((1, N, K, 0) :: L) s).1 (rn a ((1, N, K, 0) :: L) s).2 Q) : V y k0 n0 pc lv (i_ w :: i_ z :: st) (rn a L s).1 (rn a L s).2 Q := by
  subst ek en
  refine V_mna hz hw hN hK hlk la_int hd ?_
  rw [rn_nxo hs hn]
  have : rn a ((1, N, K, 0) :: L) s = (mk2 (rn a L s).1 N K, rowsZ (rn a L s).2 (rn a L s).1.2.2.1 N) := rfl
  rw [this, rn_nxo hs hn] at kk
  exact kk
theorem R_callIN {y' : MD} {k' n' b : Nat} {idx : Nat} {host : String} {L' : List Mo} (As rest : List Value) (hM : MOk y' As.length) (hname : y'.1.name = "<init>") (hrt : y'.2.2.2.1 = none) (hlk : Cond.methodLinkNest y.1.cls idx y'.1 host ∈ lw_tbl) (hin : Cond.instanceMethod y'.1 ∈ lw_tbl)
    (hfr : y'.2.2.2.2.1 + 1 ≤ y.2.2.2.2.1) (hlo : 8 + (y'.2.2.1 + 11) + y'.2.2.2.2.2 ≤ y.2.2.2.2.2) (hrest : (rest.map fun v => v.category).sum ≤ 8) (hcat : ∀ v ∈ (r_ (a + b) :: As), v.category = 1) (hlen : (r_ (a + b) :: As).length ≤ y'.2.2.1) (hst : st = As.reverse ++ r_ (a + b) :: rest) (hd : decode y.2.1 pc = .ok (.invokespecial idx, 3)) (ek : k0 = k + k') (en : n0 = n + n')
    (sp : ∀ Q' : Option Value → Wx → Zt → Prop, Q' none (rn (a + b) L' (rn a L s)).1 (rn (a + b) L' (rn a L s)).2 → V y' k' n' 0 (ent y'.2.2.1 (r_ (a + b) :: As)) [] (rn a L s).1 (rn a L s).2 Q')
    (kk : V y k n (pc + 3) lv rest (rn a (shf b L' ++ L) s).1 (rn a (shf b L' ++ L) s).2 Q) : V y k0 n0 pc lv st (rn a L s).1 (rn a L s).2 Q := by
  subst ek en
  refine V_callIN (k' := k') (n' := n') As rest hM hname hrt hlk hin hfr hlo hrest hcat hlen (by omega) (by omega) hst hd (sp _ ?_)
  rw [rn_app, rn_shf] at kk
  rw [Nat.add_sub_cancel, Nat.add_sub_cancel]
  exact kk
theorem R_ref {f : Nat} (kk : V y k n pc lv st (rn a ((2, 0, f, (d : Int)) :: L) s).1 (rn a ((2, 0, f, (d : Int)) :: L) s).2 Q) : V y k n pc lv st ((rn a L s).1.1, upR (rn a L s).1.2.1 a f (some (a + d)), (rn a L s).1.2.2) (rn a L s).2 Q := kk
theorem R_put {f : Nat} {z : Int} (kk : V y k n pc lv st (rn a ((3, 0, f, z) :: L) s).1 (rn a ((3, 0, f, z) :: L) s).2 Q) : V y k n pc lv st (rn a L s).1 (up (rn a L s).2 a f z) Q := kk
theorem R_putc {c f : Nat} {z : Int} (kk : V y k n pc lv st (rn a ((3, c, f, z) :: L) s).1 (rn a ((3, c, f, z) :: L) s).2 Q) : V y k n pc lv st (rn a L s).1 (up (rn a L s).2 (a + c) f z) Q := kk
theorem R_refc {b f : Nat} (kk : V y k n pc lv st (rn a ((2, b, f, (d : Int)) :: L) s).1 (rn a ((2, b, f, (d : Int)) :: L) s).2 Q) : V y k n pc lv st ((rn a L s).1.1, upR (rn a L s).1.2.1 (a + b) f (some (a + d)), (rn a L s).1.2.2) (rn a L s).2 Q := kk
theorem R_kind {t : Nat} (hs : s.1.2.2.1 = a + 1) (hk : s.1.1 a = some (t, 0)) (L : List Mo) : (rn a L s).1.1 a = some (t, 0) := (rn_k0 hs L).trans hk
end VR
