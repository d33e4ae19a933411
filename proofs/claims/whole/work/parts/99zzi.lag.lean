/-! ===== all classes' number kills each of them; TORSION tied but for 450 ===== -/
def lS (p : Int) (F : Nat → Int) (L : List UV) : UV := L.foldr (fun A B => cplus p F (gen F) A B) czero
theorem lS_GP {p : Int} {F : Nat → Int} (hC : CS p (gen F) F) : ∀ L : List UV, (∀ A, A ∈ L → GP p (gen F) F A) → GP p (gen F) F (lS p F L)
  | [], _ => zero_GP hC.1
  | A :: L, h => plus_GP hC (h A (List.mem_cons_self ..)) (lS_GP hC L (fun B hB => h B (List.mem_cons_of_mem _ hB)))
theorem lS_perm {p : Int} {F : Nat → Int} (hC : CS p (gen F) F) {l m : List UV} (h : l.Perm m) : (∀ A, A ∈ l → GP p (gen F) F A) → lS p F l = lS p F m := by
  induction h with
  | nil => exact fun _ => rfl
  | cons x _ ih =>
    intro hl
    show cplus p F (gen F) x (lS p F _) = cplus p F (gen F) x (lS p F _)
    rw [ih (fun B hB => hl B (List.mem_cons_of_mem _ hB))]
  | swap x y l =>
    intro hl
    have hx := hl x (by simp)
    have hy := hl y (by simp)
    have hL := lS_GP hC l (fun B hB => hl B (by simp [hB]))
    show cplus p F (gen F) y (cplus p F (gen F) x (lS p F l)) = cplus p F (gen F) x (cplus p F (gen F) y (lS p F l))
    rw [← plus_assoc hC hy hx hL, plus_comm hC hy hx, plus_assoc hC hx hy hL]
  | trans h1 _ ih1 ih2 =>
    intro hl
    rw [ih1 hl, ih2 (fun B hB => hl B (h1.mem_iff.mpr hB))]
theorem lS_map {p : Int} {F : Nat → Int} (hC : CS p (gen F) F) {a : UV} (ha : GP p (gen F) F a) : ∀ L : List UV, (∀ A, A ∈ L → GP p (gen F) F A) → lS p F (L.map (fun B => cplus p F (gen F) a B)) = cplus p F (gen F) (mulN p F (gen F) a L.length) (lS p F L)
  | [], _ => (plus_zero hC (zero_GP hC.1)).symm
  | A :: L, h => by
    have hA := h A (List.mem_cons_self ..)
    have hL := fun B hB => h B (List.mem_cons_of_mem A hB)
    show cplus p F (gen F) (cplus p F (gen F) a A) (lS p F (L.map (fun B => cplus p F (gen F) a B))) = cplus p F (gen F) (cplus p F (gen F) (mulN p F (gen F) a L.length) a) (cplus p F (gen F) A (lS p F L))
    rw [lS_map hC ha L hL, plus_4 hC ha hA (mulN_GP hC ha _) (lS_GP hC L hL), plus_comm hC ha (mulN_GP hC ha _)]
theorem lagr {p : Int} {F : Nat → Int} (hC : CS p (gen F) F) {a : UV} (ha : GP p (gen F) F a) : mulN p F (gen F) a (clsL p F (gen F)).length = czero := by
  have all : ∀ A, A ∈ clsL p F (gen F) → GP p (gen F) F A := fun A hA => (clsL_mem hC.1 A).mp hA
  have hn := neg_GP hC.1 ha
  have nd : ((clsL p F (gen F)).map (fun B => cplus p F (gen F) a B)).Nodup := by
    refine List.pairwise_map.mpr (List.Pairwise.imp_of_mem ?_ (clsL_nd hC.1.1))
    intro x y hx hy hxy e
    have gx := all x hx
    have gy := all y hy
    rw [plus_comm hC ha gx, plus_comm hC ha gy] at e
    exact hxy (plus_can hC gx gy ha e)
  have pm := (List.perm_ext_iff_of_nodup nd (clsL_nd hC.1.1)).mpr (fun B => by
    rw [List.mem_map, clsL_mem hC.1]
    constructor
    · rintro ⟨A, hA, rfl⟩
      exact plus_GP hC ha (all A hA)
    · intro hB
      refine ⟨cplus p F (gen F) (cneg p a) B, (clsL_mem hC.1 _).mpr (plus_GP hC hn hB), ?_⟩
      rw [← plus_assoc hC ha hn hB, plus_neg hC ha, zero_plus hC hB])
  have gL := lS_GP hC _ all
  have e1 := lS_map hC ha _ all
  rw [lS_perm hC pm (fun A hA => by
    obtain ⟨B, hB, rfl⟩ := List.mem_map.mp hA
    exact plus_GP hC ha (all B hB))] at e1
  refine plus_can hC (mulN_GP hC ha _) (zero_GP hC.1) gL ?_
  rw [← e1, zero_plus hC gL]
theorem tm_dvd {p : Int} {F : Nat → Int} (hC : CS p (gen F) F) {a : UV} (ha : GP p (gen F) F a) {o : Nat} (ho : OrdC p F a o) {k : Nat} (hk : k < 4096) : pd (tmT p F a k).1 = 0 ↔ o ∣ k := by
  have e : tmT p F a k = mulN p F (gen F) a k := by
    rw [tmT_eq hC ha (by omega)]
    unfold zN
    rw [if_neg (by omega), Int.natAbs_natCast]
  rw [e, ← ord_dvd hC ha ho, ← none_iff (mulN_GP hC ha k)]
  have := (mulN_GP hC ha k).1.2.2.1
  omega
theorem oqL_ok {p : Int} {F : Nat → Int} (hC : CS p (gen F) F) {a : UV} (ha : GP p (gen F) F a) {o : Nat} (ho : OrdC p F a o) {q : Nat} (hq : 2 ≤ q) : ∀ m n : Nat, 1 ≤ n → n < 2 ^ m → n < 4096 → o ∣ n → ∃ k : Nat, oqL p F a q m n = (k : Int) ∧ 1 ≤ k ∧ k ∣ n ∧ o ∣ k ∧ ¬ (q ∣ k ∧ o ∣ k / q)
  | 0, n, h1, h2, _, _ => by have h2 : n < 1 := h2; omega
  | m + 1, n, h1, h2, h3, h4 => by
    unfold oqL
    have hm : (n : Int) % (q : Int) = ((n % q : Nat) : Int) := by omega
    have hd : (n : Int) / (q : Int) = ((n / q : Nat) : Int) := by omega
    rw [hm, hd]
    by_cases c : n % q = 0
    · have qn : q ∣ n := Nat.dvd_of_mod_eq_zero c
      have lt : n / q < n := Nat.div_lt_self h1 hq
      rw [if_pos (by omega)]
      by_cases c2 : o ∣ n / q
      · rw [if_pos ((tm_dvd hC ha ho (by omega)).mpr c2)]
        have e := Nat.mul_div_cancel' qn
        have g2 : n / q < 2 ^ m := by
          have hp2 : 2 ^ (m + 1) = 2 * 2 ^ m := by rw [Nat.pow_succ]; omega
          have : 2 * (n / q) ≤ q * (n / q) := Nat.mul_le_mul_right _ hq
          omega
        have p1 : 1 ≤ n / q := Nat.div_pos (Nat.le_of_dvd h1 qn) (by omega)
        obtain ⟨k, k1, k2, k3, k4⟩ := oqL_ok hC ha ho hq m (n / q) p1 g2 (by omega) c2
        exact ⟨k, k1, k2, Nat.dvd_trans k3 ⟨q, by rw [Nat.mul_comm]; exact e.symm⟩, k4⟩
      · rw [if_neg (fun e => c2 ((tm_dvd hC ha ho (by omega)).mp e))]
        exact ⟨n, rfl, h1, Nat.dvd_refl n, h4, fun e => c2 e.2⟩
    · rw [if_neg (by omega)]
      exact ⟨n, rfl, h1, Nat.dvd_refl n, h4, fun e => c (Nat.mod_eq_zero_of_dvd e.1)⟩
theorem oq_fin {o n q : Nat} (h1 : 1 ≤ n) (h2 : o ∣ n) (h3 : n < q) (h4 : ∀ r : Nat, 2 ≤ r → r < q → ¬ (r ∣ n ∧ o ∣ n / r)) : n = o := by
  obtain ⟨r, rfl⟩ := h2
  have o0 : o ≠ 0 := fun e => by rw [e, Nat.zero_mul] at h1; omega
  have r0 : r ≠ 0 := fun e => by rw [e, Nat.mul_zero] at h1; omega
  by_cases c : r = 1
  · rw [c, Nat.mul_one]
  · exfalso
    have le : r ≤ o * r := Nat.le_mul_of_pos_left r (by omega)
    refine h4 r (by omega) (by omega) ⟨⟨o, Nat.mul_comm o r⟩, ?_⟩
    rw [Nat.mul_div_cancel _ (by omega)]
    exact Nat.dvd_refl o
theorem oqA_ok {p : Int} {F : Nat → Int} (hC : CS p (gen F) F) {a : UV} (ha : GP p (gen F) F a) {o : Nat} (ho : OrdC p F a o) : ∀ m q n : Nat, 2 ≤ q → 1 ≤ n → n < 4096 → n < q + m → o ∣ n → (∀ r : Nat, 2 ≤ r → r < q → ¬ (r ∣ n ∧ o ∣ n / r)) → oqA p F a m q n = o
  | 0, q, n, _, h1, _, h3, h4, h5 => by
    show ((n : Nat) : Int) = o
    rw [oq_fin h1 h4 (by omega) h5]
  | m + 1, q, n, hq, h1, h2, h3, h4, h5 => by
    unfold oqA
    by_cases c : (q : Int) ≤ n
    · rw [if_pos c]
      obtain ⟨k, k1, k2, k3, k4, k5⟩ := oqL_ok hC ha ho hq 12 n h1 (by show n < 4096; exact h2) h2 h4
      have kn := Nat.le_of_dvd h1 k3
      rw [k1]
      refine oqA_ok hC ha ho m (q + 1) k (by omega) k2 (by omega) (by omega) k4 (fun r r1 r2 e => ?_)
      by_cases cr : r = q
      · rw [cr] at e; exact k5 e
      · obtain ⟨t, ht⟩ := k3
        have rk := Nat.mul_div_cancel' e.1
        refine h5 r r1 (by omega) ⟨Nat.dvd_trans e.1 ⟨t, ht⟩, ?_⟩
        have : n / r = k / r * t := by
          rw [ht]
          conv => lhs; rw [← rk]
          rw [Nat.mul_assoc, Nat.mul_div_cancel_left _ (by omega)]
        rw [this]
        exact Nat.dvd_trans e.2 ⟨t, rfl⟩
    · rw [if_neg c, oq_fin h1 h4 (by omega) h5]
theorem cnt_smT (P : UV → Bool) : ∀ L : List UV, (L.countP P : Int) = smT L.length (fun i => if P (L.getD i czero) = true then 1 else 0)
  | [] => rfl
  | A :: L => by
    have ih := cnt_smT P L
    show (((A :: L).countP P : Nat) : Int) = smT (L.length + 1) _
    rw [smT_fst]
    show _ = (if P A = true then 1 else 0) + smT L.length (fun i => if P (L.getD i czero) = true then 1 else 0)
    rw [← ih, List.countP_cons]
    by_cases c : P A = true
    · rw [if_pos c, if_pos c]; omega
    · rw [if_neg c, if_neg c]; omega
theorem klO_sm (O : Nat → Int) (d : Int) : ∀ m : Nat, klO O d m = smT m (fun i => if 0 < O i ∧ d % O i = 0 then 1 else 0)
  | 0 => rfl
  | m + 1 => by
    show klO O d m + _ = smT m _ + _
    rw [klO_sm O d m]
theorem tsN_sm {p : Int} {F : Nat → Int} {d : Int} (hd : d ≠ 0) {L : List UV} : ∀ m : Nat, tsN p F d L m = smT m (fun i => if pd (tmT p F (L.getD i czero) d).1 = 0 then 1 else 0)
  | 0 => rfl
  | m + 1 => by
    unfold tsN
    rw [if_neg hd, tsN_sm hd m]
    exact Int.add_comm _ _
theorem mxO_is {O : Nat → Int} : ∀ m : Nat, (∀ i : Nat, i < m → O i ≤ mxO O m) ∧ 1 ≤ mxO O m ∧ (mxO O m = 1 ∨ ∃ i : Nat, i < m ∧ mxO O m = O i)
  | 0 => ⟨fun i hi => by omega, Int.le_refl 1, Or.inl rfl⟩
  | m + 1 => by
    obtain ⟨h1, h2, h3⟩ := mxO_is (O := O) m
    have e : mxO O (m + 1) = max (mxO O m) (O m) := rfl
    rw [e]
    refine ⟨fun i hi => ?_, by omega, ?_⟩
    · by_cases c : i = m
      · rw [c]; omega
      · have := h1 i (by omega); omega
    · by_cases c : mxO O m ≤ O m
      · exact Or.inr ⟨m, by omega, by omega⟩
      · rcases h3 with h | ⟨i, i1, i2⟩
        · exact Or.inl (by omega)
        · exact Or.inr ⟨i, by omega, by omega⟩
theorem tsN_is {p : Int} {F : Nat → Int} {L : List UV} : ∀ m : Nat, (∀ i : Nat, i < m → oqA p F (L.getD i czero) 600 2 L.length ≤ tsN p F 0 L m) ∧ (m = 0 ∨ ∃ i : Nat, i < m ∧ (tsN p F 0 L m = oqA p F (L.getD i czero) 600 2 L.length ∨ oqA p F (L.getD i czero) 600 2 L.length ≤ 0))
  | 0 => ⟨fun i hi => by omega, Or.inl rfl⟩
  | m + 1 => by
    obtain ⟨h1, h2⟩ := tsN_is (p := p) (F := F) (L := L) m
    unfold tsN
    rw [if_pos rfl]
    by_cases c : oqA p F (L.getD m czero) 600 2 L.length ≤ tsN p F 0 L m
    · rw [if_pos c]
      refine ⟨fun i hi => ?_, ?_⟩
      · by_cases ci : i = m
        · rw [ci]; exact c
        · exact h1 i (by omega)
      · right
        rcases h2 with h | ⟨i, i1, i2⟩
        · refine ⟨m, by omega, Or.inr ?_⟩
          rw [h] at c ⊢
          exact c
        · exact ⟨i, by omega, i2⟩
    · rw [if_neg c]
      refine ⟨fun i hi => ?_, Or.inr ⟨m, by omega, Or.inl rfl⟩⟩
      by_cases ci : i = m
      · rw [ci]; exact Int.le_refl _
      · have := h1 i (by omega); omega
theorem tie_torsion {T : Td} (hV : TdV T) (h450 : ∀ c : Nat, (c : Int) < T.ct 0 → (clsL (T.p c) (T.F c) (gen (T.F c))).length ≤ 450) (c d : Int) : ((0 ≤ c ∧ c < T.ct 0) → (mAl (T.p c.toNat) (T.F c.toNat)).length ≤ 579) ∧ aTorsion T c d = mATorsion T c d := by
  by_cases hc : 0 ≤ c ∧ c < T.ct 0
  · have hC := Td.cs hV (q := c.toNat) (by omega)
    have hl := h450 c.toNat (by omega)
    have pm := cls_perm hC.1
    have le := pm.length_eq
    refine ⟨fun _ => by omega, ?_⟩
    unfold aTorsion mATorsion
    by_cases hd : 0 ≤ d ∧ d ≤ 99
    · rw [if_pos (show (0 ≤ c ∧ c < T.ct 0) ∧ 0 ≤ d ∧ d ≤ 99 from ⟨hc, hd⟩), if_pos (show (0 ≤ c ∧ c < T.ct 0) ∧ 0 ≤ d ∧ d ≤ 99 from ⟨hc, hd⟩)]
      generalize T.p c.toNat = p at *
      generalize T.F c.toNat = F at *
      obtain ⟨o1, o2⟩ := orA_ok hC rfl hl (clsL p F (gen F)).length (Nat.le_refl _)
      have cn : clN p F = (clsL p F (gen F)).length := by unfold clN; omega
      have co : clO p F = orA p F (gen F) (clsL p F (gen F)) (clsL p F (gen F)).length := by unfold clO; rw [cn]
      rw [cn, co]
      have val : ∀ i : Nat, i < (clsL p F (gen F)).length → ∃ n : Nat, orA p F (gen F) (clsL p F (gen F)) (clsL p F (gen F)).length i = n ∧ OrdC p F ((clsL p F (gen F)).getD i czero) n := fun i hi => by
        rcases o1 i hi with h | h
        · exact absurd h (o2 i hi)
        · exact h
      have oq : ∀ (A : UV) (n : Nat), A ∈ mAl p F → OrdC p F A n → oqA p F A 600 2 (mAl p F).length = n := fun A n hA hn => by
        have ga := (mAl_mem hC.1 A).mp hA
        have lg := (ord_dvd hC ga hn _).mp (lagr hC ga)
        have := oqA_ok hC ga hn 600 2 (mAl p F).length (by omega) (by
          have : A ∈ mAl p F := hA
          have := List.length_pos_of_mem this
          omega) (by omega) (by omega) (by rw [← le]; exact lg) (fun r r1 r2 => by omega)
        exact this
      by_cases d0 : d = 0
      · rw [if_pos d0, d0]
        obtain ⟨m1, m2, m3⟩ := mxO_is (O := orA p F (gen F) (clsL p F (gen F)) (clsL p F (gen F)).length) (clsL p F (gen F)).length
        obtain ⟨t1, t2⟩ := tsN_is (p := p) (F := F) (L := mAl p F) (mAl p F).length
        generalize mxO (orA p F (gen F) (clsL p F (gen F)) (clsL p F (gen F)).length) (clsL p F (gen F)).length = M at *
        generalize tsN p F 0 (mAl p F) (mAl p F).length = M' at *
        -- both are the greatest order
        have up : ∀ (A : UV) (n : Nat), GP p (gen F) F A → OrdC p F A n → (n : Int) ≤ M ∧ (n : Int) ≤ M' := fun A n hA hn => by
          obtain ⟨i, i1, i2⟩ := getD_mem ((clsL_mem hC.1 A).mpr hA)
          obtain ⟨k, k1, k2⟩ := val i i1
          rw [i2] at k2
          have kn := ord_uni hn k2
          have := m1 i i1
          obtain ⟨j, j1, j2⟩ := getD_mem ((mAl_mem hC.1 A).mpr hA)
          have h2 := t1 j j1
          rw [j2, oq A n ((mAl_mem hC.1 A).mpr hA) hn] at h2
          exact ⟨by omega, h2⟩
        have z1 : OrdC p F czero 1 := ⟨Nat.le_refl 1, mulN_1 hC (zero_GP hC.1), fun m h1 h2 => by omega⟩
        have exM : ∃ (A : UV) (n : Nat), GP p (gen F) F A ∧ OrdC p F A n ∧ M = n := by
          rcases m3 with h | ⟨i, i1, i2⟩
          · exact ⟨czero, 1, zero_GP hC.1, z1, h⟩
          · obtain ⟨k, k1, k2⟩ := val i i1
            exact ⟨_, k, (clsL_mem hC.1 _).mp (getD_in i1), k2, by rw [i2, k1]⟩
        have exM' : ∃ (A : UV) (n : Nat), GP p (gen F) F A ∧ OrdC p F A n ∧ M' = n := by
          rcases t2 with h | ⟨i, i1, i2⟩
          · have : czero ∈ mAl p F := (mAl_mem hC.1 _).mpr (zero_GP hC.1)
            have := List.length_pos_of_mem this
            omega
          · have hA := getD_in i1
            have ga := (mAl_mem hC.1 _).mp hA
            obtain ⟨n, n1, -, n3, n4⟩ := ord_ex hC ga
            have e := oq _ n hA ⟨n1, n3, n4⟩
            refine ⟨_, n, ga, ⟨n1, n3, n4⟩, ?_⟩
            rw [e] at i2
            rcases i2 with h | h
            · exact h
            · omega
        obtain ⟨A, n, a1, a2, a3⟩ := exM
        obtain ⟨A', n', b1, b2, b3⟩ := exM'
        have h1 := (up A n a1 a2).2
        have h2 := (up A' n' b1 b2).1
        omega
      · rw [if_neg d0, klO_sm, tsN_sm d0]
        obtain ⟨D, hD⟩ : ∃ D : Nat, d = (D : Int) := ⟨d.toNat, by omega⟩
        have e1 : smT (clsL p F (gen F)).length (fun i => if 0 < orA p F (gen F) (clsL p F (gen F)) (clsL p F (gen F)).length i ∧ d % orA p F (gen F) (clsL p F (gen F)) (clsL p F (gen F)).length i = 0 then 1 else 0) = (((clsL p F (gen F)).countP (fun A => decide (pd (tmT p F A d).1 = 0)) : Nat) : Int) := by
          rw [cnt_smT]
          refine smT_ext (fun i hi => ?_)
          obtain ⟨n, n1, n2⟩ := val i hi
          have ga := (clsL_mem hC.1 _).mp (getD_in hi)
          show (if 0 < orA p F (gen F) (clsL p F (gen F)) (clsL p F (gen F)).length i ∧ d % orA p F (gen F) (clsL p F (gen F)) (clsL p F (gen F)).length i = 0 then (1 : Int) else 0) = if decide (pd (tmT p F ((clsL p F (gen F)).getD i czero) d).1 = 0) = true then 1 else 0
          refine if_iff ?_
          rw [n1, decide_eq_true_iff, hD, tm_dvd hC ga n2 (by omega)]
          have := n2.1
          constructor
          · rintro ⟨-, h⟩
            exact Nat.dvd_of_mod_eq_zero (by omega)
          · intro h
            exact ⟨by omega, by have := Nat.mod_eq_zero_of_dvd h; omega⟩
        have e2 : smT (mAl p F).length (fun i => if pd (tmT p F ((mAl p F).getD i czero) d).1 = 0 then 1 else 0) = (((mAl p F).countP (fun A => decide (pd (tmT p F A d).1 = 0)) : Nat) : Int) := by
          rw [cnt_smT]
          refine smT_ext (fun i hi => ?_)
          show (if pd (tmT p F ((mAl p F).getD i czero) d).1 = 0 then (1 : Int) else 0) = if decide (pd (tmT p F ((mAl p F).getD i czero) d).1 = 0) = true then 1 else 0
          exact if_iff (decide_eq_true_iff).symm
        rw [e1, e2, pm.countP_eq]
    · rw [if_neg (fun e => hd e.2), if_neg (fun e => hd e.2)]
  · refine ⟨fun e => absurd e hc, ?_⟩
    unfold aTorsion mATorsion
    rw [if_neg (fun e => hc e.1), if_neg (fun e => hc e.1)]
