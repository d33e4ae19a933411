/-! ===== TORSION ===== -/
theorem ord_dvd {p : Int} {F : Nat → Int} (hC : CS p (gen F) F) {a : UV} (ha : GP p (gen F) F a) {n : Nat} (hn : OrdC p F a n) (i : Nat) : mulN p F (gen F) a i = czero ↔ n ∣ i := by
  constructor
  · intro h
    rw [mulN_md hC ha hn.2.1] at h
    have lt := Nat.mod_lt i hn.1
    by_cases c : i % n = 0
    · exact Nat.dvd_of_mod_eq_zero c
    · exact absurd h (hn.2.2 _ (by omega) lt)
  · rintro ⟨k, rfl⟩
    rw [← mulN_mul hC ha, hn.2.1, mulN_0 hC]
theorem ord_uni {p : Int} {F : Nat → Int} {a : UV} {n m : Nat} (hn : OrdC p F a n) (hm : OrdC p F a m) : n = m := by
  have h1 : ¬ n < m := fun c => hm.2.2 n hn.1 c hn.2.1
  have h2 : ¬ m < n := fun c => hn.2.2 m hm.1 c hm.2.1
  omega
theorem ord_of_dvd {p : Int} {F : Nat → Int} {a : UV} {n : Nat} (h1 : 1 ≤ n) (h : ∀ i : Nat, mulN p F (gen F) a i = czero ↔ n ∣ i) : OrdC p F a n := ⟨h1, (h n).mpr (Nat.dvd_refl n), fun m m1 m2 e => by
  have := Nat.le_of_dvd (by omega) ((h m).mp e)
  omega⟩
/-- the order of a multiple -/
theorem ord_mul {p : Int} {F : Nat → Int} (hC : CS p (gen F) F) {a : UV} (ha : GP p (gen F) F a) {n : Nat} (hn : OrdC p F a n) (k : Nat) : OrdC p F (mulN p F (gen F) a k) (n / Nat.gcd n k) := by
  have gp : 0 < Nat.gcd n k := Nat.gcd_pos_of_pos_left k hn.1
  have gd : Nat.gcd n k ∣ n := Nat.gcd_dvd_left n k
  refine ord_of_dvd (Nat.div_pos (Nat.le_of_dvd hn.1 gd) gp) (fun i => ?_)
  rw [mulN_mul hC ha, ord_dvd hC ha hn, ← Nat.dvd_gcd_mul_iff_dvd_mul]
  have e := Nat.mul_div_cancel' gd
  constructor
  · intro h
    have h2 : Nat.gcd n k * (n / Nat.gcd n k) ∣ Nat.gcd n k * i := by rw [e]; exact h
    exact Nat.dvd_of_mul_dvd_mul_left gp h2
  · intro h
    have := Nat.mul_dvd_mul_left (Nat.gcd n k) h
    rw [e] at this
    exact this
theorem gcdF_gcd : ∀ (m : Nat) (a b : Nat), 1 ≤ a → b < m → gcdF m a b = (Nat.gcd a b : Nat)
  | 0, a, b, _, h => by omega
  | m + 1, a, b, ha, h => by
    unfold gcdF
    by_cases c : 0 < (b : Int)
    · rw [if_pos c, show (a : Int) % (b : Int) = ((a % b : Nat) : Int) by omega]
      have lt := Nat.mod_lt a (show 0 < b by omega)
      rw [gcdF_gcd m b (a % b) (by omega) (by omega), Nat.gcd_comm b, ← Nat.gcd_rec, Nat.gcd_comm]
    · rw [if_neg c, show b = 0 by omega, Nat.gcd_zero_right]
      omega
theorem wkN_eq {p : Int} {F : Nat → Int} (hC : CS p (gen F) F) {a : UV} (ha : GP p (gen F) F a) {n N : Nat} (hn : OrdC p F a n) (hN : n ≤ N) : ∀ m k : Nat, k < n → n ≤ k + m → wkN p F (gen F) a N m k = n
  | 0, k, h1, h2 => by omega
  | m + 1, k, h1, h2 => by
    unfold wkN
    by_cases c : k + 1 = n
    · rw [if_pos (Or.inr (by rw [none_iff (mulN_GP hC ha (k + 1)), c]; exact hn.2.1)), c]
    · rw [if_neg (fun e => by
        rcases e with e | e
        · omega
        · exact hn.2.2 (k + 1) (by omega) (by omega) ((none_iff (mulN_GP hC ha (k + 1))).mp e))]
      exact wkN_eq hC ha hn hN m (k + 1) (by omega) (by omega)
/-- the search finds what lies there -/
theorem bsr_at {K : Nat → Int} {N t : Nat} (hK : ∀ i j : Nat, i < j → j < N → K i < K j) (ht : t < N) : ∀ (m : Nat) (lo hi : Int), 0 ≤ lo → hi < N → lo ≤ t → (t : Int) ≤ hi → hi - lo < m → bsr K (K t) m lo hi = t
  | 0, lo, hi, _, _, h1, h2, h3 => by omega
  | m + 1, lo, hi, h0, hN, h1, h2, h3 => by
    unfold bsr
    rw [if_neg (by omega)]
    have hm : 0 ≤ (lo + hi) / 2 ∧ lo ≤ (lo + hi) / 2 ∧ (lo + hi) / 2 ≤ hi := by omega
    by_cases c : ((lo + hi) / 2).toNat = t
    · rw [if_pos (by rw [c])]; omega
    · by_cases c2 : ((lo + hi) / 2).toNat < t
      · have := hK _ _ c2 ht
        rw [if_neg (by omega), if_pos this]
        exact bsr_at hK ht m _ hi (by omega) hN (by omega) h2 (by omega)
      · have := hK t ((lo + hi) / 2).toNat (by omega) (by omega)
        rw [if_neg (by omega), if_neg (by omega)]
        exact bsr_at hK ht m lo _ h0 (by omega) h1 (by omega) (by omega)
theorem getD_mem {L : List UV} {A : UV} (h : A ∈ L) : ∃ t : Nat, t < L.length ∧ L.getD t czero = A := by
  obtain ⟨t, ht, e⟩ := List.mem_iff_getElem.mp h
  exact ⟨t, ht, by rw [List.getD_eq_getElem?_getD, List.getElem?_eq_getElem ht]; exact e⟩
theorem getD_in {L : List UV} {t : Nat} (h : t < L.length) : L.getD t czero ∈ L := by
  rw [List.getD_eq_getElem?_getD, List.getElem?_eq_getElem h]; exact List.getElem_mem h
theorem keys_up {p : Int} (hp : IsP p) {F : Nat → Int} {g : Int} {i j : Nat} (h : i < j) (hj : j < (clsL p F g).length) : kyL p (clsL p F g) i < kyL p (clsL p F g) j := by
  obtain ⟨hi, h1, h2⟩ := clsL_asc hp (F := F) (g := g)
  have := List.pairwise_iff_getElem.mp h2 i j (by omega) hj h
  unfold kyL
  rw [List.getD_eq_getElem?_getD, List.getElem?_eq_getElem (show i < (clsL p F g).length by omega), List.getD_eq_getElem?_getD, List.getElem?_eq_getElem hj]
  exact this
section TS
variable {p : Int} {F : Nat → Int}
/-- all that is set is right -/
def OrdOk (p : Int) (F : Nat → Int) (N : Nat) (O : Nat → Int) : Prop := ∀ q : Nat, q < N → O q = 0 ∨ ∃ n : Nat, O q = n ∧ OrdC p F ((clsL p F (gen F)).getD q czero) n
theorem wkO_ok (hC : CS p (gen F) F) {a : UV} (ha : GP p (gen F) F a) {n N : Nat} (hN : N = (clsL p F (gen F)).length) (h450 : N ≤ 450) (hn : OrdC p F a n) {O : Nat → Int} (hO : OrdOk p F N O) : ∀ k : Nat, k ≤ n → OrdOk p F N (wkO p F (gen F) a (kyL p (clsL p F (gen F))) N n k O) ∧ (∀ j : Nat, j < k → ∀ q : Nat, q < N → (clsL p F (gen F)).getD q czero = mulN p F (gen F) a j → wkO p F (gen F) a (kyL p (clsL p F (gen F))) N n k O q ≠ 0) ∧ ∀ q : Nat, O q ≠ 0 → wkO p F (gen F) a (kyL p (clsL p F (gen F))) N n k O q ≠ 0
  | 0, _ => ⟨hO, fun j hj => by omega, fun q hq => hq⟩
  | k + 1, hk => by
    obtain ⟨i1, i2, i3⟩ := wkO_ok hC ha hN h450 hn hO k (by omega)
    have gk := mulN_GP hC ha k
    obtain ⟨t, t1, t2⟩ := getD_mem ((clsL_mem hC.1 _).mpr gk)
    have nN : n ≤ N := by
      obtain ⟨m, m1, m2, m3, m4⟩ := ord_ex hC ha
      have := ord_uni hn ⟨m1, m3, m4⟩
      omega
    have ek : kyF p (mulN p F (gen F) a k) = kyL p (clsL p F (gen F)) t := by unfold kyL; rw [t2]
    have ew : wkT p F (gen F) a (kyL p (clsL p F (gen F))) N k = t := by
      unfold wkT
      rw [ek]
      exact bsr_at (fun i j hij hj => keys_up hC.1.1 hij (by omega)) (by omega) N 0 _ (by omega) (by omega) (by omega) (by omega) (by omega)
    have om := ord_mul hC ha hn k
    have gv : (n : Int) / gcdF 450 n k = ((n / Nat.gcd n k : Nat) : Int) := by
      rw [gcdF_gcd 450 n k hn.1 (by omega)]; rfl
    unfold wkO
    rw [ew, if_pos (by omega), gv, Int.toNat_natCast]
    refine ⟨fun q hq => ?_, fun j hj q hq e => ?_, fun q hq => ?_⟩
    · by_cases c : q = t
      · right
        refine ⟨n / Nat.gcd n k, by rw [c, upf_at], ?_⟩
        rw [c, t2]; exact om
      · rw [upf_ot c]; exact i1 q hq
    · by_cases c : q = t
      · rw [c, upf_at]; have := om.1; omega
      · rw [upf_ot c]
        by_cases cj : j = k
        · exfalso
          rw [cj, ← t2] at e
          have u : ∀ x y : Nat, x < y → y < N → (clsL p F (gen F)).getD x czero ≠ (clsL p F (gen F)).getD y czero := fun x y hxy hy ee => by
            have := keys_up hC.1.1 (F := F) (g := gen F) hxy (by omega)
            unfold kyL at this
            rw [ee] at this; omega
          by_cases c3 : q < t
          · exact u q t c3 (by omega) e
          · exact u t q (by omega) hq e.symm
        · exact i2 j (by omega) q hq e
    · by_cases c : q = t
      · rw [c, upf_at]; have := om.1; omega
      · rw [upf_ot c]; exact i3 q hq
theorem orA_ok (hC : CS p (gen F) F) {N : Nat} (hN : N = (clsL p F (gen F)).length) (h450 : N ≤ 450) : ∀ i : Nat, i ≤ N → OrdOk p F N (orA p F (gen F) (clsL p F (gen F)) i) ∧ ∀ q : Nat, q < i → orA p F (gen F) (clsL p F (gen F)) i q ≠ 0
  | 0, _ => ⟨fun q _ => Or.inl rfl, fun q hq => by omega⟩
  | i + 1, hi => by
    obtain ⟨i1, i2⟩ := orA_ok hC hN h450 i (by omega)
    unfold orA
    by_cases c : orA p F (gen F) (clsL p F (gen F)) i i = 0
    · rw [if_pos c]
      have ga := (clsL_mem hC.1 _).mp (getD_in (L := clsL p F (gen F)) (t := i) (by omega))
      generalize hA : (clsL p F (gen F)).getD i czero = a at *
      obtain ⟨n, n1, n2, n3, n4⟩ := ord_ex hC ga
      have hn : OrdC p F a n := ⟨n1, n3, n4⟩
      unfold wkA
      rw [show min (clsL p F (gen F)).length 450 = N by omega, wkN_eq hC ga hn (by omega) N 0 (by omega) (by omega)]
      obtain ⟨w1, w2, w3⟩ := wkO_ok hC ga hN h450 hn i1 n (Nat.le_refl n)
      refine ⟨w1, fun q hq => ?_⟩
      by_cases cq : q = i
      · rw [cq]
        by_cases c1 : n = 1
        · refine w2 0 (by omega) i (by omega) ?_
          rw [hA]
          have := n3
          rw [c1, mulN_1 hC ga] at this
          exact this
        · exact w2 1 (by omega) i (by omega) (by rw [hA, mulN_1 hC ga])
      · exact w3 q (i2 q (by omega))
    · rw [if_neg c]
      refine ⟨i1, fun q hq => ?_⟩
      by_cases cq : q = i
      · rw [cq]; exact c
      · exact i2 q (by omega)
end TS
