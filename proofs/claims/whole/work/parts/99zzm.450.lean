/-! ===== there are never more than 450 classes ===== -/
theorem hstep {s t c u v : Nat} : ((((u : Int) * s + 2 * ((v : Int) * t % 13) + c) % 13, ((u : Int) * t + (v : Int) * s) % 13) : Int × Int) = ((((u * s + 2 * (v * t) + c) % 13 : Nat) : Int), (((u * t + v * s) % 13 : Nat) : Int)) := by
  refine Prod.ext ?_ ?_
  · show ((u : Int) * s + 2 * ((v : Int) * t % 13) + c) % 13 = (((u * s + 2 * (v * t) + c) % 13 : Nat) : Int)
    rw [← Int.natCast_mul, ← Int.natCast_mul]
    generalize u * s = X
    generalize v * t = Y
    omega
  · show ((u : Int) * t + (v : Int) * s) % 13 = (((u * t + v * s) % 13 : Nat) : Int)
    rw [← Int.natCast_mul, ← Int.natCast_mul]
    generalize u * t = X
    generalize v * s = Y
    omega
theorem hq_13 {F : Nat → Int} (dF : Dlt F 6) {f0 f1 f2 f3 f4 f5 : Nat} (h0 : F 0 = f0) (h1 : F 1 = f1) (h2 : F 2 = f2) (h3 : F 3 = f3) (h4 : F 4 = f4) (h5 : F 5 = f5) (b5 : f5 < 13) (s t : Nat) : ∃ a b : Nat, a < 13 ∧ b < 13 ∧ hq 13 2 F s t 24 (0, 0) = ((a : Int), (b : Int)) ∧ hn13 s t f0 f1 f2 f3 f4 f5 0 = dz ((a * a + 11 * (b * b)) % 13) := by
  have e24 : hq 13 2 F s t 24 (0, 0) = hq 13 2 F s t 6 (0, 0) := hq_0 (p := 13) (d := 2) (F := F) (s := (s : Int)) (t := (t : Int)) 18 6 (fun i hi _ => dF i hi)
  have st : ∀ (n c u v : Nat), F n = c → hq 13 2 F s t (n + 1) ((u : Int), (v : Int)) = hq 13 2 F s t n ((((u * s + 2 * (v * t) + c) % 13 : Nat) : Int), (((u * t + v * s) % 13 : Nat) : Int)) := fun n c u v hn => by
    show hq 13 2 F s t n ((((u : Int) * s + 2 * ((v : Int) * t % 13) + F n) % 13, ((u : Int) * t + (v : Int) * s) % 13)) = _
    rw [hn, hstep]
  have s5 := st 5 f5 0 0 h5
  rw [show (0 * s + 2 * (0 * t) + f5) % 13 = f5 by rw [Nat.zero_mul, Nat.zero_mul]; omega, show (0 * t + 0 * s) % 13 = 0 by rw [Nat.zero_mul, Nat.zero_mul]] at s5
  refine ⟨_, _, ?_, ?_, (e24.trans s5).trans ((st 4 f4 _ _ h4).trans ((st 3 f3 _ _ h3).trans ((st 2 f2 _ _ h2).trans ((st 1 f1 _ _ h1).trans (st 0 f0 _ _ h0))))), rfl⟩
  · exact Nat.mod_lt _ (by decide)
  · exact Nat.mod_lt _ (by decide)
theorem smT_169 (h : Nat → Nat → Int) : ∀ m : Nat, smT (13 * m) (fun j => h (j / 13) (j % 13)) = smT m (fun s => smT 13 (fun t => h s t))
  | 0 => rfl
  | m + 1 => by
    rw [show 13 * (m + 1) = 13 * m + 13 by omega, smT_add, smT_169 h m]
    show _ = smT m (fun s => smT 13 (fun t => h s t)) + smT 13 (fun t => h m t)
    congr 1
    exact smT_ext (fun i hi => by rw [show (13 * m + i) / 13 = m by omega, show (13 * m + i) % 13 = i by omega])
theorem ev_6 {F : Nat → Int} (dF : Dlt F 6) (X : Nat) : ev 13 F X = (F 0 + X * (F 1 + X * (F 2 + X * (F 3 + X * (F 4 + X * F 5))))) % 13 :=
  with_ser (p := 13) (Or.inr (Or.inr (Or.inr (Or.inr rfl)))) (fun S _ cs c tp hS => by
    have e := EV_bd hS.2.1 (c X) (show 6 ≤ 24 by decide) dF
    rw [ev_c hS] at e
    have e2 : EV c (c X) 6 F = c (F 0 + X * (F 1 + X * (F 2 + X * (F 3 + X * (F 4 + X * F 5))))) := by
      show c (F 0) + c X * (c (F 1) + c X * (c (F 2) + c X * (c (F 3) + c X * (c (F 4) + c X * (c (F 5) + c X * 0))))) = _
      rw [hS.2.1.1, hS.2.1.2.1, hS.2.1.1, hS.2.1.2.1, hS.2.1.1, hS.2.1.2.1, hS.2.1.1, hS.2.1.2.1, hS.2.1.1, hS.2.1.2.1]
      grind
    rw [e2] at e
    have := c_inj hS e
    rw [Int.emod_eq_of_lt (ev_rg (by decide) F X).1 (ev_rg (by decide) F X).2] at this
    exact this)
theorem many_13 {F : Nat → Int} (hC : CS 13 (gen F) F) (hg : gen F = 2) (hA : 24 ≤ aN 13 F) : S2 13 (fun s t => pov 13 F s t) ≤ 926 - (aN 13 F + 1) * (aN 13 F + 1) := by
  have hp := hC.1.1
  have hpd := hC.1.2.2.2.1
  have dF : Dlt F 6 := fun i hi => pd_hi hC.1.2.2.1 i (by omega)
  obtain ⟨f0, q0⟩ := Int.eq_ofNat_of_zero_le (hC.1.2.1 0).1
  obtain ⟨f1, q1⟩ := Int.eq_ofNat_of_zero_le (hC.1.2.1 1).1
  obtain ⟨f2, q2⟩ := Int.eq_ofNat_of_zero_le (hC.1.2.1 2).1
  obtain ⟨f3, q3⟩ := Int.eq_ofNat_of_zero_le (hC.1.2.1 3).1
  obtain ⟨f4, q4⟩ := Int.eq_ofNat_of_zero_le (hC.1.2.1 4).1
  obtain ⟨f5, q5⟩ := Int.eq_ofNat_of_zero_le (hC.1.2.1 5).1
  have h0 : f0 < 13 := by have := (hC.1.2.1 0).2; omega
  have h1 : f1 < 13 := by have := (hC.1.2.1 1).2; omega
  have h2 : f2 < 13 := by have := (hC.1.2.1 2).2; omega
  have h3 : f3 < 13 := by have := (hC.1.2.1 3).2; omega
  have h4 : f4 < 13 := by have := (hC.1.2.1 4).2; omega
  have h5 : f5 < 13 := by have := (hC.1.2.1 5).2; omega
  have hf : f5 ≠ 0 := fun e => by
    have := pd_lead hC.1.2.1 (show 0 ≤ pd F by omega)
    rw [show (pd F).toNat = 5 by omega, q5] at this
    omega
  have e0 : ev 13 F (0 : Nat) = (((f0 + 0 * f1 + 0 * f2 + 0 * f3 + 0 * f4 + 0 * f5) % 13 : Nat) : Int) := by rw [ev_6 dF, q0, q1, q2, q3, q4, q5]; omega
  have e1 : ev 13 F (1 : Nat) = (((f0 + f1 + f2 + f3 + f4 + f5) % 13 : Nat) : Int) := by rw [ev_6 dF, q0, q1, q2, q3, q4, q5]; omega
  have e2 : ev 13 F (2 : Nat) = (((f0 + 2 * f1 + 4 * f2 + 8 * f3 + 3 * f4 + 6 * f5) % 13 : Nat) : Int) := by rw [ev_6 dF, q0, q1, q2, q3, q4, q5]; omega
  have e3 : ev 13 F (3 : Nat) = (((f0 + 3 * f1 + 9 * f2 + f3 + 3 * f4 + 9 * f5) % 13 : Nat) : Int) := by rw [ev_6 dF, q0, q1, q2, q3, q4, q5]; omega
  have e4 : ev 13 F (4 : Nat) = (((f0 + 4 * f1 + 3 * f2 + 12 * f3 + 9 * f4 + 10 * f5) % 13 : Nat) : Int) := by rw [ev_6 dF, q0, q1, q2, q3, q4, q5]; omega
  have e5 : ev 13 F (5 : Nat) = (((f0 + 5 * f1 + 12 * f2 + 8 * f3 + f4 + 5 * f5) % 13 : Nat) : Int) := by rw [ev_6 dF, q0, q1, q2, q3, q4, q5]; omega
  have e6 : ev 13 F (6 : Nat) = (((f0 + 6 * f1 + 10 * f2 + 8 * f3 + 9 * f4 + 2 * f5) % 13 : Nat) : Int) := by rw [ev_6 dF, q0, q1, q2, q3, q4, q5]; omega
  have e7 : ev 13 F (7 : Nat) = (((f0 + 7 * f1 + 10 * f2 + 5 * f3 + 9 * f4 + 11 * f5) % 13 : Nat) : Int) := by rw [ev_6 dF, q0, q1, q2, q3, q4, q5]; omega
  have e8 : ev 13 F (8 : Nat) = (((f0 + 8 * f1 + 12 * f2 + 5 * f3 + f4 + 8 * f5) % 13 : Nat) : Int) := by rw [ev_6 dF, q0, q1, q2, q3, q4, q5]; omega
  have e9 : ev 13 F (9 : Nat) = (((f0 + 9 * f1 + 3 * f2 + f3 + 9 * f4 + 3 * f5) % 13 : Nat) : Int) := by rw [ev_6 dF, q0, q1, q2, q3, q4, q5]; omega
  have e10 : ev 13 F (10 : Nat) = (((f0 + 10 * f1 + 9 * f2 + 12 * f3 + 3 * f4 + 4 * f5) % 13 : Nat) : Int) := by rw [ev_6 dF, q0, q1, q2, q3, q4, q5]; omega
  have e11 : ev 13 F (11 : Nat) = (((f0 + 11 * f1 + 4 * f2 + 5 * f3 + 3 * f4 + 7 * f5) % 13 : Nat) : Int) := by rw [ev_6 dF, q0, q1, q2, q3, q4, q5]; omega
  have e12 : ev 13 F (12 : Nat) = (((f0 + 12 * f1 + f2 + 12 * f3 + f4 + 12 * f5) % 13 : Nat) : Int) := by rw [ev_6 dF, q0, q1, q2, q3, q4, q5]; omega
  obtain ⟨v0, w0⟩ : ∃ v : Nat, v = (f0 + 0 * f1 + 0 * f2 + 0 * f3 + 0 * f4 + 0 * f5) % 13 := ⟨_, rfl⟩
  rw [← w0] at e0
  obtain ⟨v1, w1⟩ : ∃ v : Nat, v = (f0 + f1 + f2 + f3 + f4 + f5) % 13 := ⟨_, rfl⟩
  rw [← w1] at e1
  obtain ⟨v2, w2⟩ : ∃ v : Nat, v = (f0 + 2 * f1 + 4 * f2 + 8 * f3 + 3 * f4 + 6 * f5) % 13 := ⟨_, rfl⟩
  rw [← w2] at e2
  obtain ⟨v3, w3⟩ : ∃ v : Nat, v = (f0 + 3 * f1 + 9 * f2 + f3 + 3 * f4 + 9 * f5) % 13 := ⟨_, rfl⟩
  rw [← w3] at e3
  obtain ⟨v4, w4⟩ : ∃ v : Nat, v = (f0 + 4 * f1 + 3 * f2 + 12 * f3 + 9 * f4 + 10 * f5) % 13 := ⟨_, rfl⟩
  rw [← w4] at e4
  obtain ⟨v5, w5⟩ : ∃ v : Nat, v = (f0 + 5 * f1 + 12 * f2 + 8 * f3 + f4 + 5 * f5) % 13 := ⟨_, rfl⟩
  rw [← w5] at e5
  obtain ⟨v6, w6⟩ : ∃ v : Nat, v = (f0 + 6 * f1 + 10 * f2 + 8 * f3 + 9 * f4 + 2 * f5) % 13 := ⟨_, rfl⟩
  rw [← w6] at e6
  obtain ⟨v7, w7⟩ : ∃ v : Nat, v = (f0 + 7 * f1 + 10 * f2 + 5 * f3 + 9 * f4 + 11 * f5) % 13 := ⟨_, rfl⟩
  rw [← w7] at e7
  obtain ⟨v8, w8⟩ : ∃ v : Nat, v = (f0 + 8 * f1 + 12 * f2 + 5 * f3 + f4 + 8 * f5) % 13 := ⟨_, rfl⟩
  rw [← w8] at e8
  obtain ⟨v9, w9⟩ : ∃ v : Nat, v = (f0 + 9 * f1 + 3 * f2 + f3 + 9 * f4 + 3 * f5) % 13 := ⟨_, rfl⟩
  rw [← w9] at e9
  obtain ⟨v10, w10⟩ : ∃ v : Nat, v = (f0 + 10 * f1 + 9 * f2 + 12 * f3 + 3 * f4 + 4 * f5) % 13 := ⟨_, rfl⟩
  rw [← w10] at e10
  obtain ⟨v11, w11⟩ : ∃ v : Nat, v = (f0 + 11 * f1 + 4 * f2 + 5 * f3 + 3 * f4 + 7 * f5) % 13 := ⟨_, rfl⟩
  rw [← w11] at e11
  obtain ⟨v12, w12⟩ : ∃ v : Nat, v = (f0 + 12 * f1 + f2 + 12 * f3 + f4 + 12 * f5) % 13 := ⟨_, rfl⟩
  rw [← w12] at e12
  have b0 : v0 < 13 := by rw [w0]; exact Nat.mod_lt _ (by decide)
  have b1 : v1 < 13 := by rw [w1]; exact Nat.mod_lt _ (by decide)
  have b2 : v2 < 13 := by rw [w2]; exact Nat.mod_lt _ (by decide)
  have b3 : v3 < 13 := by rw [w3]; exact Nat.mod_lt _ (by decide)
  have b4 : v4 < 13 := by rw [w4]; exact Nat.mod_lt _ (by decide)
  have b5 : v5 < 13 := by rw [w5]; exact Nat.mod_lt _ (by decide)
  have b6 : v6 < 13 := by rw [w6]; exact Nat.mod_lt _ (by decide)
  have b7 : v7 < 13 := by rw [w7]; exact Nat.mod_lt _ (by decide)
  have b8 : v8 < 13 := by rw [w8]; exact Nat.mod_lt _ (by decide)
  have b9 : v9 < 13 := by rw [w9]; exact Nat.mod_lt _ (by decide)
  have b10 : v10 < 13 := by rw [w10]; exact Nat.mod_lt _ (by decide)
  have b11 : v11 < 13 := by rw [w11]; exact Nat.mod_lt _ (by decide)
  have b12 : v12 < 13 := by rw [w12]; exact Nat.mod_lt _ (by decide)
  have z0 := dz_nY v0 b0
  have z1 := dz_nY v1 b1
  have z2 := dz_nY v2 b2
  have z3 := dz_nY v3 b3
  have z4 := dz_nY v4 b4
  have z5 := dz_nY v5 b5
  have z6 := dz_nY v6 b6
  have z7 := dz_nY v7 b7
  have z8 := dz_nY v8 b8
  have z9 := dz_nY v9 b9
  have z10 := dz_nY v10 b10
  have z11 := dz_nY v11 b11
  have z12 := dz_nY v12 b12
  have sA : aN 13 F = nY 13 v0 + nY 13 v1 + nY 13 v2 + nY 13 v3 + nY 13 v4 + nY 13 v5 + nY 13 v6 + nY 13 v7 + nY 13 v8 + nY 13 v9 + nY 13 v10 + nY 13 v11 + nY 13 v12 := by
    show 0 + nY 13 (ev 13 F (0 : Nat)) + nY 13 (ev 13 F (1 : Nat)) + nY 13 (ev 13 F (2 : Nat)) + nY 13 (ev 13 F (3 : Nat)) + nY 13 (ev 13 F (4 : Nat)) + nY 13 (ev 13 F (5 : Nat)) + nY 13 (ev 13 F (6 : Nat)) + nY 13 (ev 13 F (7 : Nat)) + nY 13 (ev 13 F (8 : Nat)) + nY 13 (ev 13 F (9 : Nat)) + nY 13 (ev 13 F (10 : Nat)) + nY 13 (ev 13 F (11 : Nat)) + nY 13 (ev 13 F (12 : Nat)) = _
    rw [e0, e1, e2, e3, e4, e5, e6, e7, e8, e9, e10, e11, e12]; omega
  have dd : ((dz v0 + dz v1 + dz v2 + dz v3 + dz v4 + dz v5 + dz v6 + dz v7 + dz v8 + dz v9 + dz v10 + dz v11 + dz v12 : Nat) : Int) = 26 - aN 13 F := by clear w0 w1 w2 w3 w4 w5 w6 w7 w8 w9 w10 w11 w12; omega
  have g := run13 h0 h1 h2 h3 h4 h5 hf w0 w1 w2 w3 w4 w5 w6 w7 w8 w9 w10 w11 w12 (by clear w0 w1 w2 w3 w4 w5 w6 w7 w8 w9 w10 w11 w12; omega)
  generalize (dz v0 + dz v1 + dz v2 + dz v3 + dz v4 + dz v5 + dz v6 + dz v7 + dz v8 + dz v9 + dz v10 + dz v11 + dz v12) = df at *
  have g := sm13_at 169 0 0 g
  have tot : smT 169 (fun j => (hn13 ((0 + j) / 13) ((0 + j) % 13) f0 f1 f2 f3 f4 f5 0 : Int)) = 338 - S2 13 (fun s t => pov 13 F s t) := by
    rw [smT_ext (g := fun j => (fun s t : Nat => (hn13 s t f0 f1 f2 f3 f4 f5 0 : Int)) (j / 13) (j % 13)) (fun j _ => by rw [Nat.zero_add])]
    have s1 := smT_169 (fun s t : Nat => (hn13 s t f0 f1 f2 f3 f4 f5 0 : Int)) 13
    rw [show 13 * 13 = 169 from rfl] at s1
    rw [s1]
    have one : ∀ s t : Nat, (hn13 s t f0 f1 f2 f3 f4 f5 0 : Int) = 2 + -1 * pov 13 F s t := fun s t => by
      obtain ⟨a, b, a1, a2, a3, a4⟩ := hq_13 dF q0 q1 q2 q3 q4 q5 h5 s t
      have ep : pov 13 F s t = pvV 13 2 a b := by unfold pov pvV; rw [nsq_13, a3]
      rw [a4, dz_pv a a1 b a2, ep]
      clear w0 w1 w2 w3 w4 w5 w6 w7 w8 w9 w10 w11 w12 g dd
      omega
    have row : ∀ s : Nat, smT 13 (fun t : Nat => (hn13 s t f0 f1 f2 f3 f4 f5 0 : Int)) = 26 + -1 * smT 13 (fun t : Nat => pov 13 F s t) := fun s => by
      rw [smT_ext (g := fun t : Nat => 1 * (2 : Int) + -1 * pov 13 F s t) (fun t _ => by rw [one]; omega), smT_lin (fun _ => 2) (fun t : Nat => pov 13 F s t), smT_k]; rfl
    rw [smT_ext (g := fun s : Nat => 1 * (26 : Int) + -1 * smT 13 (fun t : Nat => pov 13 F s t)) (fun s _ => by rw [row]; omega), smT_lin (fun _ => 26) (fun s : Nat => smT 13 (fun t : Nat => pov 13 F s t)), smT_k]
    show 1 * (((13 : Nat) : Int) * 26) + -1 * S2 13 (fun s t => pov 13 F s t) = _
    omega
  rw [tot] at g
  have hd2 : df ≤ 2 := by clear w0 w1 w2 w3 w4 w5 w6 w7 w8 w9 w10 w11 w12; omega
  have ha : aN 13 F = 26 - df := by omega
  rw [ha]
  generalize S2 13 (fun s t => pov 13 F s t) = Y at *
  rcases (show df = 0 ∨ df = 1 ∨ df = 2 by omega) with rfl | rfl | rfl
  · have g : (((27 - 0) * (27 - 0) - 588 : Nat) : Int) ≤ 0 + (338 - Y) := g
    have e : ((((27 - 0) * (27 - 0) - 588 : Nat)) : Int) = 141 := rfl
    show Y ≤ 926 - (26 - ((0 : Nat) : Int) + 1) * (26 - ((0 : Nat) : Int) + 1)
    have e2 : (26 - ((0 : Nat) : Int) + 1) * (26 - ((0 : Nat) : Int) + 1) = 729 := rfl
    omega
  · have g : (((27 - 1) * (27 - 1) - 588 : Nat) : Int) ≤ 0 + (338 - Y) := g
    have e : ((((27 - 1) * (27 - 1) - 588 : Nat)) : Int) = 88 := rfl
    have e2 : (26 - ((1 : Nat) : Int) + 1) * (26 - ((1 : Nat) : Int) + 1) = 676 := rfl
    omega
  · have g : (((27 - 2) * (27 - 2) - 588 : Nat) : Int) ≤ 0 + (338 - Y) := g
    have e : ((((27 - 2) * (27 - 2) - 588 : Nat)) : Int) = 37 := rfl
    have e2 : (26 - ((2 : Nat) : Int) + 1) * (26 - ((2 : Nat) : Int) + 1) = 625 := rfl
    omega
theorem cls_450 {p : Int} {F : Nat → Int} (hC : CS p (gen F) F) : (clsL p F (gen F)).length ≤ 450 := by
  have hp := hC.1.1
  have hr := hp.rg
  have pn := pts_num (p := p) (F := F)
  have l1 := l1X_num hp (F := F)
  have cl := colX_len hp F p.toNat 0
  have cl : (pts p F).length ≤ 2 * p.toNat := cl
  unfold clsL
  rw [List.length_append, List.length_append]
  show 1 + _ + _ ≤ 450
  split
  · rename_i hg
    have lg := lg_num hC
    have c2 := sqS_S2 (p := p) (F := F)
    have n0 : 0 ≤ aN p F := by omega
    have h1 : aN p F ≤ 2 * p := by omega
    have b2 : S2 p (fun s t => pov p F s t) ≤ 2 * (p * p) := by
      unfold S2
      have i1 : ∀ s : Nat, smT p.toNat (fun t : Nat => pov p F s t) ≤ 2 * p := fun s => by
        have := smT_mo (f := fun t : Nat => pov p F s t) (g := fun _ => 2) (m := p.toNat) (fun i _ => (pov_rg p F s i).2)
        rw [smT_k] at this
        omega
      have := smT_mo (f := fun s : Nat => smT p.toNat (fun t : Nat => pov p F s t)) (g := fun _ => 2 * p) (m := p.toNat) (fun i _ => i1 i)
      rw [smT_k, Int.toNat_of_nonneg (by omega)] at this
      rw [show 2 * (p * p) = p * (2 * p) by grind]
      exact this
    have sqb : ∀ k : Int, aN p F ≤ k → aN p F * aN p F ≤ k * k := fun k hk => Int.le_trans (Int.mul_le_mul_of_nonneg_left hk n0) (Int.mul_le_mul_of_nonneg_right hk (by omega))
    have a2 := sqb (2 * p) h1
    rcases hp with rfl | rfl | rfl | rfl | rfl
    · omega
    · omega
    · omega
    · omega
    · by_cases c : aN 13 F ≤ 23
      · have := sqb 23 c
        omega
      · have m := many_13 hC hg (by omega)
        have e : (aN 13 F + 1) * (aN 13 F + 1) = aN 13 F * aN 13 F + 2 * aN 13 F + 1 := by grind
        rw [e] at m
        omega
  · show 1 + _ + 0 ≤ 450
    omega
