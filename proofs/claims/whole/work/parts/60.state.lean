/-! ===== what is told, and the object ===== -/
/-- tape, its length, fault, its place, counts, rows -/
abbrev Td : Type := (Nat → Int) × Int × Int × Int × (Nat → Int) × (Nat → Nat → Int)
def Td.tp (T : Td) : Nat → Int := T.1
def Td.ln (T : Td) : Int := T.2.1
def Td.fl (T : Td) : Int := T.2.2.1
def Td.pc (T : Td) : Int := T.2.2.2.1
def Td.ct (T : Td) : Nat → Int := T.2.2.2.2.1
def Td.rw (T : Td) : Nat → Nat → Int := T.2.2.2.2.2
abbrev Ab : Type := Td × (Nat → Option Td)
def Ab.nw (S : Ab) : Td := S.1
def Ab.im (S : Ab) : Nat → Option Td := S.2
/-- the Told at t keeps T -/
def TdC (Z : Zt) (t : Nat) (T : Td) : Prop := (∀ i : Nat, i < 600 → Z (t + 1) i = T.tp i) ∧ (Z t 1 = T.ln ∧ Z t 2 = T.fl ∧ Z t 3 = T.pc) ∧ (∀ i : Nat, i < 3 → Z (t + 2) i = T.ct i) ∧ (∀ r : Nat, r < 8 → ∀ i : Nat, i < 26 → Z (t + 4 + r) i = T.rw r i)
/-- a row that tells a CURVE -/
def crvF (r : Nat → Int) : Nat → Int := ptak (r 0) r 2 (r 1).toNat
def CrvR (r : Nat → Int) : Prop := IsP (r 0) ∧ (r 1 = 3 ∨ r 1 = 5) ∧ (∀ i : Nat, (i : Int) ≤ r 1 → 0 ≤ r (2 + i) ∧ r (2 + i) < r 0) ∧ r (2 + (r 1).toNat) ≠ 0 ∧ (∀ i : Nat, i < 26 → r 1 + 2 < (i : Int) → r i = 0) ∧ pd (eG (r 0) (crvF r) (pslo (r 0) (crvF r))) = 0
def FunR (r : Nat → Int) : Prop := ∀ i : Nat, i < 26 → 0 ≤ r i ∧ r i ≤ 12
def TdV (T : Td) : Prop := BR T.tp ∧ (0 ≤ T.ln ∧ T.ln ≤ 600) ∧ (0 ≤ T.fl ∧ T.fl ≤ 4) ∧ (-1 ≤ T.pc ∧ T.pc ≤ 600) ∧ (0 ≤ T.ct 0 ∧ T.ct 0 ≤ 2) ∧ (0 ≤ T.ct 1 ∧ T.ct 1 ≤ 3) ∧ (0 ≤ T.ct 2 ∧ T.ct 2 ≤ 3) ∧ (∀ k : Nat, (k : Int) < T.ct 0 → CrvR (T.rw k)) ∧ (∀ k : Nat, (k : Int) < T.ct 1 → SumR (T.rw (2 + k)) ∧ ∀ i : Nat, i < 26 → Rg (T.rw (2 + k) i)) ∧ (∀ k : Nat, (k : Int) < T.ct 2 → FunR (T.rw (5 + k)))
def AbV (S : Ab) : Prop := TdV S.nw ∧ ∀ k : Nat, k < 3 → ∀ T : Td, S.im k = some T → TdV T
/-- what the working objects hold -/
def CodC (Z : Zt) (a : Nat) (p : Int) (F r : Nat → Int) : Prop := CdA Z (a + 116) p F r ∧ (Z (a + 116) 7 = 0 ∨ (Z (a + 116) 7 = 1 ∧ ∀ q : Nat, q < 27 → Z (a + 116 + 1) q = wgF p F r q))
def SumC (x : Wx) (Z : Zt) (a : Nat) (T : Td) (p : Int) (F : Nat → Int) (σ : Nat → Nat) : Prop := (Z a 15 = -1 ∧ Z a 16 = 0) ∨ ∃ s : Nat, Z a 15 = (s : Int) ∧ (s : Int) < T.ct 1 ∧ carr (pall p F) (T.rw (2 + s)) = true ∧ RmA x Z (a + 68) p F (T.rw (2 + s)) σ ∧ (Z a 16 = 0 ∨ (Z a 16 = 1 ∧ CodC Z a p F (T.rw (2 + s))))
def LstC (Z : Zt) (a : Nat) (p : Int) (F : Nat → Int) : Prop := Z (a + 229) 0 = 0 ∨ (Z (a + 229) 0 = 1 ∧ LsA Z (a + 229) p F (gen F))
def CrvC (x : Wx) (Z : Zt) (a : Nat) (T : Td) (σ : Nat → Nat) (c : Nat) : Prop := (c : Int) < T.ct 0 ∧ CvA Z (a + 40) (T.rw c 0) (crvF (T.rw c)) ∧ x.2.1 (a + 229) 1 = some (a + 41) ∧ x.2.1 (a + 229) 2 = some (a + 44) ∧ Z (a + 229) 3 = gen (crvF (T.rw c)) ∧ LstC Z a (T.rw c 0) (crvF (T.rw c)) ∧ SumC x Z a T (T.rw c 0) (crvF (T.rw c)) σ
def Cch (x : Wx) (Z : Zt) (a : Nat) (T : Td) (σ : Nat → Nat) : Prop := (Z a 14 = -1 ∧ Z a 15 = -1 ∧ Z a 16 = 0) ∨ ∃ c : Nat, Z a 14 = (c : Int) ∧ CrvC x Z a T σ c
def KB (x : Wx) (a : Nat) : Prop := (∀ j : Nat, j < 3 → x.2.2.2 j < a) ∧ ∀ j ∈ strs, x.2.2.2 (j.1 + 10) < a
def KK0 (x : Wx) (Z : Zt) (a : Nat) : Prop := KS x ∧ KW x Z ∧ KT x ∧ KU x Z ∧ KB x a
def ImgC (x : Wx) (Z : Zt) (a : Nat) (im : Nat → Option Td) : Prop := (∀ k : Nat, k < 3 → x.2.1 (a + 13) k = none → im k = none) ∧ (∀ k b : Nat, k < 3 → x.2.1 (a + 13) k = some b → Is10 x b ∧ a + 318 ≤ b ∧ b + 12 ≤ x.2.2.1 ∧ ∃ T : Td, im k = some T ∧ TdC Z b T) ∧ (∀ k l b c : Nat, k < 3 → l < 3 → k ≠ l → x.2.1 (a + 13) k = some b → x.2.1 (a + 13) l = some c → b + 12 ≤ c ∨ c + 12 ≤ b)
/-- the object at a keeps S -/
def OI (x : Wx) (Z : Zt) (a : Nat) (S : Ab) : Prop := Is11 x a ∧ KK0 x Z a ∧ x.2.1 (a + 14) 3 = some (a + 2) ∧ TdC Z (a + 1) S.nw ∧ ImgC x Z a S.im ∧ AbV S ∧ ∃ σ : Nat → Nat, LnA x (a + 68) σ ∧ Cch x Z a S.nw σ
/-- nothing but the object's own has changed -/
def Fx (a : Nat) (x x' : Wx) (Z Z' : Zt) : Prop := x'.1 = x.1 ∧ x'.2.2 = x.2.2 ∧ (∀ b : Nat, b < a ∨ a + 292 ≤ b → x'.2.1 b = x.2.1 b ∧ Z' b = Z b) ∧ x'.2.1 (a + 13) = x.2.1 (a + 13)
theorem Fx.rf {a : Nat} {x : Wx} {Z : Zt} : Fx a x x Z Z := ⟨rfl, rfl, fun _ _ => ⟨rfl, rfl⟩, rfl⟩
theorem Fx.tr {a : Nat} {x x1 x2 : Wx} {Z Z1 Z2 : Zt} (h : Fx a x x1 Z Z1) (h2 : Fx a x1 x2 Z1 Z2) : Fx a x x2 Z Z2 := ⟨h2.1.trans h.1, h2.2.1.trans h.2.1, fun b hb => ⟨((h2.2.2.1 b hb).1).trans (h.2.2.1 b hb).1, ((h2.2.2.1 b hb).2).trans (h.2.2.1 b hb).2⟩, h2.2.2.2.trans h.2.2.2⟩
theorem Fx.zo {a : Nat} {x : Wx} {Z Z' : Zt} {A : Nat → Prop} (h : Oth Z Z' A) (hA : ∀ b, A b → a ≤ b ∧ b < a + 292) : Fx a x x Z Z' := ⟨rfl, rfl, fun b hb => ⟨rfl, h b (fun q => by have := hA b q; omega)⟩, rfl⟩
theorem KK0.fx {x x' : Wx} {Z Z' : Zt} {a : Nat} (h : KK0 x Z a) (f : Fx a x x' Z Z') : KK0 x' Z' a := by
  obtain ⟨h1, h2, h3, h4, h5⟩ := h
  have ec : x'.2.2.2 = x.2.2.2 := by rw [f.2.1]
  have hb : ∀ j : Nat, j < 3 → Z' (x.2.2.2 j) = Z (x.2.2.2 j) := fun j hj => (f.2.2.1 _ (Or.inl (h5.1 j hj))).2
  refine ⟨?_, ?_, ?_, ?_, ?_⟩
  · unfold KS; rw [ec, f.1]; exact h1
  · unfold KW; rw [ec, hb 0 (by decide), hb 1 (by decide), hb 2 (by decide)]; exact h2
  · unfold KT; rw [ec, f.1]; exact h3
  · intro j hj i hi
    rw [ec, (f.2.2.1 _ (Or.inl (h5.2 j hj))).2]; exact h4 j hj i hi
  · unfold KB; rw [ec]; exact h5
theorem TdC.kept {Z Z' : Zt} {t : Nat} {T : Td} (h : TdC Z t T) (ho : ∀ b, t ≤ b → b < t + 12 → Z' b = Z b) : TdC Z' t T := by
  obtain ⟨h1, h2, h3, h4⟩ := h
  refine ⟨fun i hi => ?_, ?_, fun i hi => ?_, fun r hr i hi => ?_⟩
  · rw [ho _ (by omega) (by omega)]; exact h1 i hi
  · rw [ho t (by omega) (by omega)]; exact h2
  · rw [ho _ (by omega) (by omega)]; exact h3 i hi
  · rw [ho _ (by omega) (by omega)]; exact h4 r hr i hi
theorem ImgC.fx {x x' : Wx} {Z Z' : Zt} {a : Nat} {im : Nat → Option Td} (h : ImgC x Z a im) (f : Fx a x x' Z Z') : ImgC x' Z' a im := by
  obtain ⟨h1, h2, h3⟩ := h
  refine ⟨?_, ?_, ?_⟩
  · rw [f.2.2.2]; exact h1
  · rw [f.2.2.2, f.2.1]
    intro k b hk hb
    obtain ⟨g1, g2, g3, T, g4, g5⟩ := h2 k b hk hb
    refine ⟨g1.mv f.1 (fun c j c1 c2 _ => by rw [(f.2.2.1 c (by omega)).1]), g2, g3, T, g4, g5.kept (fun c c1 c2 => (f.2.2.1 c (by omega)).2)⟩
  · rw [f.2.2.2]; exact h3
theorem Is11.fx {x x' : Wx} {Z Z' : Zt} {a : Nat} (h : Is11 x a) (f : Fx a x x' Z Z') (hr : ∀ b j : Nat, a ≤ b → b < a + 292 → ¬ (b = a + 13 ∨ b = a + 73 ∨ (b = a + 229 ∧ (j = 1 ∨ j = 2))) → x'.2.1 b j = x.2.1 b j) : Is11 x' a := h.mv f.1 hr
