/-! ===== objects in a world that has grown ===== -/
theorem Is4.gr {x x' : Wx} {a : Nat} (h : Is4 x a) (h1 : ∀ b : Nat, a ≤ b → b < a + 3 → x'.1 b = x.1 b) (h2 : ∀ b j : Nat, a ≤ b → b < a + 3 → ¬ (b < a) → x'.2.1 b j = x.2.1 b j) : Is4 x' a := ⟨by rw [h1 _ (by omega) (by omega)]; exact h.1, by rw [h2 a 2 (by omega) (by omega) (by omega)]; exact h.2.1, by rw [h1 _ (by omega) (by omega)]; exact h.2.2.1, by rw [h2 a 3 (by omega) (by omega) (by omega)]; exact h.2.2.2.1, by rw [h1 _ (by omega) (by omega)]; exact h.2.2.2.2⟩
theorem Is7.gr {x x' : Wx} {a : Nat} (h : Is7 x a) (h1 : ∀ b : Nat, a ≤ b → b < a + 2 → x'.1 b = x.1 b) (h2 : ∀ b j : Nat, a ≤ b → b < a + 2 → ¬ (b < a) → x'.2.1 b j = x.2.1 b j) : Is7 x' a := ⟨by rw [h1 _ (by omega) (by omega)]; exact h.1, by rw [h2 a 1 (by omega) (by omega) (by omega)]; exact h.2.1, by rw [h1 _ (by omega) (by omega)]; exact h.2.2⟩
theorem Is3.gr {x x' : Wx} {a : Nat} (h : Is3 x a) (h1 : ∀ b : Nat, a ≤ b → b < a + 17 → x'.1 b = x.1 b) (h2 : ∀ b j : Nat, a ≤ b → b < a + 17 → ¬ (b < a) → x'.2.1 b j = x.2.1 b j) : Is3 x' a := ⟨by rw [h1 _ (by omega) (by omega)]; exact h.1, by rw [h2 a 0 (by omega) (by omega) (by omega)]; exact h.2.1, h.2.2.1.gr (fun b g1 g2 => h1 b (by omega) (by omega)) (fun b j g1 g2 g3 => h2 b j (by omega) (by omega) (by omega)), by rw [h2 a 1 (by omega) (by omega) (by omega)]; exact h.2.2.2.1, h.2.2.2.2.1.gr (fun b g1 g2 => h1 b (by omega) (by omega)) (fun b j g1 g2 g3 => h2 b j (by omega) (by omega) (by omega)), by rw [h2 a 2 (by omega) (by omega) (by omega)]; exact h.2.2.2.2.2.1, h.2.2.2.2.2.2.1.gr (fun b g1 g2 => h1 b (by omega) (by omega)) (fun b j g1 g2 g3 => h2 b j (by omega) (by omega) (by omega)), by rw [h2 a 3 (by omega) (by omega) (by omega)]; exact h.2.2.2.2.2.2.2.1, h.2.2.2.2.2.2.2.2.1.gr (fun b g1 g2 => h1 b (by omega) (by omega)) (fun b j g1 g2 g3 => h2 b j (by omega) (by omega) (by omega)), by rw [h2 a 4 (by omega) (by omega) (by omega)]; exact h.2.2.2.2.2.2.2.2.2.1, h.2.2.2.2.2.2.2.2.2.2.1.gr (fun b g1 g2 => h1 b (by omega) (by omega)) (fun b j g1 g2 g3 => h2 b j (by omega) (by omega) (by omega)), by rw [h2 a 5 (by omega) (by omega) (by omega)]; exact h.2.2.2.2.2.2.2.2.2.2.2.1, h.2.2.2.2.2.2.2.2.2.2.2.2.1.gr (fun b g1 g2 => h1 b (by omega) (by omega)) (fun b j g1 g2 g3 => h2 b j (by omega) (by omega) (by omega)), by rw [h2 a 6 (by omega) (by omega) (by omega)]; exact h.2.2.2.2.2.2.2.2.2.2.2.2.2.1, h.2.2.2.2.2.2.2.2.2.2.2.2.2.2.1.gr (fun b g1 g2 => h1 b (by omega) (by omega)) (fun b j g1 g2 g3 => h2 b j (by omega) (by omega) (by omega)), by rw [h2 a 7 (by omega) (by omega) (by omega)]; exact h.2.2.2.2.2.2.2.2.2.2.2.2.2.2.2.1, h.2.2.2.2.2.2.2.2.2.2.2.2.2.2.2.2.gr (fun b g1 g2 => h1 b (by omega) (by omega)) (fun b j g1 g2 g3 => h2 b j (by omega) (by omega) (by omega))⟩
theorem Is6.gr {x x' : Wx} {a : Nat} (h : Is6 x a) (h1 : ∀ b : Nat, a ≤ b → b < a + 5 → x'.1 b = x.1 b) (h2 : ∀ b j : Nat, a ≤ b → b < a + 5 → ¬ (b < a) → x'.2.1 b j = x.2.1 b j) : Is6 x' a := ⟨by rw [h1 _ (by omega) (by omega)]; exact h.1, by rw [h2 a 0 (by omega) (by omega) (by omega)]; exact h.2.1, h.2.2.1.gr (fun b g1 g2 => h1 b (by omega) (by omega)) (fun b j g1 g2 g3 => h2 b j (by omega) (by omega) (by omega)), by rw [h2 a 1 (by omega) (by omega) (by omega)]; exact h.2.2.2.1, h.2.2.2.2.gr (fun b g1 g2 => h1 b (by omega) (by omega)) (fun b j g1 g2 g3 => h2 b j (by omega) (by omega) (by omega))⟩
theorem Is5.gr {x x' : Wx} {a : Nat} (h : Is5 x a) (h1 : ∀ b : Nat, a ≤ b → b < a + 12 → x'.1 b = x.1 b) (h2 : ∀ b j : Nat, a ≤ b → b < a + 12 → ¬ (b < a) → x'.2.1 b j = x.2.1 b j) : Is5 x' a := ⟨by rw [h1 _ (by omega) (by omega)]; exact h.1, by rw [h2 a 0 (by omega) (by omega) (by omega)]; exact h.2.1, h.2.2.1.gr (fun b g1 g2 => h1 b (by omega) (by omega)) (fun b j g1 g2 g3 => h2 b j (by omega) (by omega) (by omega)), by rw [h2 a 1 (by omega) (by omega) (by omega)]; exact h.2.2.2.1, h.2.2.2.2.1.gr (fun b g1 g2 => h1 b (by omega) (by omega)) (fun b j g1 g2 g3 => h2 b j (by omega) (by omega) (by omega)), by rw [h2 a 2 (by omega) (by omega) (by omega)]; exact h.2.2.2.2.2.1, h.2.2.2.2.2.2.1.gr (fun b g1 g2 => h1 b (by omega) (by omega)) (fun b j g1 g2 g3 => h2 b j (by omega) (by omega) (by omega)), by rw [h2 a 3 (by omega) (by omega) (by omega)]; exact h.2.2.2.2.2.2.2.1, h.2.2.2.2.2.2.2.2.1.gr (fun b g1 g2 => h1 b (by omega) (by omega)) (fun b j g1 g2 g3 => h2 b j (by omega) (by omega) (by omega)), by rw [h2 a 4 (by omega) (by omega) (by omega)]; exact h.2.2.2.2.2.2.2.2.2.1, h.2.2.2.2.2.2.2.2.2.2.1.gr (fun b g1 g2 => h1 b (by omega) (by omega)) (fun b j g1 g2 g3 => h2 b j (by omega) (by omega) (by omega)), by rw [h2 a 5 (by omega) (by omega) (by omega)]; exact h.2.2.2.2.2.2.2.2.2.2.2.1, by rw [h1 _ (by omega) (by omega)]; exact h.2.2.2.2.2.2.2.2.2.2.2.2⟩
theorem Is2.gr {x x' : Wx} {a : Nat} (h : Is2 x a) (h1 : ∀ b : Nat, a ≤ b → b < a + 16 → x'.1 b = x.1 b) (h2 : ∀ b j : Nat, a ≤ b → b < a + 16 → ¬ (b < a) → x'.2.1 b j = x.2.1 b j) : Is2 x' a := ⟨by rw [h1 _ (by omega) (by omega)]; exact h.1, by rw [h2 a 0 (by omega) (by omega) (by omega)]; exact h.2.1, h.2.2.1.gr (fun b g1 g2 => h1 b (by omega) (by omega)) (fun b j g1 g2 g3 => h2 b j (by omega) (by omega) (by omega)), by rw [h2 a 1 (by omega) (by omega) (by omega)]; exact h.2.2.2.1, h.2.2.2.2.1.gr (fun b g1 g2 => h1 b (by omega) (by omega)) (fun b j g1 g2 g3 => h2 b j (by omega) (by omega) (by omega)), by rw [h2 a 4 (by omega) (by omega) (by omega)]; exact h.2.2.2.2.2.1, by rw [h1 _ (by omega) (by omega)]; exact h.2.2.2.2.2.2.1, by rw [h2 a 5 (by omega) (by omega) (by omega)]; exact h.2.2.2.2.2.2.2.1, by rw [h1 _ (by omega) (by omega)]; exact h.2.2.2.2.2.2.2.2.1, by rw [h2 a 6 (by omega) (by omega) (by omega)]; exact h.2.2.2.2.2.2.2.2.2.1, by rw [h1 _ (by omega) (by omega)]; exact h.2.2.2.2.2.2.2.2.2.2.1, by rw [h2 a 7 (by omega) (by omega) (by omega)]; exact h.2.2.2.2.2.2.2.2.2.2.2.1, by rw [h1 _ (by omega) (by omega)]; exact h.2.2.2.2.2.2.2.2.2.2.2.2.1, by rw [h2 a 8 (by omega) (by omega) (by omega)]; exact h.2.2.2.2.2.2.2.2.2.2.2.2.2.1, by rw [h1 _ (by omega) (by omega)]; exact h.2.2.2.2.2.2.2.2.2.2.2.2.2.2.1, by rw [h2 a 9 (by omega) (by omega) (by omega)]; exact h.2.2.2.2.2.2.2.2.2.2.2.2.2.2.2.1, by rw [h1 _ (by omega) (by omega)]; exact h.2.2.2.2.2.2.2.2.2.2.2.2.2.2.2.2.1, by rw [h2 a 10 (by omega) (by omega) (by omega)]; exact h.2.2.2.2.2.2.2.2.2.2.2.2.2.2.2.2.2.1, by rw [h1 _ (by omega) (by omega)]; exact h.2.2.2.2.2.2.2.2.2.2.2.2.2.2.2.2.2.2.1, by rw [h2 a 11 (by omega) (by omega) (by omega)]; exact h.2.2.2.2.2.2.2.2.2.2.2.2.2.2.2.2.2.2.2.1, by rw [h1 _ (by omega) (by omega)]; exact h.2.2.2.2.2.2.2.2.2.2.2.2.2.2.2.2.2.2.2.2.1, by rw [h2 a 12 (by omega) (by omega) (by omega)]; exact h.2.2.2.2.2.2.2.2.2.2.2.2.2.2.2.2.2.2.2.2.2.1, by rw [h1 _ (by omega) (by omega)]; exact h.2.2.2.2.2.2.2.2.2.2.2.2.2.2.2.2.2.2.2.2.2.2.1, by rw [h2 a 13 (by omega) (by omega) (by omega)]; exact h.2.2.2.2.2.2.2.2.2.2.2.2.2.2.2.2.2.2.2.2.2.2.2.1, by rw [h1 _ (by omega) (by omega)]; exact h.2.2.2.2.2.2.2.2.2.2.2.2.2.2.2.2.2.2.2.2.2.2.2.2⟩
theorem Is10.gr {x x' : Wx} {a : Nat} (h : Is10 x a) (h1 : ∀ b : Nat, a ≤ b → b < a + 12 → x'.1 b = x.1 b) (h2 : ∀ b j : Nat, a ≤ b → b < a + 12 → ¬ (b < a) → x'.2.1 b j = x.2.1 b j) : Is10 x' a := ⟨by rw [h1 _ (by omega) (by omega)]; exact h.1, by rw [h2 a 0 (by omega) (by omega) (by omega)]; exact h.2.1, by rw [h1 _ (by omega) (by omega)]; exact h.2.2.1, by rw [h2 a 4 (by omega) (by omega) (by omega)]; exact h.2.2.2.1, by rw [h1 _ (by omega) (by omega)]; exact h.2.2.2.2.1, by rw [h2 a 5 (by omega) (by omega) (by omega)]; exact h.2.2.2.2.2.1, by rw [h1 _ (by omega) (by omega)]; exact h.2.2.2.2.2.2.1, fun i hi => ⟨by rw [h2 (a + 3) i (by omega) (by omega) (by omega)]; exact (h.2.2.2.2.2.2.2 i hi).1, by rw [h1 _ (by omega) (by omega)]; exact (h.2.2.2.2.2.2.2 i hi).2⟩⟩
theorem Is8.gr {x x' : Wx} {a : Nat} (h : Is8 x a) (h1 : ∀ b : Nat, a ≤ b → b < a + 2 → x'.1 b = x.1 b) (h2 : ∀ b j : Nat, a ≤ b → b < a + 2 → ¬ (b < a) → x'.2.1 b j = x.2.1 b j) : Is8 x' a := ⟨by rw [h1 _ (by omega) (by omega)]; exact h.1, by rw [h2 a 0 (by omega) (by omega) (by omega)]; exact h.2.1, by rw [h1 _ (by omega) (by omega)]; exact h.2.2⟩
theorem Is9.gr {x x' : Wx} {a : Nat} (h : Is9 x a) (h1 : ∀ b : Nat, a ≤ b → b < a + 48 → x'.1 b = x.1 b) (h2 : ∀ b j : Nat, a ≤ b → b < a + 48 → ¬ (b = a + 5) → x'.2.1 b j = x.2.1 b j) : Is9 x' a := ⟨by rw [h1 _ (by omega) (by omega)]; exact h.1, by rw [h2 a 4 (by omega) (by omega) (by omega)]; exact h.2.1, by rw [h1 _ (by omega) (by omega)]; exact h.2.2.1, by rw [h2 a 5 (by omega) (by omega) (by omega)]; exact h.2.2.2.1, by rw [h1 _ (by omega) (by omega)]; exact h.2.2.2.2.1, by rw [h2 a 6 (by omega) (by omega) (by omega)]; exact h.2.2.2.2.2.1, by rw [h1 _ (by omega) (by omega)]; exact h.2.2.2.2.2.2.1, by rw [h2 a 7 (by omega) (by omega) (by omega)]; exact h.2.2.2.2.2.2.2.1, by rw [h1 _ (by omega) (by omega)]; exact h.2.2.2.2.2.2.2.2.1, by rw [h2 a 8 (by omega) (by omega) (by omega)]; exact h.2.2.2.2.2.2.2.2.2.1, by rw [h1 _ (by omega) (by omega)]; exact h.2.2.2.2.2.2.2.2.2.2.1, fun i hi => by rw [h1 _ (by omega) (by omega)]; exact h.2.2.2.2.2.2.2.2.2.2.2.1 i hi, by rw [h2 a 10 (by omega) (by omega) (by omega)]; exact h.2.2.2.2.2.2.2.2.2.2.2.2.1, by rw [h1 _ (by omega) (by omega)]; exact h.2.2.2.2.2.2.2.2.2.2.2.2.2.1, by rw [h2 a 11 (by omega) (by omega) (by omega)]; exact h.2.2.2.2.2.2.2.2.2.2.2.2.2.2.1, by rw [h1 _ (by omega) (by omega)]; exact h.2.2.2.2.2.2.2.2.2.2.2.2.2.2.2⟩
theorem Is1.gr {x x' : Wx} {a : Nat} (h : Is1 x a) (h1 : ∀ b : Nat, a ≤ b → b < a + 113 → x'.1 b = x.1 b) (h2 : ∀ b j : Nat, a ≤ b → b < a + 113 → ¬ (b < a) → x'.2.1 b j = x.2.1 b j) : Is1 x' a := ⟨by rw [h1 _ (by omega) (by omega)]; exact h.1, by rw [h2 a 5 (by omega) (by omega) (by omega)]; exact h.2.1, by rw [h1 _ (by omega) (by omega)]; exact h.2.2.1, by rw [h2 a 6 (by omega) (by omega) (by omega)]; exact h.2.2.2.1, by rw [h1 _ (by omega) (by omega)]; exact h.2.2.2.2.1, by rw [h2 a 9 (by omega) (by omega) (by omega)]; exact h.2.2.2.2.2.1, by rw [h1 _ (by omega) (by omega)]; exact h.2.2.2.2.2.2.1, by rw [h2 a 10 (by omega) (by omega) (by omega)]; exact h.2.2.2.2.2.2.2.1, by rw [h1 _ (by omega) (by omega)]; exact h.2.2.2.2.2.2.2.2.1, fun i hi => ⟨by rw [h2 (a + 4) i (by omega) (by omega) (by omega)]; exact (h.2.2.2.2.2.2.2.2.2.1 i hi).1, by rw [h1 _ (by omega) (by omega)]; exact (h.2.2.2.2.2.2.2.2.2.1 i hi).2⟩, by rw [h2 a 11 (by omega) (by omega) (by omega)]; exact h.2.2.2.2.2.2.2.2.2.2.1, by rw [h1 _ (by omega) (by omega)]; exact h.2.2.2.2.2.2.2.2.2.2.2.1, fun i hi => ⟨by rw [h2 (a + 55) i (by omega) (by omega) (by omega)]; exact (h.2.2.2.2.2.2.2.2.2.2.2.2.1 i hi).1, by rw [h1 _ (by omega) (by omega)]; exact (h.2.2.2.2.2.2.2.2.2.2.2.2.1 i hi).2⟩, by rw [h2 a 12 (by omega) (by omega) (by omega)]; exact h.2.2.2.2.2.2.2.2.2.2.2.2.2.1, by rw [h1 _ (by omega) (by omega)]; exact h.2.2.2.2.2.2.2.2.2.2.2.2.2.2.1, fun i hi => ⟨by rw [h2 (a + 82) i (by omega) (by omega) (by omega)]; exact (h.2.2.2.2.2.2.2.2.2.2.2.2.2.2.2.1 i hi).1, by rw [h1 _ (by omega) (by omega)]; exact (h.2.2.2.2.2.2.2.2.2.2.2.2.2.2.2.1 i hi).2⟩, by rw [h2 a 13 (by omega) (by omega) (by omega)]; exact h.2.2.2.2.2.2.2.2.2.2.2.2.2.2.2.2.1, by rw [h1 _ (by omega) (by omega)]; exact h.2.2.2.2.2.2.2.2.2.2.2.2.2.2.2.2.2.1, by rw [h2 a 14 (by omega) (by omega) (by omega)]; exact h.2.2.2.2.2.2.2.2.2.2.2.2.2.2.2.2.2.2.1, by rw [h1 _ (by omega) (by omega)]; exact h.2.2.2.2.2.2.2.2.2.2.2.2.2.2.2.2.2.2.2.1, by rw [h2 a 15 (by omega) (by omega) (by omega)]; exact h.2.2.2.2.2.2.2.2.2.2.2.2.2.2.2.2.2.2.2.2.1, by rw [h1 _ (by omega) (by omega)]; exact h.2.2.2.2.2.2.2.2.2.2.2.2.2.2.2.2.2.2.2.2.2.1, by rw [h2 a 16 (by omega) (by omega) (by omega)]; exact h.2.2.2.2.2.2.2.2.2.2.2.2.2.2.2.2.2.2.2.2.2.2.1, by rw [h1 _ (by omega) (by omega)]; exact h.2.2.2.2.2.2.2.2.2.2.2.2.2.2.2.2.2.2.2.2.2.2.2⟩
theorem Is0.gr {x x' : Wx} {a : Nat} (h : Is0 x a) (h1 : ∀ b : Nat, a ≤ b → b < a + 53 → x'.1 b = x.1 b) (h2 : ∀ b j : Nat, a ≤ b → b < a + 53 → ¬ (b = a ∧ (j = 1 ∨ j = 2)) → x'.2.1 b j = x.2.1 b j) : Is0 x' a := ⟨by rw [h1 _ (by omega) (by omega)]; exact h.1, by rw [h2 a 4 (by omega) (by omega) (by omega)]; exact h.2.1, h.2.2.1.gr (fun b g1 g2 => h1 b (by omega) (by omega)) (fun b j g1 g2 g3 => h2 b j (by omega) (by omega) (by omega)), by rw [h2 a 5 (by omega) (by omega) (by omega)]; exact h.2.2.2.1, h.2.2.2.2.1.gr (fun b g1 g2 => h1 b (by omega) (by omega)) (fun b j g1 g2 g3 => h2 b j (by omega) (by omega) (by omega)), by rw [h2 a 6 (by omega) (by omega) (by omega)]; exact h.2.2.2.2.2.1, h.2.2.2.2.2.2.1.gr (fun b g1 g2 => h1 b (by omega) (by omega)) (fun b j g1 g2 g3 => h2 b j (by omega) (by omega) (by omega)), by rw [h2 a 7 (by omega) (by omega) (by omega)]; exact h.2.2.2.2.2.2.2.1, h.2.2.2.2.2.2.2.2.1.gr (fun b g1 g2 => h1 b (by omega) (by omega)) (fun b j g1 g2 g3 => h2 b j (by omega) (by omega) (by omega)), by rw [h2 a 8 (by omega) (by omega) (by omega)]; exact h.2.2.2.2.2.2.2.2.2.1, h.2.2.2.2.2.2.2.2.2.2.1.gr (fun b g1 g2 => h1 b (by omega) (by omega)) (fun b j g1 g2 g3 => h2 b j (by omega) (by omega) (by omega)), by rw [h2 a 9 (by omega) (by omega) (by omega)]; exact h.2.2.2.2.2.2.2.2.2.2.2.1, h.2.2.2.2.2.2.2.2.2.2.2.2.1.gr (fun b g1 g2 => h1 b (by omega) (by omega)) (fun b j g1 g2 g3 => h2 b j (by omega) (by omega) (by omega)), by rw [h2 a 10 (by omega) (by omega) (by omega)]; exact h.2.2.2.2.2.2.2.2.2.2.2.2.2.1, h.2.2.2.2.2.2.2.2.2.2.2.2.2.2.1.gr (fun b g1 g2 => h1 b (by omega) (by omega)) (fun b j g1 g2 g3 => h2 b j (by omega) (by omega) (by omega)), by rw [h2 a 11 (by omega) (by omega) (by omega)]; exact h.2.2.2.2.2.2.2.2.2.2.2.2.2.2.2.1, h.2.2.2.2.2.2.2.2.2.2.2.2.2.2.2.2.1.gr (fun b g1 g2 => h1 b (by omega) (by omega)) (fun b j g1 g2 g3 => h2 b j (by omega) (by omega) (by omega)), by rw [h2 a 12 (by omega) (by omega) (by omega)]; exact h.2.2.2.2.2.2.2.2.2.2.2.2.2.2.2.2.2.1, h.2.2.2.2.2.2.2.2.2.2.2.2.2.2.2.2.2.2.1.gr (fun b g1 g2 => h1 b (by omega) (by omega)) (fun b j g1 g2 g3 => h2 b j (by omega) (by omega) (by omega)), by rw [h2 a 13 (by omega) (by omega) (by omega)]; exact h.2.2.2.2.2.2.2.2.2.2.2.2.2.2.2.2.2.2.2.1, h.2.2.2.2.2.2.2.2.2.2.2.2.2.2.2.2.2.2.2.2.1.gr (fun b g1 g2 => h1 b (by omega) (by omega)) (fun b j g1 g2 g3 => h2 b j (by omega) (by omega) (by omega)), by rw [h2 a 15 (by omega) (by omega) (by omega)]; exact h.2.2.2.2.2.2.2.2.2.2.2.2.2.2.2.2.2.2.2.2.2.1, by rw [h1 _ (by omega) (by omega)]; exact h.2.2.2.2.2.2.2.2.2.2.2.2.2.2.2.2.2.2.2.2.2.2.1, by rw [h2 a 16 (by omega) (by omega) (by omega)]; exact h.2.2.2.2.2.2.2.2.2.2.2.2.2.2.2.2.2.2.2.2.2.2.2.1, by rw [h1 _ (by omega) (by omega)]; exact h.2.2.2.2.2.2.2.2.2.2.2.2.2.2.2.2.2.2.2.2.2.2.2.2.1, by rw [h2 a 17 (by omega) (by omega) (by omega)]; exact h.2.2.2.2.2.2.2.2.2.2.2.2.2.2.2.2.2.2.2.2.2.2.2.2.2.1, by rw [h1 _ (by omega) (by omega)]; exact h.2.2.2.2.2.2.2.2.2.2.2.2.2.2.2.2.2.2.2.2.2.2.2.2.2.2⟩
theorem Is11.gr {x x' : Wx} {a : Nat} (h : Is11 x a) (h1 : ∀ b : Nat, a ≤ b → b < a + 292 → x'.1 b = x.1 b) (h2 : ∀ b j : Nat, a ≤ b → b < a + 292 → ¬ (b = a + 13 ∨ b = a + 73 ∨ (b = a + 229 ∧ (j = 1 ∨ j = 2))) → x'.2.1 b j = x.2.1 b j) : Is11 x' a := ⟨by rw [h1 _ (by omega) (by omega)]; exact h.1, by rw [h2 a 0 (by omega) (by omega) (by omega)]; exact h.2.1, h.2.2.1.gr (fun b g1 g2 => h1 b (by omega) (by omega)) (fun b j g1 g2 g3 => h2 b j (by omega) (by omega) (by omega)), by rw [h2 a 1 (by omega) (by omega) (by omega)]; exact h.2.2.2.1, by rw [h1 _ (by omega) (by omega)]; exact h.2.2.2.2.1, by rw [h2 a 2 (by omega) (by omega) (by omega)]; exact h.2.2.2.2.2.1, h.2.2.2.2.2.2.1.gr (fun b g1 g2 => h1 b (by omega) (by omega)) (fun b j g1 g2 g3 => h2 b j (by omega) (by omega) (by omega)), by rw [h2 a 3 (by omega) (by omega) (by omega)]; exact h.2.2.2.2.2.2.2.1, h.2.2.2.2.2.2.2.2.1.gr (fun b g1 g2 => h1 b (by omega) (by omega)) (fun b j g1 g2 g3 => h2 b j (by omega) (by omega) (by omega)), by rw [h2 a 4 (by omega) (by omega) (by omega)]; exact h.2.2.2.2.2.2.2.2.2.1, h.2.2.2.2.2.2.2.2.2.2.1.gr (fun b g1 g2 => h1 b (by omega) (by omega)) (fun b j g1 g2 g3 => h2 b j (by omega) (by omega) (by omega)), by rw [h2 a 5 (by omega) (by omega) (by omega)]; exact h.2.2.2.2.2.2.2.2.2.2.2.1, h.2.2.2.2.2.2.2.2.2.2.2.2.1.gr (fun b g1 g2 => h1 b (by omega) (by omega)) (fun b j g1 g2 g3 => h2 b j (by omega) (by omega) (by omega)), by rw [h2 a 6 (by omega) (by omega) (by omega)]; exact h.2.2.2.2.2.2.2.2.2.2.2.2.2.1, h.2.2.2.2.2.2.2.2.2.2.2.2.2.2.1.gr (fun b g1 g2 => h1 b (by omega) (by omega)) (fun b j g1 g2 g3 => h2 b j (by omega) (by omega) (by omega)), by rw [h2 a 7 (by omega) (by omega) (by omega)]; exact h.2.2.2.2.2.2.2.2.2.2.2.2.2.2.2.1, h.2.2.2.2.2.2.2.2.2.2.2.2.2.2.2.2.1.gr (fun b g1 g2 => h1 b (by omega) (by omega)) (fun b j g1 g2 g3 => h2 b j (by omega) (by omega) (by omega)), by rw [h2 a 8 (by omega) (by omega) (by omega)]; exact h.2.2.2.2.2.2.2.2.2.2.2.2.2.2.2.2.2.1, h.2.2.2.2.2.2.2.2.2.2.2.2.2.2.2.2.2.2.1.gr (fun b g1 g2 => h1 b (by omega) (by omega)) (fun b j g1 g2 g3 => h2 b j (by omega) (by omega) (by omega)), by rw [h2 a 9 (by omega) (by omega) (by omega)]; exact h.2.2.2.2.2.2.2.2.2.2.2.2.2.2.2.2.2.2.2.1, h.2.2.2.2.2.2.2.2.2.2.2.2.2.2.2.2.2.2.2.2.1.gr (fun b g1 g2 => h1 b (by omega) (by omega)) (fun b j g1 g2 g3 => h2 b j (by omega) (by omega) (by omega)), by rw [h2 a 10 (by omega) (by omega) (by omega)]; exact h.2.2.2.2.2.2.2.2.2.2.2.2.2.2.2.2.2.2.2.2.2.1, h.2.2.2.2.2.2.2.2.2.2.2.2.2.2.2.2.2.2.2.2.2.2.1.gr (fun b g1 g2 => h1 b (by omega) (by omega)) (fun b j g1 g2 g3 => h2 b j (by omega) (by omega) (by omega)), by rw [h2 a 11 (by omega) (by omega) (by omega)]; exact h.2.2.2.2.2.2.2.2.2.2.2.2.2.2.2.2.2.2.2.2.2.2.2.1, h.2.2.2.2.2.2.2.2.2.2.2.2.2.2.2.2.2.2.2.2.2.2.2.2.1.gr (fun b g1 g2 => h1 b (by omega) (by omega)) (fun b j g1 g2 g3 => h2 b j (by omega) (by omega) (by omega)), by rw [h2 a 12 (by omega) (by omega) (by omega)]; exact h.2.2.2.2.2.2.2.2.2.2.2.2.2.2.2.2.2.2.2.2.2.2.2.2.2.1, h.2.2.2.2.2.2.2.2.2.2.2.2.2.2.2.2.2.2.2.2.2.2.2.2.2.2.1.gr (fun b g1 g2 => h1 b (by omega) (by omega)) (fun b j g1 g2 g3 => h2 b j (by omega) (by omega) (by omega)), by rw [h2 a 13 (by omega) (by omega) (by omega)]; exact h.2.2.2.2.2.2.2.2.2.2.2.2.2.2.2.2.2.2.2.2.2.2.2.2.2.2.2.1, h.2.2.2.2.2.2.2.2.2.2.2.2.2.2.2.2.2.2.2.2.2.2.2.2.2.2.2.2.gr (fun b g1 g2 => h1 b (by omega) (by omega)) (fun b j g1 g2 g3 => h2 b j (by omega) (by omega) (by omega))⟩
theorem Is12.gr {x x' : Wx} {a : Nat} (h : Is12 x a) (h1 : ∀ b : Nat, a ≤ b → b < a + 26 → x'.1 b = x.1 b) (h2 : ∀ b j : Nat, a ≤ b → b < a + 26 → ¬ (b < a) → x'.2.1 b j = x.2.1 b j) : Is12 x' a := ⟨by rw [h1 _ (by omega) (by omega)]; exact h.1, by rw [h2 a 0 (by omega) (by omega) (by omega)]; exact h.2.1, by rw [h1 _ (by omega) (by omega)]; exact h.2.2.1, by rw [h2 a 1 (by omega) (by omega) (by omega)]; exact h.2.2.2.1, by rw [h1 _ (by omega) (by omega)]; exact h.2.2.2.2.1, by rw [h2 a 9 (by omega) (by omega) (by omega)]; exact h.2.2.2.2.2.1, by rw [h1 _ (by omega) (by omega)]; exact h.2.2.2.2.2.2.1, by rw [h2 a 10 (by omega) (by omega) (by omega)]; exact h.2.2.2.2.2.2.2.1, by rw [h1 _ (by omega) (by omega)]; exact h.2.2.2.2.2.2.2.2.1, by rw [h2 a 13 (by omega) (by omega) (by omega)]; exact h.2.2.2.2.2.2.2.2.2.1, by rw [h1 _ (by omega) (by omega)]; exact h.2.2.2.2.2.2.2.2.2.2.1, by rw [h2 a 14 (by omega) (by omega) (by omega)]; exact h.2.2.2.2.2.2.2.2.2.2.2.1, by rw [h1 _ (by omega) (by omega)]; exact h.2.2.2.2.2.2.2.2.2.2.2.2.1, by rw [h2 a 16 (by omega) (by omega) (by omega)]; exact h.2.2.2.2.2.2.2.2.2.2.2.2.2.1, by rw [h1 _ (by omega) (by omega)]; exact h.2.2.2.2.2.2.2.2.2.2.2.2.2.2.1, by rw [h2 a 17 (by omega) (by omega) (by omega)]; exact h.2.2.2.2.2.2.2.2.2.2.2.2.2.2.2.1, by rw [h1 _ (by omega) (by omega)]; exact h.2.2.2.2.2.2.2.2.2.2.2.2.2.2.2.2.1, by rw [h2 a 18 (by omega) (by omega) (by omega)]; exact h.2.2.2.2.2.2.2.2.2.2.2.2.2.2.2.2.2.1, by rw [h1 _ (by omega) (by omega)]; exact h.2.2.2.2.2.2.2.2.2.2.2.2.2.2.2.2.2.2.1, by rw [h2 a 19 (by omega) (by omega) (by omega)]; exact h.2.2.2.2.2.2.2.2.2.2.2.2.2.2.2.2.2.2.2.1, by rw [h1 _ (by omega) (by omega)]; exact h.2.2.2.2.2.2.2.2.2.2.2.2.2.2.2.2.2.2.2.2.1, by rw [h2 a 20 (by omega) (by omega) (by omega)]; exact h.2.2.2.2.2.2.2.2.2.2.2.2.2.2.2.2.2.2.2.2.2.1, by rw [h1 _ (by omega) (by omega)]; exact h.2.2.2.2.2.2.2.2.2.2.2.2.2.2.2.2.2.2.2.2.2.2.1, by rw [h2 a 22 (by omega) (by omega) (by omega)]; exact h.2.2.2.2.2.2.2.2.2.2.2.2.2.2.2.2.2.2.2.2.2.2.2.1, by rw [h1 _ (by omega) (by omega)]; exact h.2.2.2.2.2.2.2.2.2.2.2.2.2.2.2.2.2.2.2.2.2.2.2.2.1, by rw [h2 a 25 (by omega) (by omega) (by omega)]; exact h.2.2.2.2.2.2.2.2.2.2.2.2.2.2.2.2.2.2.2.2.2.2.2.2.2.1, by rw [h1 _ (by omega) (by omega)]; exact h.2.2.2.2.2.2.2.2.2.2.2.2.2.2.2.2.2.2.2.2.2.2.2.2.2.2.1, by rw [h2 a 27 (by omega) (by omega) (by omega)]; exact h.2.2.2.2.2.2.2.2.2.2.2.2.2.2.2.2.2.2.2.2.2.2.2.2.2.2.2.1, by rw [h1 _ (by omega) (by omega)]; exact h.2.2.2.2.2.2.2.2.2.2.2.2.2.2.2.2.2.2.2.2.2.2.2.2.2.2.2.2.1, by rw [h2 a 29 (by omega) (by omega) (by omega)]; exact h.2.2.2.2.2.2.2.2.2.2.2.2.2.2.2.2.2.2.2.2.2.2.2.2.2.2.2.2.2.1, by rw [h1 _ (by omega) (by omega)]; exact h.2.2.2.2.2.2.2.2.2.2.2.2.2.2.2.2.2.2.2.2.2.2.2.2.2.2.2.2.2.2.1, by rw [h2 a 30 (by omega) (by omega) (by omega)]; exact h.2.2.2.2.2.2.2.2.2.2.2.2.2.2.2.2.2.2.2.2.2.2.2.2.2.2.2.2.2.2.2.1, by rw [h1 _ (by omega) (by omega)]; exact h.2.2.2.2.2.2.2.2.2.2.2.2.2.2.2.2.2.2.2.2.2.2.2.2.2.2.2.2.2.2.2.2.1, by rw [h2 a 31 (by omega) (by omega) (by omega)]; exact h.2.2.2.2.2.2.2.2.2.2.2.2.2.2.2.2.2.2.2.2.2.2.2.2.2.2.2.2.2.2.2.2.2.1, by rw [h1 _ (by omega) (by omega)]; exact h.2.2.2.2.2.2.2.2.2.2.2.2.2.2.2.2.2.2.2.2.2.2.2.2.2.2.2.2.2.2.2.2.2.2.1, by rw [h2 a 32 (by omega) (by omega) (by omega)]; exact h.2.2.2.2.2.2.2.2.2.2.2.2.2.2.2.2.2.2.2.2.2.2.2.2.2.2.2.2.2.2.2.2.2.2.2.1, by rw [h1 _ (by omega) (by omega)]; exact h.2.2.2.2.2.2.2.2.2.2.2.2.2.2.2.2.2.2.2.2.2.2.2.2.2.2.2.2.2.2.2.2.2.2.2.2.1, by rw [h2 a 33 (by omega) (by omega) (by omega)]; exact h.2.2.2.2.2.2.2.2.2.2.2.2.2.2.2.2.2.2.2.2.2.2.2.2.2.2.2.2.2.2.2.2.2.2.2.2.2.1, by rw [h1 _ (by omega) (by omega)]; exact h.2.2.2.2.2.2.2.2.2.2.2.2.2.2.2.2.2.2.2.2.2.2.2.2.2.2.2.2.2.2.2.2.2.2.2.2.2.2.1, by rw [h2 a 34 (by omega) (by omega) (by omega)]; exact h.2.2.2.2.2.2.2.2.2.2.2.2.2.2.2.2.2.2.2.2.2.2.2.2.2.2.2.2.2.2.2.2.2.2.2.2.2.2.2.1, by rw [h1 _ (by omega) (by omega)]; exact h.2.2.2.2.2.2.2.2.2.2.2.2.2.2.2.2.2.2.2.2.2.2.2.2.2.2.2.2.2.2.2.2.2.2.2.2.2.2.2.2.1, by rw [h2 a 37 (by omega) (by omega) (by omega)]; exact h.2.2.2.2.2.2.2.2.2.2.2.2.2.2.2.2.2.2.2.2.2.2.2.2.2.2.2.2.2.2.2.2.2.2.2.2.2.2.2.2.2.1, by rw [h1 _ (by omega) (by omega)]; exact h.2.2.2.2.2.2.2.2.2.2.2.2.2.2.2.2.2.2.2.2.2.2.2.2.2.2.2.2.2.2.2.2.2.2.2.2.2.2.2.2.2.2.1, by rw [h2 a 38 (by omega) (by omega) (by omega)]; exact h.2.2.2.2.2.2.2.2.2.2.2.2.2.2.2.2.2.2.2.2.2.2.2.2.2.2.2.2.2.2.2.2.2.2.2.2.2.2.2.2.2.2.2.1, by rw [h1 _ (by omega) (by omega)]; exact h.2.2.2.2.2.2.2.2.2.2.2.2.2.2.2.2.2.2.2.2.2.2.2.2.2.2.2.2.2.2.2.2.2.2.2.2.2.2.2.2.2.2.2.2.1, by rw [h2 a 42 (by omega) (by omega) (by omega)]; exact h.2.2.2.2.2.2.2.2.2.2.2.2.2.2.2.2.2.2.2.2.2.2.2.2.2.2.2.2.2.2.2.2.2.2.2.2.2.2.2.2.2.2.2.2.2.1, by rw [h1 _ (by omega) (by omega)]; exact h.2.2.2.2.2.2.2.2.2.2.2.2.2.2.2.2.2.2.2.2.2.2.2.2.2.2.2.2.2.2.2.2.2.2.2.2.2.2.2.2.2.2.2.2.2.2.1, by rw [h2 a 43 (by omega) (by omega) (by omega)]; exact h.2.2.2.2.2.2.2.2.2.2.2.2.2.2.2.2.2.2.2.2.2.2.2.2.2.2.2.2.2.2.2.2.2.2.2.2.2.2.2.2.2.2.2.2.2.2.2.1, by rw [h1 _ (by omega) (by omega)]; exact h.2.2.2.2.2.2.2.2.2.2.2.2.2.2.2.2.2.2.2.2.2.2.2.2.2.2.2.2.2.2.2.2.2.2.2.2.2.2.2.2.2.2.2.2.2.2.2.2.1, by rw [h2 a 45 (by omega) (by omega) (by omega)]; exact h.2.2.2.2.2.2.2.2.2.2.2.2.2.2.2.2.2.2.2.2.2.2.2.2.2.2.2.2.2.2.2.2.2.2.2.2.2.2.2.2.2.2.2.2.2.2.2.2.2.1, by rw [h1 _ (by omega) (by omega)]; exact h.2.2.2.2.2.2.2.2.2.2.2.2.2.2.2.2.2.2.2.2.2.2.2.2.2.2.2.2.2.2.2.2.2.2.2.2.2.2.2.2.2.2.2.2.2.2.2.2.2.2⟩
theorem dX11_image_0 : decode cX11_image 0 = .ok (.iload_n 1, 1) := by decide +kernel
theorem dX11_image_1 : decode cX11_image 1 = .ok (.ifCond .lt 8, 3) := by decide +kernel
theorem dX11_image_4 : decode cX11_image 4 = .ok (.iload_n 1, 1) := by decide +kernel
theorem dX11_image_5 : decode cX11_image 5 = .ok (.iconst 3, 1) := by decide +kernel
theorem dX11_image_6 : decode cX11_image 6 = .ok (.if_icmp .lt 5, 3) := by decide +kernel
theorem dX11_image_9 : decode cX11_image 9 = .ok (.iconst 0, 1) := by decide +kernel
theorem dX11_image_10 : decode cX11_image 10 = .ok (.ireturn, 1) := by decide +kernel
theorem dX11_image_11 : decode cX11_image 11 = .ok (.aload_n 0, 1) := by decide +kernel
theorem dX11_image_12 : decode cX11_image 12 = .ok (.getfield 16, 3) := by decide +kernel
theorem dX11_image_15 : decode cX11_image 15 = .ok (.iload_n 1, 1) := by decide +kernel
theorem dX11_image_16 : decode cX11_image 16 = .ok (.aaload, 1) := by decide +kernel
theorem dX11_image_17 : decode cX11_image 17 = .ok (.ifnonnull 16, 3) := by decide +kernel
theorem dX11_image_20 : decode cX11_image 20 = .ok (.aload_n 0, 1) := by decide +kernel
theorem dX11_image_21 : decode cX11_image 21 = .ok (.getfield 16, 3) := by decide +kernel
theorem dX11_image_24 : decode cX11_image 24 = .ok (.iload_n 1, 1) := by decide +kernel
theorem dX11_image_25 : decode cX11_image 25 = .ok (.new 7, 3) := by decide +kernel
theorem dX11_image_28 : decode cX11_image 28 = .ok (.dup, 1) := by decide +kernel
theorem dX11_image_29 : decode cX11_image 29 = .ok (.invokespecial 9, 3) := by decide +kernel
theorem dX11_image_32 : decode cX11_image 32 = .ok (.aastore, 1) := by decide +kernel
theorem dX11_image_33 : decode cX11_image 33 = .ok (.aload_n 0, 1) := by decide +kernel
theorem dX11_image_34 : decode cX11_image 34 = .ok (.getfield 16, 3) := by decide +kernel
theorem dX11_image_37 : decode cX11_image 37 = .ok (.iload_n 1, 1) := by decide +kernel
theorem dX11_image_38 : decode cX11_image 38 = .ok (.aaload, 1) := by decide +kernel
theorem dX11_image_39 : decode cX11_image 39 = .ok (.aload_n 0, 1) := by decide +kernel
theorem dX11_image_40 : decode cX11_image 40 = .ok (.getfield 10, 3) := by decide +kernel
theorem dX11_image_43 : decode cX11_image 43 = .ok (.invokevirtual 357, 3) := by decide +kernel
theorem dX11_image_46 : decode cX11_image 46 = .ok (.iconst 1, 1) := by decide +kernel
theorem dX11_image_47 : decode cX11_image 47 = .ok (.ireturn, 1) := by decide +kernel
set_option maxRecDepth 20000 in
theorem b_X11_image_0 {k n : Nat} {x : Wx} {Z : Zt} {Q : Option Value → Wx → Zt → Prop} {a0 : Nat} {v1 : Int} (o_a0 : Is11 x a0)
    (h : Rg v1 ∧ (((v1 < 0) → (V mX11_image k n 9 [none, none] [] x Z Q)) ∧ ((0 ≤ v1) → (((v1 < 3) → ((x.2.1 (a0 + 13) v1.toNat = none → (V mX11_image k n 20 [some (r_ a0), some (i_ v1)] [] x Z Q)) ∧ (∀ b1, x.2.1 (a0 + 13) v1.toNat = some b1 → (Is10 x b1 ∧ (V mX11_image k n 33 [some (r_ a0), some (i_ v1)] [] x Z Q))))) ∧ ((3 ≤ v1) → (V mX11_image k n 9 [none, none] [] x Z Q)))))) :
    V mX11_image k n 0 [some (r_ a0), some (i_ v1)] [] x Z Q :=
  V_iload_n dX11_image_0 rfl (V_if_lt (tgt := 9) dX11_image_1 rfl h.1 (fun c1 => V_msk [false, false] rfl (h.2.1 c1)) (fun c1 => V_iload_n dX11_image_4 rfl (V_iconst dX11_image_5 (V_icmp_lt (tgt := 11) dX11_image_6 rfl h.1 (rg_c rfl) (fun c2 => V_aload_n dX11_image_11 rfl (G_11_1 o_a0.1 o_a0.qR1 lf_11_16 dX11_image_12 (V_iload_n dX11_image_15 rfl (V_aald (t := 105) o_a0.qK1 (by decide) (fun _ _ => rfl) rfl c1 c2 (Nat.le_of_ble_eq_true rfl) dX11_image_16 (V_q (fun c3 => V_ifnonnull_n dX11_image_17 (V_msk [true, true] rfl (((h.2.2 c1).1 c2).1 c3))) (fun b1 c4 => have s1 := (((h.2.2 c1).1 c2).2 b1 c4).1; V_ifnonnull_r (tgt := 33) dX11_image_17 rfl (V_msk [true, true] rfl (((h.2.2 c1).1 c2).2 b1 c4).2))))))) (fun c2 => V_msk [false, false] rfl ((h.2.2 c1).2 c2))))))
set_option maxRecDepth 20000 in
theorem b_X11_image_9 {k n : Nat} {x : Wx} {Z : Zt} {Q : Option Value → Wx → Zt → Prop}  
    (h : Q (some (i_ 0)) x Z) :
    V mX11_image k n 9 [none, none] [] x Z Q :=
  V_iconst dX11_image_9 (V_iret (ty := .boolean) dX11_image_10 rfl rfl h)
set_option maxRecDepth 20000 in
theorem b_X11_image_33 {k n : Nat} {x : Wx} {Z : Zt} {Q : Option Value → Wx → Zt → Prop} {a0 : Nat} {v1 : Int} (o_a0 : Is11 x a0)
    (h : 0 ≤ v1 ∧ v1 < 3 ∧ ((x.2.1 (a0 + 13) v1.toNat = none → (False)) ∧ (∀ b1, x.2.1 (a0 + 13) v1.toNat = some b1 → (Is10 x b1 ∧ (∃ g1 : Td, (((a0 + 1) + 12 ≤ b1 ∨ b1 + 12 ≤ (a0 + 1)) ∧ TdC Z (a0 + 1) g1 ∧ TdV g1 ∧ ((∀ i : Nat, 600 ≤ i → Z (b1 + 1) i = 0) ∧ ∀ r i : Nat, r < 8 → 26 ≤ i → Z (b1 + 4 + r) i = 0) ∧ (∀ (Z'1 : Zt), (TdC Z'1 b1 g1 ∧ Oth Z Z'1 (fun b => b1 ≤ b ∧ b < b1 + 12)) → (Q (some (i_ 1)) x Z'1)))))))) :
    V mX11_image k n 33 [some (r_ a0), some (i_ v1)] [] x Z Q :=
  V_aload_n dX11_image_33 rfl (G_11_1 o_a0.1 o_a0.qR1 lf_11_16 dX11_image_34 (V_iload_n dX11_image_37 rfl (V_aald (t := 105) o_a0.qK1 (by decide) (fun _ _ => rfl) rfl h.1 h.2.1 (Nat.le_of_ble_eq_true rfl) dX11_image_38 (V_q (fun c1 => V_aload_n dX11_image_39 rfl (G_11_0 o_a0.1 o_a0.qR0 lf_11_10 dX11_image_40 ((False.elim (h.2.2.1 c1))))) (fun b1 c2 => have s1 := (h.2.2.2 b1 c2).1; V_aload_n dX11_image_39 rfl (G_11_0 o_a0.1 o_a0.qR0 lf_11_10 dX11_image_40 (Exists.elim (h.2.2.2 b1 c2).2 (fun g1 w1 => V_callV (k' := 0) (n' := 0) (t := 10) (q := (RX10, TX10, 6)) [r_ (a0 + 1)] [] okX10_copy s1.1 rfl rfl lm_11_357 liX10_copy lqX10_copy (Nat.le_of_ble_eq_true rfl) (Nat.le_of_ble_eq_true rfl) (Nat.le_of_ble_eq_true rfl) (cat_of rfl) (Nat.le_of_ble_eq_true rfl) (Nat.zero_le _) (Nat.zero_le _) rfl dX11_image_43 (sp_X10_copy2 s1 o_a0.qK0 w1.1 w1.2.1 w1.2.2.1 w1.2.2.2.1 (fun Z'1 p1 => V_iconst dX11_image_46 (V_iret (ty := .boolean) dX11_image_47 rfl rfl (w1.2.2.2.2 Z'1 p1))))))))))))
/-- the world has grown behind the two objects; in them only the row of the images may differ -/
def Fi (a : Nat) (x x' : Wx) (Z Z' : Zt) : Prop := x'.2.2.2 = x.2.2.2 ∧ x.2.2.1 ≤ x'.2.2.1 ∧ (∀ b : Nat, b < a + 318 → x'.1 b = x.1 b ∧ Z' b = Z b) ∧ ∀ b : Nat, b < a + 318 → b ≠ a + 13 → x'.2.1 b = x.2.1 b
theorem Fi.rf {a : Nat} {x : Wx} {Z : Zt} : Fi a x x Z Z := ⟨rfl, Nat.le_refl _, fun _ _ => ⟨rfl, rfl⟩, fun _ _ _ => rfl⟩
theorem Cch.grown {x x' : Wx} {Z Z' : Zt} {a : Nat} {T : Td} {σ : Nat → Nat} (hV : TdV T) (h : Cch x Z a T σ) (hL : LnA x' (a + 68) σ) (hx : x'.2.1 (a + 229) = x.2.1 (a + 229)) (h0 : ∀ b, b < a + 318 → Z' b = Z b) : Cch x' Z' a T σ := by
  unfold Cch at h ⊢
  rw [h0 a (by omega)]
  rcases h with h | ⟨c, hc, g1, g2, g3, g4, g5, g6, g7⟩
  · exact Or.inl h
  · have hp := (hV.2.2.2.2.2.2.2.1 c g1).1
    refine Or.inr ⟨c, hc, ?_⟩
    unfold CrvC
    refine ⟨g1, g2.kept (fun b b1 b2 => h0 b (by omega)) (fun i _ => by rw [h0 _ (by omega)]), by rw [hx]; exact g3, by rw [hx]; exact g4, ?_, ?_, ?_⟩
    · rw [h0 _ (by omega)]; exact g5
    · unfold LstC at g6 ⊢
      rw [h0 (a + 229) (by omega)]
      rcases g6 with e | ⟨e, g⟩
      · exact Or.inl e
      · exact Or.inr ⟨e, g.kept (h0 _ (by omega)) (h0 _ (by omega)) (h0 _ (by omega))⟩
    · unfold SumC at g7 ⊢
      rw [h0 a (by omega)]
      rcases g7 with g7 | ⟨s, q1, q2, q3, q4, q5⟩
      · exact Or.inl g7
      · refine Or.inr ⟨s, q1, q2, q3, ⟨hL, (q4.kept hp (fun b b1 b2 => h0 b (by omega))).2⟩, ?_⟩
        rcases q5 with e | ⟨e, w1, w2⟩
        · exact Or.inl e
        · refine Or.inr ⟨e, w1.kept hp (fun i hi => by rw [h0 _ (by omega)]) (fun b hb => h0 b (by omega)), ?_⟩
          rw [h0 (a + 116) (by omega), h0 (a + 116 + 1) (by omega)]; exact w2
theorem OI.fi {x x' : Wx} {Z Z' : Zt} {a : Nat} {S : Ab} (h : OI x Z a S) (f : Fi a x x' Z Z') {im : Nat → Option Td} (hi : ImgC x' Z' a im) (hA : AbV (S.nw, im)) : OI x' Z' a (S.nw, im) := by
  obtain ⟨o, hk, hr, ht, _, hV, σ, hl, hc⟩ := h
  obtain ⟨f1, f2, f3, f4⟩ := f
  have o' : Is11 x' a := o.gr (fun b b1 b2 => (f3 b (by omega)).1) (fun b j b1 b2 b3 => by rw [f4 b (by omega) (by omega)])
  refine ⟨o', ?_, by rw [f4 _ (by omega) (by omega)]; exact hr, ht.kept (fun b b1 b2 => (f3 b (by omega)).2), hi, hA, σ, ?_, ?_⟩
  · obtain ⟨h1, h2, h3, h4, h5⟩ := hk
    have hb : ∀ j : Nat, j < 3 → Z' (x.2.2.2 j) = Z (x.2.2.2 j) := fun j hj => (f3 _ (by have := h5.1 j hj; omega)).2
    have hb1 : ∀ j : Nat, j < 3 → x'.1 (x.2.2.2 j) = x.1 (x.2.2.2 j) := fun j hj => (f3 _ (by have := h5.1 j hj; omega)).1
    refine ⟨?_, ?_, ?_, ?_, ?_⟩
    · unfold KS; rw [f1, hb1 0 (by decide), hb1 1 (by decide), hb1 2 (by decide)]; exact h1
    · unfold KW; rw [f1, hb 0 (by decide), hb 1 (by decide), hb 2 (by decide)]; exact h2
    · intro j hj
      rw [f1, (f3 _ (by have := h5.2 j hj; omega)).1]; exact h3 j hj
    · intro j hj i hi
      rw [f1, (f3 _ (by have := h5.2 j hj; omega)).2]; exact h4 j hj i hi
    · unfold KB; rw [f1]; exact h5
  · refine ⟨fun i hi => ?_, hl.2⟩
    rw [f4 _ (by omega) (by omega)]; exact hl.1 i hi
  · exact hc.grown hV.1 ⟨fun i hi => by rw [f4 _ (by omega) (by omega)]; exact hl.1 i hi, hl.2⟩ (f4 _ (by omega) (by omega)) (fun b hb => (f3 b hb).2)
def nImg (S : Ab) (v : Int) : Ab := if 0 ≤ v ∧ v < 3 then (S.nw, fun j => if j = v.toNat then some S.nw else S.im j) else S
def aImg (v : Int) : Int := if 0 ≤ v ∧ v < 3 then 1 else 0
/-- the image's Told has been filled -/
theorem img_done {x : Wx} {Z Z' : Zt} {a b : Nat} {S : Ab} {v : Int} (hv : 0 ≤ v ∧ v < 3) (hI : OI x Z a S) (hb : x.2.1 (a + 13) v.toNat = some b) (o : Is10 x b) (h1 : a + 318 ≤ b) (h2 : b + 12 ≤ x.2.2.1) (hT : TdC Z' b S.nw) (ho : Oth Z Z' (fun c => b ≤ c ∧ c < b + 12)) : OI x Z' a (nImg S v) ∧ Fi a x x Z Z' := by
  have f : Fi a x x Z Z' := ⟨rfl, Nat.le_refl _, fun c hc => ⟨rfl, ho c (by omega)⟩, fun _ _ _ => rfl⟩
  have hi := hI.2.2.2.2.1
  have hV := hI.2.2.2.2.2.1
  unfold nImg; rw [if_pos hv]
  refine ⟨hI.fi f ⟨fun k hk hn => ?_, fun k c hk hc => ?_, hi.2.2⟩ ⟨hV.1, fun k hk T hT => ?_⟩, f⟩
  · show (if k = v.toNat then _ else _) = _
    by_cases e : k = v.toNat
    · rw [e, hb] at hn; cases hn
    · rw [if_neg e]; exact hi.1 k hk hn
  · show _ ∧ _ ∧ _ ∧ ∃ T : Td, (if k = v.toNat then some S.nw else S.im k) = some T ∧ _
    obtain ⟨g1, g2, g3, T, g4, g5⟩ := hi.2.1 k c hk hc
    by_cases e : k = v.toNat
    · rw [e, hb] at hc; cases hc
      exact ⟨o, h1, h2, S.nw, if_pos e, hT⟩
    · refine ⟨g1, g2, g3, T, (if_neg e).trans g4, g5.kept (fun q q1 q2 => ho q ?_)⟩
      have := hi.2.2 k v.toNat c b hk (by omega) e hc hb
      omega
  · by_cases e : k = v.toNat
    · have : (if k = v.toNat then some S.nw else S.im k) = some T := hT
      rw [if_pos e] at this; cases this; exact hV.1
    · have : (if k = v.toNat then some S.nw else S.im k) = some T := hT
      rw [if_neg e] at this; exact hV.2 k hk T this
theorem img_33 {k n : Nat} {x : Wx} {Z : Zt} {Q : Option Value → Wx → Zt → Prop} {a b : Nat} {v : Int} {S : Ab} (hv : 0 ≤ v ∧ v < 3) (hI : OI x Z a S) (hb : x.2.1 (a + 13) v.toNat = some b) (o : Is10 x b) (h1 : a + 318 ≤ b) (h2 : b + 12 ≤ x.2.2.1) (h0 : (∀ i : Nat, 600 ≤ i → Z (b + 1) i = 0) ∧ ∀ r i : Nat, r < 8 → 26 ≤ i → Z (b + 4 + r) i = 0) (h : ∀ Z' : Zt, OI x Z' a (nImg S v) → Fi a x x Z Z' → Q (some (i_ 1)) x Z') : V mX11_image k n 33 [some (r_ a), some (i_ v)] [] x Z Q := by
  refine b_X11_image_33 hI.1 ⟨by omega, by omega, fun hn => (by rw [hb] at hn; cases hn), fun b2 hb2 => ?_⟩
  have : b2 = b := by rw [hb] at hb2; cases hb2; rfl
  subst this
  refine ⟨o, S.nw, Or.inl (by omega), hI.2.2.2.1, hI.2.2.2.2.2.1.1, h0, fun Z1 hz => ?_⟩
  have := img_done hv hI hb o h1 h2 hz.1 hz.2
  exact h Z1 this.1 this.2

theorem sp_X11_image {k n : Nat} {x : Wx} {Z : Zt} {Q : Option Value → Wx → Zt → Prop} {a : Nat} {v : Int} {S : Ab} (hI : OI x Z a S) (hx : a + 318 ≤ x.2.2.1) (hv : Rg v) (h : ∀ (x' : Wx) (Z' : Zt), OI x' Z' a (nImg S v) → Fi a x x' Z Z' → Q (some (i_ (aImg v))) x' Z') : V mX11_image (k + 12) (n + 825) 0 [some (r_ a), some (i_ v)] [] x Z Q := by
  have ho : ¬ (0 ≤ v ∧ v < 3) → Q (some (i_ 0)) x Z := fun c => by
    have := h x Z (by unfold nImg; rw [if_neg c]; exact hI) Fi.rf
    unfold aImg at this; rw [if_neg c] at this; exact this
  have hV := hI.2.2.2.2.2.1
  have hi := hI.2.2.2.2.1
  refine b_X11_image_0 hI.1 ⟨hv, fun c => b_X11_image_9 (ho (by omega)), fun c => ⟨fun c2 => ⟨fun hn => ?_, fun b hb => ?_⟩, fun c2 => b_X11_image_9 (ho (by omega))⟩⟩
  · -- a new Told
    have e1 : aImg v = 1 := by unfold aImg; rw [if_pos ⟨c, c2⟩]
    rw [e1] at h
    refine V_aload_n dX11_image_20 rfl (G_11_1 hI.1.1 hI.1.qR1 lf_11_16 dX11_image_21 (V_iload_n dX11_image_24 rfl ?_))
    have hs : (mk x (10, 0), rowZ Z x.2.2.1).1.2.2.1 = x.2.2.1 + 1 := rfl
    have hk : (mk x (10, 0), rowZ Z x.2.2.1).1.1 x.2.2.1 = some (10, 0) := by show newS _ _ _ _ = _; unfold newS; rw [if_pos rfl]
    refine V_new (k := k + 11) (n := n + 819) (t := 10) (q := (RX10, TX10, 6)) rfl lc_11_7 ln_10 lini_10 df_10 dX11_image_25 (V_dup dX11_image_28 rfl (V_callIN (k' := 11) (n' := 819) [] [r_ x.2.2.1, i_ v, r_ (a + 13)] okX10_init rfl rfl lmn_11_9 liX10_init (Nat.le_of_ble_eq_true rfl) (Nat.le_of_ble_eq_true rfl) (Nat.le_of_ble_eq_true rfl) (cat_of rfl) (Nat.le_of_ble_eq_true rfl) (by omega) (by omega) rfl dX11_image_29 (ci_10 (k := 0) (n := 0) (s := (mk x (10, 0), rowZ Z x.2.2.1)) hs hk ?_)))
    have o2 := mk_10 (s := (mk x (10, 0), rowZ Z x.2.2.1)) hs hk
    have low := fun (b : Nat) (hb : b < x.2.2.1) => rn_low (s := (mk x (10, 0), rowZ Z x.2.2.1)) hs hb op10
    have hc := rn_c (a := x.2.2.1) (s := (mk x (10, 0), rowZ Z x.2.2.1)) op10
    have hnx := rn_nxo (s := (mk x (10, 0), rowZ Z x.2.2.1)) hs (L := op10) (d := 12) (by decide +kernel)
    have z1 : (rn x.2.2.1 op10 (mk x (10, 0), rowZ Z x.2.2.1)).2 (x.2.2.1 + 1) = fun _ => 0 := rn_row (b := 1) hs (by decide +kernel)
    have z2 : ∀ r : Nat, r < 8 → (rn x.2.2.1 op10 (mk x (10, 0), rowZ Z x.2.2.1)).2 (x.2.2.1 + 4 + r) = fun _ => 0 := fun r hr => by
      rw [Nat.add_assoc]
      exact rn_row (b := 4 + r) hs ((by decide +kernel : ∀ r : Nat, r < 8 → zRow op10 (4 + r) = true) r hr)
    revert o2 low hc hnx z1 z2
    generalize rn x.2.2.1 op10 (mk x (10, 0), rowZ Z x.2.2.1) = w
    intro o2 low hc hnx z1 z2
    have lowk : ∀ b : Nat, b < x.2.2.1 → w.1.1 b = x.1 b ∧ w.1.2.1 b = x.2.1 b ∧ w.2 b = Z b := fun b hb => by
      obtain ⟨q1, q2, q3⟩ := low b hb
      refine ⟨q1.trans ?_, q2.trans (funext fun f => ?_), q3.trans (funext fun f => ?_)⟩
      · show newS _ _ _ b = _; unfold newS; rw [if_neg (by omega)]
      · show rowR _ _ b f = _; unfold rowR; rw [if_neg (by omega)]
      · show rowZ _ _ b f = _; unfold rowZ; rw [if_neg (by omega)]
    refine V_aastO (N := 3) (n0 := 0) (by rw [(lowk (a + 13) (by omega)).1]; exact hI.1.qK1) o2.1 c c2 (Nat.le_of_ble_eq_true rfl) dX11_image_32 ?_
    have er : ∀ b j : Nat, b ≠ a + 13 → upR w.1.2.1 (a + 13) v.toNat (some x.2.2.1) b j = w.1.2.1 b j := fun b j hb => by unfold upR; rw [if_neg (fun q => hb q.1)]
    have f : Fi a x (w.1.1, upR w.1.2.1 (a + 13) v.toNat (some x.2.2.1), w.1.2.2) Z w.2 := ⟨hc, by show x.2.2.1 ≤ w.1.2.2.1; omega, fun b hb => ⟨(lowk b (by omega)).1, (lowk b (by omega)).2.2⟩, fun b hb hne => funext fun j => (er b j hne).trans (by rw [(lowk b (by omega)).2.1])⟩
    have o3 : Is10 (w.1.1, upR w.1.2.1 (a + 13) v.toNat (some x.2.2.1), w.1.2.2) x.2.2.1 := o2.mv rfl (fun b j b1 _ _ => er b j (by omega))
    have rk : ∀ l : Nat, l < 3 → l ≠ v.toNat → upR w.1.2.1 (a + 13) v.toNat (some x.2.2.1) (a + 13) l = x.2.1 (a + 13) l := fun l _ hne => by
      unfold upR; rw [if_neg (fun q => hne q.2), (lowk (a + 13) (by omega)).2.1]
    have rv : upR w.1.2.1 (a + 13) v.toNat (some x.2.2.1) (a + 13) v.toNat = some x.2.2.1 := by unfold upR; rw [if_pos ⟨rfl, rfl⟩]
    have tk : ∀ (b : Nat) (T : Td), b + 12 ≤ x.2.2.1 → TdC Z b T → TdC w.2 b T := fun b T hb hT => hT.kept (fun q q1 q2 => (lowk q (by omega)).2.2)
    let T0 : Td := (w.2 (x.2.2.1 + 1), w.2 x.2.2.1 1, w.2 x.2.2.1 2, w.2 x.2.2.1 3, w.2 (x.2.2.1 + 2), fun r => w.2 (x.2.2.1 + 4 + r))
    have hT0 : TdC w.2 x.2.2.1 T0 := ⟨rfl, ⟨rfl, rfl, rfl⟩, fun _ _ => rfl, fun _ _ => rfl⟩
    -- the images as they lie now, the new one with what it holds
    have hF : ∀ Z' : Zt, TdC Z' x.2.2.1 S.nw → Oth w.2 Z' (fun b => x.2.2.1 ≤ b ∧ b < x.2.2.1 + 12) → OI (w.1.1, upR w.1.2.1 (a + 13) v.toNat (some x.2.2.1), w.1.2.2) Z' a (nImg S v) ∧ Fi a x (w.1.1, upR w.1.2.1 (a + 13) v.toNat (some x.2.2.1), w.1.2.2) Z Z' := fun Z' hT ho2 => by
      have f2 : Fi a x (w.1.1, upR w.1.2.1 (a + 13) v.toNat (some x.2.2.1), w.1.2.2) Z Z' := ⟨f.1, f.2.1, fun b hb => ⟨(f.2.2.1 b hb).1, (ho2 b (by omega)).trans (f.2.2.1 b hb).2⟩, f.2.2.2⟩
      unfold nImg; rw [if_pos ⟨c, c2⟩]
      refine ⟨hI.fi f2 ⟨fun l hl hn2 => ?_, fun l b hl hb => ?_, fun l m b d hl hm hne hb hd => ?_⟩ ⟨hV.1, fun l hl T hT2 => ?_⟩, f2⟩
      · show (if l = v.toNat then _ else _) = _
        by_cases e : l = v.toNat
        · rw [e] at hn2; rw [show upR w.1.2.1 (a + 13) v.toNat (some x.2.2.1) (a + 13) v.toNat = none from hn2] at rv; cases rv
        · rw [if_neg e]; exact hi.1 l hl ((rk l hl e).symm.trans hn2)
      · show _ ∧ _ ∧ _ ∧ ∃ T : Td, (if l = v.toNat then some S.nw else S.im l) = some T ∧ _
        by_cases e : l = v.toNat
        · rw [e] at hb
          have eb : b = x.2.2.1 := by have := rv.symm.trans hb; cases this; rfl
          subst eb
          exact ⟨o3, hx, by show x.2.2.1 + 12 ≤ w.1.2.2.1; omega, S.nw, if_pos e, hT⟩
        · obtain ⟨g1, g2, g3, T, g4, g5⟩ := hi.2.1 l b hl ((rk l hl e).symm.trans hb)
          refine ⟨g1.gr (fun q q1 q2 => (lowk q (by omega)).1) (fun q j q1 q2 _ => (er q j (by omega)).trans (by rw [(lowk q (by omega)).2.1])), g2, by show b + 12 ≤ w.1.2.2.1; omega, T, (if_neg e).trans g4, (tk b T g3 g5).kept (fun q q1 q2 => ho2 q (by omega))⟩
      · by_cases e : l = v.toNat
        · rw [e] at hb
          have eb : b = x.2.2.1 := by have := rv.symm.trans hb; cases this; rfl
          have g := (hi.2.1 m d hm ((rk m hm (by omega)).symm.trans hd)).2.2.1
          omega
        · by_cases e2 : m = v.toNat
          · rw [e2] at hd
            have eb : d = x.2.2.1 := by have := rv.symm.trans hd; cases this; rfl
            have g := (hi.2.1 l b hl ((rk l hl e).symm.trans hb)).2.2.1
            omega
          · exact hi.2.2 l m b d hl hm hne ((rk l hl e).symm.trans hb) ((rk m hm e2).symm.trans hd)
      · have h9 : (if l = v.toNat then some S.nw else S.im l) = some T := hT2
        by_cases e : l = v.toNat
        · rw [if_pos e] at h9; cases h9; exact hV.1
        · rw [if_neg e] at h9; exact hV.2 l hl T h9
    have o11 : Is11 (w.1.1, upR w.1.2.1 (a + 13) v.toNat (some x.2.2.1), w.1.2.2) a := hI.1.gr (fun b b1 b2 => (f.2.2.1 b (by omega)).1) (fun b j b1 b2 b3 => by rw [f.2.2.2 b (by omega) (by omega)])
    refine b_X11_image_33 o11 ⟨c, c2, fun hn2 => (by rw [show upR w.1.2.1 (a + 13) v.toNat (some x.2.2.1) (a + 13) v.toNat = none from hn2] at rv; cases rv), fun b2 hb2 => ?_⟩
    have eb : b2 = x.2.2.1 := by have := rv.symm.trans hb2; cases this; rfl
    subst eb
    refine ⟨o3, S.nw, Or.inl (by omega), hI.2.2.2.1.kept (fun b b1 b2 => (f.2.2.1 b (by omega)).2), hV.1, ⟨fun i _ => by rw [z1], fun r i hr _ => by rw [z2 r hr]⟩, fun Z1 hz => ?_⟩
    have := hF Z1 hz.1 hz.2
    exact h _ Z1 this.1 this.2
  · obtain ⟨i1, i2, i3, T, i4, i5⟩ := hi.2.1 v.toNat b (by omega) hb
    have hT := hV.2 v.toNat (by omega) T i4
    refine ⟨i1, img_33 ⟨c, c2⟩ hI hb i1 i2 i3 ⟨fun i hi => ?_, fun r i hr hi => ?_⟩ (fun Z' g1 g2 => ?_)⟩
    · rw [i5.1]; exact hT.1.2.1 i hi
    · rw [i5.2.2.2 r hr]; exact hT.1.2.2 r i hr hi
    · have := h x Z' g1 g2
      unfold aImg at this; rw [if_pos ⟨c, c2⟩] at this; exact this
