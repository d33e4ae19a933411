/-! ===== p = 13: the run ===== -/
set_option maxRecDepth 100000 in
theorem la_0_0 : lvA 0 0 = true := by decide +kernel
set_option maxRecDepth 100000 in
theorem la_0_1 : lvA 0 1 = true := by decide +kernel
set_option maxRecDepth 100000 in
theorem la_0_2 : lvA 0 2 = true := by decide +kernel
set_option maxRecDepth 100000 in
theorem la_0_3 : lvA 0 3 = true := by decide +kernel
set_option maxRecDepth 100000 in
theorem la_0_4 : lvA 0 4 = true := by decide +kernel
set_option maxRecDepth 100000 in
theorem la_0_5 : lvA 0 5 = true := by decide +kernel
set_option maxRecDepth 100000 in
theorem la_0_6 : lvA 0 6 = true := by decide +kernel
set_option maxRecDepth 100000 in
theorem la_0_7 : lvA 0 7 = true := by decide +kernel
set_option maxRecDepth 100000 in
theorem la_0_8 : lvA 0 8 = true := by decide +kernel
set_option maxRecDepth 100000 in
theorem la_0_9 : lvA 0 9 = true := by decide +kernel
set_option maxRecDepth 100000 in
theorem la_0_10 : lvA 0 10 = true := by decide +kernel
set_option maxRecDepth 100000 in
theorem la_0_11 : lvA 0 11 = true := by decide +kernel
set_option maxRecDepth 100000 in
theorem la_0_12 : lvA 0 12 = true := by decide +kernel
theorem la_0 : ∀ b : Nat, b < 13 → lvA 0 b = true := fun b hb => by
  rcases (show b = 0 ∨ b = 1 ∨ b = 2 ∨ b = 3 ∨ b = 4 ∨ b = 5 ∨ b = 6 ∨ b = 7 ∨ b = 8 ∨ b = 9 ∨ b = 10 ∨ b = 11 ∨ b = 12 by omega) with rfl | rfl | rfl | rfl | rfl | rfl | rfl | rfl | rfl | rfl | rfl | rfl | rfl
  · exact la_0_0
  · exact la_0_1
  · exact la_0_2
  · exact la_0_3
  · exact la_0_4
  · exact la_0_5
  · exact la_0_6
  · exact la_0_7
  · exact la_0_8
  · exact la_0_9
  · exact la_0_10
  · exact la_0_11
  · exact la_0_12
set_option maxRecDepth 100000 in
theorem la_1_0 : lvA 1 0 = true := by decide +kernel
set_option maxRecDepth 100000 in
theorem la_1_1 : lvA 1 1 = true := by decide +kernel
set_option maxRecDepth 100000 in
theorem la_1_2 : lvA 1 2 = true := by decide +kernel
set_option maxRecDepth 100000 in
theorem la_1_3 : lvA 1 3 = true := by decide +kernel
set_option maxRecDepth 100000 in
theorem la_1_4 : lvA 1 4 = true := by decide +kernel
set_option maxRecDepth 100000 in
theorem la_1_5 : lvA 1 5 = true := by decide +kernel
set_option maxRecDepth 100000 in
theorem la_1_6 : lvA 1 6 = true := by decide +kernel
set_option maxRecDepth 100000 in
theorem la_1_7 : lvA 1 7 = true := by decide +kernel
set_option maxRecDepth 100000 in
theorem la_1_8 : lvA 1 8 = true := by decide +kernel
set_option maxRecDepth 100000 in
theorem la_1_9 : lvA 1 9 = true := by decide +kernel
set_option maxRecDepth 100000 in
theorem la_1_10 : lvA 1 10 = true := by decide +kernel
set_option maxRecDepth 100000 in
theorem la_1_11 : lvA 1 11 = true := by decide +kernel
set_option maxRecDepth 100000 in
theorem la_1_12 : lvA 1 12 = true := by decide +kernel
theorem la_1 : ∀ b : Nat, b < 13 → lvA 1 b = true := fun b hb => by
  rcases (show b = 0 ∨ b = 1 ∨ b = 2 ∨ b = 3 ∨ b = 4 ∨ b = 5 ∨ b = 6 ∨ b = 7 ∨ b = 8 ∨ b = 9 ∨ b = 10 ∨ b = 11 ∨ b = 12 by omega) with rfl | rfl | rfl | rfl | rfl | rfl | rfl | rfl | rfl | rfl | rfl | rfl | rfl
  · exact la_1_0
  · exact la_1_1
  · exact la_1_2
  · exact la_1_3
  · exact la_1_4
  · exact la_1_5
  · exact la_1_6
  · exact la_1_7
  · exact la_1_8
  · exact la_1_9
  · exact la_1_10
  · exact la_1_11
  · exact la_1_12
set_option maxRecDepth 100000 in
theorem la_2_0 : lvA 2 0 = true := by decide +kernel
set_option maxRecDepth 100000 in
theorem la_2_1 : lvA 2 1 = true := by decide +kernel
set_option maxRecDepth 100000 in
theorem la_2_2 : lvA 2 2 = true := by decide +kernel
set_option maxRecDepth 100000 in
theorem la_2_3 : lvA 2 3 = true := by decide +kernel
set_option maxRecDepth 100000 in
theorem la_2_4 : lvA 2 4 = true := by decide +kernel
set_option maxRecDepth 100000 in
theorem la_2_5 : lvA 2 5 = true := by decide +kernel
set_option maxRecDepth 100000 in
theorem la_2_6 : lvA 2 6 = true := by decide +kernel
set_option maxRecDepth 100000 in
theorem la_2_7 : lvA 2 7 = true := by decide +kernel
set_option maxRecDepth 100000 in
theorem la_2_8 : lvA 2 8 = true := by decide +kernel
set_option maxRecDepth 100000 in
theorem la_2_9 : lvA 2 9 = true := by decide +kernel
set_option maxRecDepth 100000 in
theorem la_2_10 : lvA 2 10 = true := by decide +kernel
set_option maxRecDepth 100000 in
theorem la_2_11 : lvA 2 11 = true := by decide +kernel
set_option maxRecDepth 100000 in
theorem la_2_12 : lvA 2 12 = true := by decide +kernel
theorem la_2 : ∀ b : Nat, b < 13 → lvA 2 b = true := fun b hb => by
  rcases (show b = 0 ∨ b = 1 ∨ b = 2 ∨ b = 3 ∨ b = 4 ∨ b = 5 ∨ b = 6 ∨ b = 7 ∨ b = 8 ∨ b = 9 ∨ b = 10 ∨ b = 11 ∨ b = 12 by omega) with rfl | rfl | rfl | rfl | rfl | rfl | rfl | rfl | rfl | rfl | rfl | rfl | rfl
  · exact la_2_0
  · exact la_2_1
  · exact la_2_2
  · exact la_2_3
  · exact la_2_4
  · exact la_2_5
  · exact la_2_6
  · exact la_2_7
  · exact la_2_8
  · exact la_2_9
  · exact la_2_10
  · exact la_2_11
  · exact la_2_12
set_option maxRecDepth 100000 in
theorem la_3_0 : lvA 3 0 = true := by decide +kernel
set_option maxRecDepth 100000 in
theorem la_3_1 : lvA 3 1 = true := by decide +kernel
set_option maxRecDepth 100000 in
theorem la_3_2 : lvA 3 2 = true := by decide +kernel
set_option maxRecDepth 100000 in
theorem la_3_3 : lvA 3 3 = true := by decide +kernel
set_option maxRecDepth 100000 in
theorem la_3_4 : lvA 3 4 = true := by decide +kernel
set_option maxRecDepth 100000 in
theorem la_3_5 : lvA 3 5 = true := by decide +kernel
set_option maxRecDepth 100000 in
theorem la_3_6 : lvA 3 6 = true := by decide +kernel
set_option maxRecDepth 100000 in
theorem la_3_7 : lvA 3 7 = true := by decide +kernel
set_option maxRecDepth 100000 in
theorem la_3_8 : lvA 3 8 = true := by decide +kernel
set_option maxRecDepth 100000 in
theorem la_3_9 : lvA 3 9 = true := by decide +kernel
set_option maxRecDepth 100000 in
theorem la_3_10 : lvA 3 10 = true := by decide +kernel
set_option maxRecDepth 100000 in
theorem la_3_11 : lvA 3 11 = true := by decide +kernel
set_option maxRecDepth 100000 in
theorem la_3_12 : lvA 3 12 = true := by decide +kernel
theorem la_3 : ∀ b : Nat, b < 13 → lvA 3 b = true := fun b hb => by
  rcases (show b = 0 ∨ b = 1 ∨ b = 2 ∨ b = 3 ∨ b = 4 ∨ b = 5 ∨ b = 6 ∨ b = 7 ∨ b = 8 ∨ b = 9 ∨ b = 10 ∨ b = 11 ∨ b = 12 by omega) with rfl | rfl | rfl | rfl | rfl | rfl | rfl | rfl | rfl | rfl | rfl | rfl | rfl
  · exact la_3_0
  · exact la_3_1
  · exact la_3_2
  · exact la_3_3
  · exact la_3_4
  · exact la_3_5
  · exact la_3_6
  · exact la_3_7
  · exact la_3_8
  · exact la_3_9
  · exact la_3_10
  · exact la_3_11
  · exact la_3_12
set_option maxRecDepth 100000 in
theorem la_4_0 : lvA 4 0 = true := by decide +kernel
set_option maxRecDepth 100000 in
theorem la_4_1 : lvA 4 1 = true := by decide +kernel
set_option maxRecDepth 100000 in
theorem la_4_2 : lvA 4 2 = true := by decide +kernel
set_option maxRecDepth 100000 in
theorem la_4_3 : lvA 4 3 = true := by decide +kernel
set_option maxRecDepth 100000 in
theorem la_4_4 : lvA 4 4 = true := by decide +kernel
set_option maxRecDepth 100000 in
theorem la_4_5 : lvA 4 5 = true := by decide +kernel
set_option maxRecDepth 100000 in
theorem la_4_6 : lvA 4 6 = true := by decide +kernel
set_option maxRecDepth 100000 in
theorem la_4_7 : lvA 4 7 = true := by decide +kernel
set_option maxRecDepth 100000 in
theorem la_4_8 : lvA 4 8 = true := by decide +kernel
set_option maxRecDepth 100000 in
theorem la_4_9 : lvA 4 9 = true := by decide +kernel
set_option maxRecDepth 100000 in
theorem la_4_10 : lvA 4 10 = true := by decide +kernel
set_option maxRecDepth 100000 in
theorem la_4_11 : lvA 4 11 = true := by decide +kernel
set_option maxRecDepth 100000 in
theorem la_4_12 : lvA 4 12 = true := by decide +kernel
theorem la_4 : ∀ b : Nat, b < 13 → lvA 4 b = true := fun b hb => by
  rcases (show b = 0 ∨ b = 1 ∨ b = 2 ∨ b = 3 ∨ b = 4 ∨ b = 5 ∨ b = 6 ∨ b = 7 ∨ b = 8 ∨ b = 9 ∨ b = 10 ∨ b = 11 ∨ b = 12 by omega) with rfl | rfl | rfl | rfl | rfl | rfl | rfl | rfl | rfl | rfl | rfl | rfl | rfl
  · exact la_4_0
  · exact la_4_1
  · exact la_4_2
  · exact la_4_3
  · exact la_4_4
  · exact la_4_5
  · exact la_4_6
  · exact la_4_7
  · exact la_4_8
  · exact la_4_9
  · exact la_4_10
  · exact la_4_11
  · exact la_4_12
set_option maxRecDepth 100000 in
theorem la_5_0 : lvA 5 0 = true := by decide +kernel
set_option maxRecDepth 100000 in
theorem la_5_1 : lvA 5 1 = true := by decide +kernel
set_option maxRecDepth 100000 in
theorem la_5_2 : lvA 5 2 = true := by decide +kernel
set_option maxRecDepth 100000 in
theorem la_5_3 : lvA 5 3 = true := by decide +kernel
set_option maxRecDepth 100000 in
theorem la_5_4 : lvA 5 4 = true := by decide +kernel
set_option maxRecDepth 100000 in
theorem la_5_5 : lvA 5 5 = true := by decide +kernel
set_option maxRecDepth 100000 in
theorem la_5_6 : lvA 5 6 = true := by decide +kernel
set_option maxRecDepth 100000 in
theorem la_5_7 : lvA 5 7 = true := by decide +kernel
set_option maxRecDepth 100000 in
theorem la_5_8 : lvA 5 8 = true := by decide +kernel
set_option maxRecDepth 100000 in
theorem la_5_9 : lvA 5 9 = true := by decide +kernel
set_option maxRecDepth 100000 in
theorem la_5_10 : lvA 5 10 = true := by decide +kernel
set_option maxRecDepth 100000 in
theorem la_5_11 : lvA 5 11 = true := by decide +kernel
set_option maxRecDepth 100000 in
theorem la_5_12 : lvA 5 12 = true := by decide +kernel
theorem la_5 : ∀ b : Nat, b < 13 → lvA 5 b = true := fun b hb => by
  rcases (show b = 0 ∨ b = 1 ∨ b = 2 ∨ b = 3 ∨ b = 4 ∨ b = 5 ∨ b = 6 ∨ b = 7 ∨ b = 8 ∨ b = 9 ∨ b = 10 ∨ b = 11 ∨ b = 12 by omega) with rfl | rfl | rfl | rfl | rfl | rfl | rfl | rfl | rfl | rfl | rfl | rfl | rfl
  · exact la_5_0
  · exact la_5_1
  · exact la_5_2
  · exact la_5_3
  · exact la_5_4
  · exact la_5_5
  · exact la_5_6
  · exact la_5_7
  · exact la_5_8
  · exact la_5_9
  · exact la_5_10
  · exact la_5_11
  · exact la_5_12
set_option maxRecDepth 100000 in
theorem la_6_0 : lvA 6 0 = true := by decide +kernel
set_option maxRecDepth 100000 in
theorem la_6_1 : lvA 6 1 = true := by decide +kernel
set_option maxRecDepth 100000 in
theorem la_6_2 : lvA 6 2 = true := by decide +kernel
set_option maxRecDepth 100000 in
theorem la_6_3 : lvA 6 3 = true := by decide +kernel
set_option maxRecDepth 100000 in
theorem la_6_4 : lvA 6 4 = true := by decide +kernel
set_option maxRecDepth 100000 in
theorem la_6_5 : lvA 6 5 = true := by decide +kernel
set_option maxRecDepth 100000 in
theorem la_6_6 : lvA 6 6 = true := by decide +kernel
set_option maxRecDepth 100000 in
theorem la_6_7 : lvA 6 7 = true := by decide +kernel
set_option maxRecDepth 100000 in
theorem la_6_8 : lvA 6 8 = true := by decide +kernel
set_option maxRecDepth 100000 in
theorem la_6_9 : lvA 6 9 = true := by decide +kernel
set_option maxRecDepth 100000 in
theorem la_6_10 : lvA 6 10 = true := by decide +kernel
set_option maxRecDepth 100000 in
theorem la_6_11 : lvA 6 11 = true := by decide +kernel
set_option maxRecDepth 100000 in
theorem la_6_12 : lvA 6 12 = true := by decide +kernel
theorem la_6 : ∀ b : Nat, b < 13 → lvA 6 b = true := fun b hb => by
  rcases (show b = 0 ∨ b = 1 ∨ b = 2 ∨ b = 3 ∨ b = 4 ∨ b = 5 ∨ b = 6 ∨ b = 7 ∨ b = 8 ∨ b = 9 ∨ b = 10 ∨ b = 11 ∨ b = 12 by omega) with rfl | rfl | rfl | rfl | rfl | rfl | rfl | rfl | rfl | rfl | rfl | rfl | rfl
  · exact la_6_0
  · exact la_6_1
  · exact la_6_2
  · exact la_6_3
  · exact la_6_4
  · exact la_6_5
  · exact la_6_6
  · exact la_6_7
  · exact la_6_8
  · exact la_6_9
  · exact la_6_10
  · exact la_6_11
  · exact la_6_12
set_option maxRecDepth 100000 in
theorem la_7_0 : lvA 7 0 = true := by decide +kernel
set_option maxRecDepth 100000 in
theorem la_7_1 : lvA 7 1 = true := by decide +kernel
set_option maxRecDepth 100000 in
theorem la_7_2 : lvA 7 2 = true := by decide +kernel
set_option maxRecDepth 100000 in
theorem la_7_3 : lvA 7 3 = true := by decide +kernel
set_option maxRecDepth 100000 in
theorem la_7_4 : lvA 7 4 = true := by decide +kernel
set_option maxRecDepth 100000 in
theorem la_7_5 : lvA 7 5 = true := by decide +kernel
set_option maxRecDepth 100000 in
theorem la_7_6 : lvA 7 6 = true := by decide +kernel
set_option maxRecDepth 100000 in
theorem la_7_7 : lvA 7 7 = true := by decide +kernel
set_option maxRecDepth 100000 in
theorem la_7_8 : lvA 7 8 = true := by decide +kernel
set_option maxRecDepth 100000 in
theorem la_7_9 : lvA 7 9 = true := by decide +kernel
set_option maxRecDepth 100000 in
theorem la_7_10 : lvA 7 10 = true := by decide +kernel
set_option maxRecDepth 100000 in
theorem la_7_11 : lvA 7 11 = true := by decide +kernel
set_option maxRecDepth 100000 in
theorem la_7_12 : lvA 7 12 = true := by decide +kernel
theorem la_7 : ∀ b : Nat, b < 13 → lvA 7 b = true := fun b hb => by
  rcases (show b = 0 ∨ b = 1 ∨ b = 2 ∨ b = 3 ∨ b = 4 ∨ b = 5 ∨ b = 6 ∨ b = 7 ∨ b = 8 ∨ b = 9 ∨ b = 10 ∨ b = 11 ∨ b = 12 by omega) with rfl | rfl | rfl | rfl | rfl | rfl | rfl | rfl | rfl | rfl | rfl | rfl | rfl
  · exact la_7_0
  · exact la_7_1
  · exact la_7_2
  · exact la_7_3
  · exact la_7_4
  · exact la_7_5
  · exact la_7_6
  · exact la_7_7
  · exact la_7_8
  · exact la_7_9
  · exact la_7_10
  · exact la_7_11
  · exact la_7_12
set_option maxRecDepth 100000 in
theorem la_8_0 : lvA 8 0 = true := by decide +kernel
set_option maxRecDepth 100000 in
theorem la_8_1 : lvA 8 1 = true := by decide +kernel
set_option maxRecDepth 100000 in
theorem la_8_2 : lvA 8 2 = true := by decide +kernel
set_option maxRecDepth 100000 in
theorem la_8_3 : lvA 8 3 = true := by decide +kernel
set_option maxRecDepth 100000 in
theorem la_8_4 : lvA 8 4 = true := by decide +kernel
set_option maxRecDepth 100000 in
theorem la_8_5 : lvA 8 5 = true := by decide +kernel
set_option maxRecDepth 100000 in
theorem la_8_6 : lvA 8 6 = true := by decide +kernel
set_option maxRecDepth 100000 in
theorem la_8_7 : lvA 8 7 = true := by decide +kernel
set_option maxRecDepth 100000 in
theorem la_8_8 : lvA 8 8 = true := by decide +kernel
set_option maxRecDepth 100000 in
theorem la_8_9 : lvA 8 9 = true := by decide +kernel
set_option maxRecDepth 100000 in
theorem la_8_10 : lvA 8 10 = true := by decide +kernel
set_option maxRecDepth 100000 in
theorem la_8_11 : lvA 8 11 = true := by decide +kernel
set_option maxRecDepth 100000 in
theorem la_8_12 : lvA 8 12 = true := by decide +kernel
theorem la_8 : ∀ b : Nat, b < 13 → lvA 8 b = true := fun b hb => by
  rcases (show b = 0 ∨ b = 1 ∨ b = 2 ∨ b = 3 ∨ b = 4 ∨ b = 5 ∨ b = 6 ∨ b = 7 ∨ b = 8 ∨ b = 9 ∨ b = 10 ∨ b = 11 ∨ b = 12 by omega) with rfl | rfl | rfl | rfl | rfl | rfl | rfl | rfl | rfl | rfl | rfl | rfl | rfl
  · exact la_8_0
  · exact la_8_1
  · exact la_8_2
  · exact la_8_3
  · exact la_8_4
  · exact la_8_5
  · exact la_8_6
  · exact la_8_7
  · exact la_8_8
  · exact la_8_9
  · exact la_8_10
  · exact la_8_11
  · exact la_8_12
set_option maxRecDepth 100000 in
theorem la_9_0 : lvA 9 0 = true := by decide +kernel
set_option maxRecDepth 100000 in
theorem la_9_1 : lvA 9 1 = true := by decide +kernel
set_option maxRecDepth 100000 in
theorem la_9_2 : lvA 9 2 = true := by decide +kernel
set_option maxRecDepth 100000 in
theorem la_9_3 : lvA 9 3 = true := by decide +kernel
set_option maxRecDepth 100000 in
theorem la_9_4 : lvA 9 4 = true := by decide +kernel
set_option maxRecDepth 100000 in
theorem la_9_5 : lvA 9 5 = true := by decide +kernel
set_option maxRecDepth 100000 in
theorem la_9_6 : lvA 9 6 = true := by decide +kernel
set_option maxRecDepth 100000 in
theorem la_9_7 : lvA 9 7 = true := by decide +kernel
set_option maxRecDepth 100000 in
theorem la_9_8 : lvA 9 8 = true := by decide +kernel
set_option maxRecDepth 100000 in
theorem la_9_9 : lvA 9 9 = true := by decide +kernel
set_option maxRecDepth 100000 in
theorem la_9_10 : lvA 9 10 = true := by decide +kernel
set_option maxRecDepth 100000 in
theorem la_9_11 : lvA 9 11 = true := by decide +kernel
set_option maxRecDepth 100000 in
theorem la_9_12 : lvA 9 12 = true := by decide +kernel
theorem la_9 : ∀ b : Nat, b < 13 → lvA 9 b = true := fun b hb => by
  rcases (show b = 0 ∨ b = 1 ∨ b = 2 ∨ b = 3 ∨ b = 4 ∨ b = 5 ∨ b = 6 ∨ b = 7 ∨ b = 8 ∨ b = 9 ∨ b = 10 ∨ b = 11 ∨ b = 12 by omega) with rfl | rfl | rfl | rfl | rfl | rfl | rfl | rfl | rfl | rfl | rfl | rfl | rfl
  · exact la_9_0
  · exact la_9_1
  · exact la_9_2
  · exact la_9_3
  · exact la_9_4
  · exact la_9_5
  · exact la_9_6
  · exact la_9_7
  · exact la_9_8
  · exact la_9_9
  · exact la_9_10
  · exact la_9_11
  · exact la_9_12
set_option maxRecDepth 100000 in
theorem la_10_0 : lvA 10 0 = true := by decide +kernel
set_option maxRecDepth 100000 in
theorem la_10_1 : lvA 10 1 = true := by decide +kernel
set_option maxRecDepth 100000 in
theorem la_10_2 : lvA 10 2 = true := by decide +kernel
set_option maxRecDepth 100000 in
theorem la_10_3 : lvA 10 3 = true := by decide +kernel
set_option maxRecDepth 100000 in
theorem la_10_4 : lvA 10 4 = true := by decide +kernel
set_option maxRecDepth 100000 in
theorem la_10_5 : lvA 10 5 = true := by decide +kernel
set_option maxRecDepth 100000 in
theorem la_10_6 : lvA 10 6 = true := by decide +kernel
set_option maxRecDepth 100000 in
theorem la_10_7 : lvA 10 7 = true := by decide +kernel
set_option maxRecDepth 100000 in
theorem la_10_8 : lvA 10 8 = true := by decide +kernel
set_option maxRecDepth 100000 in
theorem la_10_9 : lvA 10 9 = true := by decide +kernel
set_option maxRecDepth 100000 in
theorem la_10_10 : lvA 10 10 = true := by decide +kernel
set_option maxRecDepth 100000 in
theorem la_10_11 : lvA 10 11 = true := by decide +kernel
set_option maxRecDepth 100000 in
theorem la_10_12 : lvA 10 12 = true := by decide +kernel
theorem la_10 : ∀ b : Nat, b < 13 → lvA 10 b = true := fun b hb => by
  rcases (show b = 0 ∨ b = 1 ∨ b = 2 ∨ b = 3 ∨ b = 4 ∨ b = 5 ∨ b = 6 ∨ b = 7 ∨ b = 8 ∨ b = 9 ∨ b = 10 ∨ b = 11 ∨ b = 12 by omega) with rfl | rfl | rfl | rfl | rfl | rfl | rfl | rfl | rfl | rfl | rfl | rfl | rfl
  · exact la_10_0
  · exact la_10_1
  · exact la_10_2
  · exact la_10_3
  · exact la_10_4
  · exact la_10_5
  · exact la_10_6
  · exact la_10_7
  · exact la_10_8
  · exact la_10_9
  · exact la_10_10
  · exact la_10_11
  · exact la_10_12
set_option maxRecDepth 100000 in
theorem la_11_0 : lvA 11 0 = true := by decide +kernel
set_option maxRecDepth 100000 in
theorem la_11_1 : lvA 11 1 = true := by decide +kernel
set_option maxRecDepth 100000 in
theorem la_11_2 : lvA 11 2 = true := by decide +kernel
set_option maxRecDepth 100000 in
theorem la_11_3 : lvA 11 3 = true := by decide +kernel
set_option maxRecDepth 100000 in
theorem la_11_4 : lvA 11 4 = true := by decide +kernel
set_option maxRecDepth 100000 in
theorem la_11_5 : lvA 11 5 = true := by decide +kernel
set_option maxRecDepth 100000 in
theorem la_11_6 : lvA 11 6 = true := by decide +kernel
set_option maxRecDepth 100000 in
theorem la_11_7 : lvA 11 7 = true := by decide +kernel
set_option maxRecDepth 100000 in
theorem la_11_8 : lvA 11 8 = true := by decide +kernel
set_option maxRecDepth 100000 in
theorem la_11_9 : lvA 11 9 = true := by decide +kernel
set_option maxRecDepth 100000 in
theorem la_11_10 : lvA 11 10 = true := by decide +kernel
set_option maxRecDepth 100000 in
theorem la_11_11 : lvA 11 11 = true := by decide +kernel
set_option maxRecDepth 100000 in
theorem la_11_12 : lvA 11 12 = true := by decide +kernel
theorem la_11 : ∀ b : Nat, b < 13 → lvA 11 b = true := fun b hb => by
  rcases (show b = 0 ∨ b = 1 ∨ b = 2 ∨ b = 3 ∨ b = 4 ∨ b = 5 ∨ b = 6 ∨ b = 7 ∨ b = 8 ∨ b = 9 ∨ b = 10 ∨ b = 11 ∨ b = 12 by omega) with rfl | rfl | rfl | rfl | rfl | rfl | rfl | rfl | rfl | rfl | rfl | rfl | rfl
  · exact la_11_0
  · exact la_11_1
  · exact la_11_2
  · exact la_11_3
  · exact la_11_4
  · exact la_11_5
  · exact la_11_6
  · exact la_11_7
  · exact la_11_8
  · exact la_11_9
  · exact la_11_10
  · exact la_11_11
  · exact la_11_12
set_option maxRecDepth 100000 in
theorem la_12_0 : lvA 12 0 = true := by decide +kernel
set_option maxRecDepth 100000 in
theorem la_12_1 : lvA 12 1 = true := by decide +kernel
set_option maxRecDepth 100000 in
theorem la_12_2 : lvA 12 2 = true := by decide +kernel
set_option maxRecDepth 100000 in
theorem la_12_3 : lvA 12 3 = true := by decide +kernel
set_option maxRecDepth 100000 in
theorem la_12_4 : lvA 12 4 = true := by decide +kernel
set_option maxRecDepth 100000 in
theorem la_12_5 : lvA 12 5 = true := by decide +kernel
set_option maxRecDepth 100000 in
theorem la_12_6 : lvA 12 6 = true := by decide +kernel
set_option maxRecDepth 100000 in
theorem la_12_7 : lvA 12 7 = true := by decide +kernel
set_option maxRecDepth 100000 in
theorem la_12_8 : lvA 12 8 = true := by decide +kernel
set_option maxRecDepth 100000 in
theorem la_12_9 : lvA 12 9 = true := by decide +kernel
set_option maxRecDepth 100000 in
theorem la_12_10 : lvA 12 10 = true := by decide +kernel
set_option maxRecDepth 100000 in
theorem la_12_11 : lvA 12 11 = true := by decide +kernel
set_option maxRecDepth 100000 in
theorem la_12_12 : lvA 12 12 = true := by decide +kernel
theorem la_12 : ∀ b : Nat, b < 13 → lvA 12 b = true := fun b hb => by
  rcases (show b = 0 ∨ b = 1 ∨ b = 2 ∨ b = 3 ∨ b = 4 ∨ b = 5 ∨ b = 6 ∨ b = 7 ∨ b = 8 ∨ b = 9 ∨ b = 10 ∨ b = 11 ∨ b = 12 by omega) with rfl | rfl | rfl | rfl | rfl | rfl | rfl | rfl | rfl | rfl | rfl | rfl | rfl
  · exact la_12_0
  · exact la_12_1
  · exact la_12_2
  · exact la_12_3
  · exact la_12_4
  · exact la_12_5
  · exact la_12_6
  · exact la_12_7
  · exact la_12_8
  · exact la_12_9
  · exact la_12_10
  · exact la_12_11
  · exact la_12_12
theorem la_all : ∀ a : Nat, a < 13 → ∀ b : Nat, b < 13 → lvA a b = true := fun a ha => by
  rcases (show a = 0 ∨ a = 1 ∨ a = 2 ∨ a = 3 ∨ a = 4 ∨ a = 5 ∨ a = 6 ∨ a = 7 ∨ a = 8 ∨ a = 9 ∨ a = 10 ∨ a = 11 ∨ a = 12 by omega) with rfl | rfl | rfl | rfl | rfl | rfl | rfl | rfl | rfl | rfl | rfl | rfl | rfl
  · exact la_0
  · exact la_1
  · exact la_2
  · exact la_3
  · exact la_4
  · exact la_5
  · exact la_6
  · exact la_7
  · exact la_8
  · exact la_9
  · exact la_10
  · exact la_11
  · exact la_12
