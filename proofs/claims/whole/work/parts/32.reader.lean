/-! ===== the reader: its states as functions ===== -/
def bI (b : Bool) : Int := if b = true then 1 else 0
theorem bI_01 (b : Bool) : bI b = 0 ∨ bI b = 1 := by cases b <;> simp [bI]
theorem bI_rg (b : Bool) : Rg (bI b) := by cases b <;> exact ⟨by decide, by decide⟩
theorem bI_0 {b : Bool} (h : bI b = 0) : b = false := by cases b <;> simp [bI] at h ⊢
theorem bI_1 {b : Bool} (h : bI b ≠ 0) : b = true := by cases b <;> simp [bI] at h ⊢
def blk (c : Int) : Bool := decide (c = 10 ∨ c = 32)
def ltr (c : Int) : Bool := decide (97 ≤ c ∧ c ≤ 122)
def dgt (c : Int) : Bool := decide (48 ≤ c ∧ c ≤ 57)
/-- the first place from p on, of m places, whose sign is none of c -/
def wh (c : Int → Bool) (s : Nat → Int) : Nat → Nat → Nat
  | 0, p => p
  | m + 1, p => if c (s p) = true then wh c s m (p + 1) else p
theorem wh_le (c : Int → Bool) (s : Nat → Int) : ∀ m p : Nat, p ≤ wh c s m p ∧ wh c s m p ≤ p + m
  | 0, p => ⟨Nat.le_refl p, Nat.le_refl p⟩
  | m + 1, p => by
    unfold wh
    have := wh_le c s m (p + 1)
    split <;> omega
theorem wh_in (c : Int → Bool) (s : Nat → Int) : ∀ m p i : Nat, p ≤ i → i < wh c s m p → c (s i) = true
  | 0, p, i, h, g => by unfold wh at g; omega
  | m + 1, p, i, h, g => by
    unfold wh at g
    by_cases cc : c (s p) = true
    · rw [if_pos cc] at g
      by_cases e : i = p
      · rw [e]; exact cc
      · exact wh_in c s m (p + 1) i (by omega) g
    · rw [if_neg cc] at g; omega
theorem wh_out (c : Int → Bool) (s : Nat → Int) : ∀ m p : Nat, wh c s m p < p + m → c (s (wh c s m p)) = false
  | 0, p, h => by unfold wh at h; omega
  | m + 1, p, h => by
    unfold wh at h ⊢
    by_cases cc : c (s p) = true
    · rw [if_pos cc] at h ⊢
      exact wh_out c s m (p + 1) (by omega)
    · rw [if_neg cc]
      cases hh : c (s p)
      · rfl
      · exact absurd hh cc
theorem wh_first (c : Int → Bool) (s : Nat → Int) {m p : Nat} (hm : 0 < m) (h : c (s p) = true) : p < wh c s m p := by
  cases m with
  | zero => omega
  | succ m =>
    unfold wh
    rw [if_pos h]
    have := wh_le c s m (p + 1)
    omega
def upf (f : Nat → Int) (i : Nat) (v : Int) : Nat → Int := fun j => if j = i then v else f j
def setR (Z : Zt) (a : Nat) (g : Nat → Int) : Zt := fun b => if b = a then g else Z b
theorem setR_at (Z : Zt) (a : Nat) (g : Nat → Int) : setR Z a g a = g := if_pos rfl
theorem setR_ne (Z : Zt) {a b : Nat} (g : Nat → Int) (h : b ≠ a) : setR Z a g b = Z b := if_neg h
theorem setR_self (Z : Zt) (a : Nat) : setR Z a (Z a) = Z := funext fun b => by
  unfold setR
  by_cases h : b = a
  · rw [if_pos h, h]
  · rw [if_neg h]
theorem setR_two (Z : Zt) (a : Nat) (g f : Nat → Int) : setR (setR Z a g) a f = setR Z a f := funext fun b => by
  unfold setR
  by_cases h : b = a
  · rw [if_pos h, if_pos h]
  · rw [if_neg h, if_neg h, if_neg h]
theorem up_setR (Z : Zt) (a : Nat) (g : Nat → Int) (i : Nat) (v : Int) : up (setR Z a g) a i v = setR Z a (upf g i v) := by
  funext b j
  unfold up setR upf
  by_cases h : b = a
  · by_cases hj : j = i
    · rw [if_pos ⟨h, hj⟩, if_pos h, if_pos hj]
    · rw [if_neg (fun e => hj e.2), if_pos h, if_pos h, if_neg hj]
  · rw [if_neg (fun e => h e.1), if_neg h, if_neg h]
theorem up_asR (Z : Zt) (a i : Nat) (v : Int) : up Z a i v = setR Z a (upf (Z a) i v) := by
  have := up_setR Z a (Z a) i v
  rw [setR_self] at this
  exact this
/-- where the next token begins, what it is, where it ends; of n signs, from p on -/
def tokQ (s : Nat → Int) (n p : Nat) : Nat := wh blk s (n - p) p
def tokK (s : Nat → Int) (n q : Nat) : Int := if n ≤ q then 0 else if ltr (s q) = true then 1 else if dgt (s q) = true then (if wh dgt s (n - q) q ≤ q + 2 then 2 else 5) else if s q = 45 then 3 else if s q = 59 then 4 else 5
def tokE (s : Nat → Int) (n q : Nat) : Nat := if n ≤ q then q else if ltr (s q) = true then wh ltr s (n - q) q else if dgt (s q) = true then wh dgt s (n - q) q else q + 1
def nx3 (f : Nat → Int) (e k q : Int) : Nat → Int := fun j => if j = 5 then e else if j = 6 then k else if j = 7 then q else f j
/-- fields: 1 fault, 2 place, 4 length, 5 position, 6 kind, 7 start -/
def nxF (s : Nat → Int) (f : Nat → Int) : Nat → Int := if f 1 = 1 then f else nx3 f (tokE s (f 4).toNat (tokQ s (f 4).toNat (f 5).toNat)) (tokK s (f 4).toNat (tokQ s (f 4).toNat (f 5).toNat)) (tokQ s (f 4).toNat (f 5).toNat)
def stopF (f : Nat → Int) : Nat → Int := upf (if f 1 = 1 then f else upf (upf f 1 1) 2 (f 7)) 6 5
def noteF (w : Int) (f : Nat → Int) : Nat → Int := if f 1 = 0 then upf (upf f 1 w) 2 (f 7) else f
/-- the number in s from p on, of m digits -/
def vl10 (s : Nat → Int) : Nat → Nat → Int → Int
  | 0, _, a => a
  | m + 1, p, a => vl10 s m (p + 1) (10 * a + s p - 48)
def valF (s f : Nat → Int) : Int := vl10 s ((f 5).toNat - (f 7).toNat) (f 7).toNat 0
def isW (s f : Nat → Int) (j : Nat) : Bool := decide (f 6 = 1) && (decide (f 5 - f 7 = (wd j).length) && (List.range (wd j).length).all (fun i => decide (s ((f 7).toNat + i) = (wd j).getD i 0)))
theorem isW_iff (s f : Nat → Int) (j : Nat) : isW s f j = true ↔ f 6 = 1 ∧ f 5 - f 7 = (wd j).length ∧ ∀ i : Nat, i < (wd j).length → s ((f 7).toNat + i) = (wd j).getD i 0 := by
  unfold isW
  simp only [Bool.and_eq_true, decide_eq_true_eq, List.all_eq_true, List.mem_range]
def BR (s : Nat → Int) : Prop := ∀ i : Nat, i < 600 → -128 ≤ s i ∧ s i < 128
def RInv (s f : Nat → Int) : Prop := (0 ≤ f 4 ∧ f 4 ≤ 600) ∧ (0 ≤ f 7 ∧ f 7 ≤ f 5 ∧ f 5 ≤ f 4) ∧ (0 ≤ f 1 ∧ f 1 ≤ 3) ∧ (0 ≤ f 6 ∧ f 6 ≤ 5) ∧ (f 6 = 2 → f 5 ≤ f 7 + 2 ∧ ∀ i : Nat, f 7 ≤ i → (i : Int) < f 5 → dgt (s i) = true)
def NInv (f : Nat → Int) : Prop := (0 ≤ f 4 ∧ f 4 ≤ 600) ∧ (0 ≤ f 5 ∧ f 5 ≤ f 4) ∧ (0 ≤ f 1 ∧ f 1 ≤ 3)
theorem RInv.n {s f : Nat → Int} (h : RInv s f) : NInv f := ⟨h.1, ⟨by have := h.2.1; omega, by have := h.2.1; omega⟩, h.2.2.1⟩
theorem tok_ok (s : Nat → Int) {n p : Nat} (hp : p ≤ n) : p ≤ tokQ s n p ∧ tokQ s n p ≤ tokE s n (tokQ s n p) ∧ tokE s n (tokQ s n p) ≤ n ∧ 0 ≤ tokK s n (tokQ s n p) ∧ tokK s n (tokQ s n p) ≤ 5 ∧ (tokK s n (tokQ s n p) = 2 → tokE s n (tokQ s n p) ≤ tokQ s n p + 2 ∧ ∀ i : Nat, tokQ s n p ≤ i → i < tokE s n (tokQ s n p) → dgt (s i) = true) ∧ (tokQ s n p < n → tokQ s n p < tokE s n (tokQ s n p)) := by
  have h1 := wh_le blk s (n - p) p
  generalize hq : tokQ s n p = q
  unfold tokQ at hq
  rw [hq] at h1
  have h2 := wh_le ltr s (n - q) q
  have h3 := wh_le dgt s (n - q) q
  unfold tokE tokK
  by_cases c : n ≤ q
  · rw [if_pos c, if_pos c]
    exact ⟨h1.1, Nat.le_refl _, by omega, by decide, by decide, fun e => absurd e (by decide), fun e => by omega⟩
  · rw [if_neg c, if_neg c]
    by_cases c1 : ltr (s q) = true
    · rw [if_pos c1, if_pos c1]
      have := wh_first ltr s (m := n - q) (by omega) c1
      exact ⟨h1.1, h2.1, by omega, by decide, by decide, fun e => absurd e (by decide), fun _ => this⟩
    · rw [if_neg c1, if_neg c1]
      by_cases c2 : dgt (s q) = true
      · rw [if_pos c2, if_pos c2]
        have := wh_first dgt s (m := n - q) (by omega) c2
        by_cases c3 : wh dgt s (n - q) q ≤ q + 2
        · rw [if_pos c3]
          exact ⟨h1.1, h3.1, by omega, by decide, by decide, fun _ => ⟨c3, fun i hi hj => wh_in dgt s _ _ i hi hj⟩, fun _ => this⟩
        · rw [if_neg c3]
          exact ⟨h1.1, h3.1, by omega, by decide, by decide, fun e => absurd e (by decide), fun _ => this⟩
      · rw [if_neg c2, if_neg c2]
        have : ∀ z : Int, (z = if s q = 45 then 3 else if s q = 59 then 4 else 5) → 3 ≤ z ∧ z ≤ 5 := by
          intro z hz
          by_cases c4 : s q = 45
          · rw [if_pos c4] at hz; omega
          · rw [if_neg c4] at hz
            by_cases c5 : s q = 59
            · rw [if_pos c5] at hz; omega
            · rw [if_neg c5] at hz; omega
        have := this _ rfl
        exact ⟨h1.1, by omega, by omega, by omega, by omega, fun e => by omega, fun _ => by omega⟩
theorem NInv.nx {s f : Nat → Int} (h : NInv f) (hf : f 1 ≠ 1) : RInv s (nxF s f) := by
  unfold nxF
  rw [if_neg hf]
  have ht := tok_ok s (n := (f 4).toNat) (p := (f 5).toNat) (by have := h.2.1; omega)
  generalize tokQ s (f 4).toNat (f 5).toNat = q at ht ⊢
  have h1 := h.1
  have h2 := h.2.1
  refine ⟨h.1, ⟨?_, ?_, ?_⟩, h.2.2, ⟨?_, ?_⟩, ?_⟩
  · show (0 : Int) ≤ (q : Int); omega
  · show (q : Int) ≤ (tokE s (f 4).toNat q : Int); omega
  · show (tokE s (f 4).toNat q : Int) ≤ f 4; omega
  · exact ht.2.2.2.1
  · exact ht.2.2.2.2.1
  · intro e
    have h5 := ht.2.2.2.2.2.1 e
    refine ⟨?_, fun i hi hj => h5.2 i ?_ ?_⟩
    · show (tokE s (f 4).toNat q : Int) ≤ (q : Int) + 2; omega
    · have : (q : Int) ≤ i := hi
      omega
    · have : (i : Int) < (tokE s (f 4).toNat q : Int) := hj
      omega
theorem RInv.nx {s f : Nat → Int} (h : RInv s f) : RInv s (nxF s f) := by
  by_cases c : f 1 = 1
  · unfold nxF
    rw [if_pos c]
    exact h
  · exact h.n.nx c
theorem RInv.stop {s f : Nat → Int} (h : RInv s f) : RInv s (stopF f) := by
  unfold stopF
  split
  · exact ⟨h.1, h.2.1, h.2.2.1, ⟨by show (0 : Int) ≤ 5; decide, by show (5 : Int) ≤ 5; decide⟩, fun e => absurd (show (5 : Int) = 2 from e) (by decide)⟩
  · exact ⟨h.1, h.2.1, ⟨by show (0 : Int) ≤ 1; decide, by show (1 : Int) ≤ 3; decide⟩, ⟨by show (0 : Int) ≤ 5; decide, by show (5 : Int) ≤ 5; decide⟩, fun e => absurd (show (5 : Int) = 2 from e) (by decide)⟩
theorem RInv.note {s f : Nat → Int} {w : Int} (h : RInv s f) (hw : 0 ≤ w ∧ w ≤ 3) : RInv s (noteF w f) := by
  unfold noteF
  split
  · exact ⟨h.1, h.2.1, hw, h.2.2.2.1, h.2.2.2.2⟩
  · exact h
theorem vl10_le (s : Nat → Int) : ∀ (m p : Nat) (a b : Int), 0 ≤ a → a ≤ b → (∀ i : Nat, p ≤ i → i < p + m → dgt (s i) = true) → 0 ≤ vl10 s m p a ∧ vl10 s m p a ≤ 10 ^ m * (b + 1) - 1
  | 0, p, a, b, h0, h1, _ => by
    unfold vl10
    rw [Int.pow_zero]
    omega
  | m + 1, p, a, b, h0, h1, h2 => by
    unfold vl10
    have hd := h2 p (Nat.le_refl p) (by omega)
    unfold dgt at hd
    rw [decide_eq_true_eq] at hd
    have := vl10_le s m (p + 1) (10 * a + s p - 48) (10 * b + 9) (by omega) (by omega) (fun i hi hj => h2 i (by omega) (by omega))
    rw [show (10 : Int) ^ (m + 1) * (b + 1) = 10 ^ m * (10 * b + 9 + 1) by rw [Int.pow_succ, Int.mul_assoc]; congr 1; omega]
    exact this
theorem val_rg {s f : Nat → Int} (h : RInv s f) (hk : f 6 = 2) : 0 ≤ valF s f ∧ valF s f ≤ 99 := by
  have h1 := h.2.2.2.2 hk
  have h2 := h.2.1
  unfold valF
  have hm : (f 5).toNat - (f 7).toNat ≤ 2 := by omega
  have := vl10_le s ((f 5).toNat - (f 7).toNat) (f 7).toNat 0 0 (by decide) (by decide) (fun i hi hj => h1.2 i (by omega) (by omega))
  have h3 : ∀ m : Nat, m ≤ 2 → (10 : Int) ^ m * (0 + 1) - 1 ≤ 99 := by
    intro m hm
    match m, hm with
    | 0, _ => decide
    | 1, _ => decide
    | 2, _ => decide
  have h4 := h3 _ hm
  omega
theorem dX8_isLetter_0 : decode cX8_isLetter 0 = .ok (.iload_n 0, 1) := by decide +kernel
theorem dX8_isLetter_1 : decode cX8_isLetter 1 = .ok (.bipush 97, 2) := by decide +kernel
theorem dX8_isLetter_3 : decode cX8_isLetter 3 = .ok (.if_icmp .lt 13, 3) := by decide +kernel
theorem dX8_isLetter_6 : decode cX8_isLetter 6 = .ok (.iload_n 0, 1) := by decide +kernel
theorem dX8_isLetter_7 : decode cX8_isLetter 7 = .ok (.bipush 122, 2) := by decide +kernel
theorem dX8_isLetter_9 : decode cX8_isLetter 9 = .ok (.if_icmp .gt 7, 3) := by decide +kernel
theorem dX8_isLetter_12 : decode cX8_isLetter 12 = .ok (.iconst 1, 1) := by decide +kernel
theorem dX8_isLetter_13 : decode cX8_isLetter 13 = .ok (.goto 4, 3) := by decide +kernel
theorem dX8_isLetter_16 : decode cX8_isLetter 16 = .ok (.iconst 0, 1) := by decide +kernel
theorem dX8_isLetter_17 : decode cX8_isLetter 17 = .ok (.ireturn, 1) := by decide +kernel
set_option maxRecDepth 20000 in
theorem b_X8_isLetter_0 {k n : Nat} {x : Wx} {Z : Zt} {Q : Option Value → Wx → Zt → Prop} {v0 : Int} 
    (h : Rg v0 ∧ (((v0 < 97) → (V mX8_isLetter k n 16 [none] [] x Z Q)) ∧ ((97 ≤ v0) → (((122 < v0) → (V mX8_isLetter k n 16 [none] [] x Z Q)) ∧ ((v0 ≤ 122) → (Q (some (i_ 1)) x Z)))))) :
    V mX8_isLetter k n 0 [some (i_ v0)] [] x Z Q :=
  V_iload_n dX8_isLetter_0 rfl (V_bipush dX8_isLetter_1 rfl (V_icmp_lt (tgt := 16) dX8_isLetter_3 rfl h.1 (rg_c rfl) (fun c1 => V_msk [false] rfl (h.2.1 c1)) (fun c1 => V_iload_n dX8_isLetter_6 rfl (V_bipush dX8_isLetter_7 rfl (V_icmp_gt (tgt := 16) dX8_isLetter_9 rfl h.1 (rg_c rfl) (fun c2 => V_msk [false] rfl ((h.2.2 c1).1 c2)) (fun c2 => V_iconst dX8_isLetter_12 (V_goto (tgt := 17) dX8_isLetter_13 rfl (V_iret (ty := .boolean) dX8_isLetter_17 rfl rfl ((h.2.2 c1).2 c2)))))))))
set_option maxRecDepth 20000 in
theorem b_X8_isLetter_16 {k n : Nat} {x : Wx} {Z : Zt} {Q : Option Value → Wx → Zt → Prop}  
    (h : Q (some (i_ 0)) x Z) :
    V mX8_isLetter k n 16 [none] [] x Z Q :=
  V_iconst dX8_isLetter_16 (V_iret (ty := .boolean) dX8_isLetter_17 rfl rfl h)
theorem dX8_isDigit_0 : decode cX8_isDigit 0 = .ok (.iload_n 0, 1) := by decide +kernel
theorem dX8_isDigit_1 : decode cX8_isDigit 1 = .ok (.bipush 48, 2) := by decide +kernel
theorem dX8_isDigit_3 : decode cX8_isDigit 3 = .ok (.if_icmp .lt 13, 3) := by decide +kernel
theorem dX8_isDigit_6 : decode cX8_isDigit 6 = .ok (.iload_n 0, 1) := by decide +kernel
theorem dX8_isDigit_7 : decode cX8_isDigit 7 = .ok (.bipush 57, 2) := by decide +kernel
theorem dX8_isDigit_9 : decode cX8_isDigit 9 = .ok (.if_icmp .gt 7, 3) := by decide +kernel
theorem dX8_isDigit_12 : decode cX8_isDigit 12 = .ok (.iconst 1, 1) := by decide +kernel
theorem dX8_isDigit_13 : decode cX8_isDigit 13 = .ok (.goto 4, 3) := by decide +kernel
theorem dX8_isDigit_16 : decode cX8_isDigit 16 = .ok (.iconst 0, 1) := by decide +kernel
theorem dX8_isDigit_17 : decode cX8_isDigit 17 = .ok (.ireturn, 1) := by decide +kernel
set_option maxRecDepth 20000 in
theorem b_X8_isDigit_0 {k n : Nat} {x : Wx} {Z : Zt} {Q : Option Value → Wx → Zt → Prop} {v0 : Int} 
    (h : Rg v0 ∧ (((v0 < 48) → (V mX8_isDigit k n 16 [none] [] x Z Q)) ∧ ((48 ≤ v0) → (((57 < v0) → (V mX8_isDigit k n 16 [none] [] x Z Q)) ∧ ((v0 ≤ 57) → (Q (some (i_ 1)) x Z)))))) :
    V mX8_isDigit k n 0 [some (i_ v0)] [] x Z Q :=
  V_iload_n dX8_isDigit_0 rfl (V_bipush dX8_isDigit_1 rfl (V_icmp_lt (tgt := 16) dX8_isDigit_3 rfl h.1 (rg_c rfl) (fun c1 => V_msk [false] rfl (h.2.1 c1)) (fun c1 => V_iload_n dX8_isDigit_6 rfl (V_bipush dX8_isDigit_7 rfl (V_icmp_gt (tgt := 16) dX8_isDigit_9 rfl h.1 (rg_c rfl) (fun c2 => V_msk [false] rfl ((h.2.2 c1).1 c2)) (fun c2 => V_iconst dX8_isDigit_12 (V_goto (tgt := 17) dX8_isDigit_13 rfl (V_iret (ty := .boolean) dX8_isDigit_17 rfl rfl ((h.2.2 c1).2 c2)))))))))
set_option maxRecDepth 20000 in
theorem b_X8_isDigit_16 {k n : Nat} {x : Wx} {Z : Zt} {Q : Option Value → Wx → Zt → Prop}  
    (h : Q (some (i_ 0)) x Z) :
    V mX8_isDigit k n 16 [none] [] x Z Q :=
  V_iconst dX8_isDigit_16 (V_iret (ty := .boolean) dX8_isDigit_17 rfl rfl h)
theorem sp_X8_isLetter {k n : Nat} {x : Wx} {Z : Zt} {Q : Option Value → Wx → Zt → Prop} {v : Int} (hv : Rg v) (h : Q (some (i_ (bI (ltr v)))) x Z) : V mX8_isLetter k n 0 [some (i_ v)] [] x Z Q := by
  unfold ltr bI at h
  refine b_X8_isLetter_0 ⟨hv, fun c => b_X8_isLetter_16 ?_, fun c => ⟨fun c2 => b_X8_isLetter_16 ?_, fun c2 => ?_⟩⟩
  · rw [if_neg (by rw [decide_eq_true_eq]; omega)] at h; exact h
  · rw [if_neg (by rw [decide_eq_true_eq]; omega)] at h; exact h
  · rw [if_pos (by rw [decide_eq_true_eq]; omega)] at h; exact h
theorem sp_X8_isDigit {k n : Nat} {x : Wx} {Z : Zt} {Q : Option Value → Wx → Zt → Prop} {v : Int} (hv : Rg v) (h : Q (some (i_ (bI (dgt v)))) x Z) : V mX8_isDigit k n 0 [some (i_ v)] [] x Z Q := by
  unfold dgt bI at h
  refine b_X8_isDigit_0 ⟨hv, fun c => b_X8_isDigit_16 ?_, fun c => ⟨fun c2 => b_X8_isDigit_16 ?_, fun c2 => ?_⟩⟩
  · rw [if_neg (by rw [decide_eq_true_eq]; omega)] at h; exact h
  · rw [if_neg (by rw [decide_eq_true_eq]; omega)] at h; exact h
  · rw [if_pos (by rw [decide_eq_true_eq]; omega)] at h; exact h
theorem dX8_next_0 : decode cX8_next 0 = .ok (.aload_n 0, 1) := by decide +kernel
theorem dX8_next_1 : decode cX8_next 1 = .ok (.getfield 32, 3) := by decide +kernel
theorem dX8_next_4 : decode cX8_next 4 = .ok (.iconst 1, 1) := by decide +kernel
theorem dX8_next_5 : decode cX8_next 5 = .ok (.if_icmp .ne 4, 3) := by decide +kernel
theorem dX8_next_8 : decode cX8_next 8 = .ok (.return_, 1) := by decide +kernel
theorem dX8_next_9 : decode cX8_next 9 = .ok (.aload_n 0, 1) := by decide +kernel
theorem dX8_next_10 : decode cX8_next 10 = .ok (.getfield 29, 3) := by decide +kernel
theorem dX8_next_13 : decode cX8_next 13 = .ok (.aload_n 0, 1) := by decide +kernel
theorem dX8_next_14 : decode cX8_next 14 = .ok (.getfield 25, 3) := by decide +kernel
theorem dX8_next_17 : decode cX8_next 17 = .ok (.if_icmp .ge 44, 3) := by decide +kernel
theorem dX8_next_20 : decode cX8_next 20 = .ok (.aload_n 0, 1) := by decide +kernel
theorem dX8_next_21 : decode cX8_next 21 = .ok (.getfield 15, 3) := by decide +kernel
theorem dX8_next_24 : decode cX8_next 24 = .ok (.aload_n 0, 1) := by decide +kernel
theorem dX8_next_25 : decode cX8_next 25 = .ok (.getfield 29, 3) := by decide +kernel
theorem dX8_next_28 : decode cX8_next 28 = .ok (.baload, 1) := by decide +kernel
theorem dX8_next_29 : decode cX8_next 29 = .ok (.bipush 10, 2) := by decide +kernel
theorem dX8_next_31 : decode cX8_next 31 = .ok (.if_icmp .eq 17, 3) := by decide +kernel
theorem dX8_next_34 : decode cX8_next 34 = .ok (.aload_n 0, 1) := by decide +kernel
theorem dX8_next_35 : decode cX8_next 35 = .ok (.getfield 15, 3) := by decide +kernel
theorem dX8_next_38 : decode cX8_next 38 = .ok (.aload_n 0, 1) := by decide +kernel
theorem dX8_next_39 : decode cX8_next 39 = .ok (.getfield 29, 3) := by decide +kernel
theorem dX8_next_42 : decode cX8_next 42 = .ok (.baload, 1) := by decide +kernel
theorem dX8_next_43 : decode cX8_next 43 = .ok (.bipush 32, 2) := by decide +kernel
theorem dX8_next_45 : decode cX8_next 45 = .ok (.if_icmp .ne 16, 3) := by decide +kernel
theorem dX8_next_48 : decode cX8_next 48 = .ok (.aload_n 0, 1) := by decide +kernel
theorem dX8_next_49 : decode cX8_next 49 = .ok (.dup, 1) := by decide +kernel
theorem dX8_next_50 : decode cX8_next 50 = .ok (.getfield 29, 3) := by decide +kernel
theorem dX8_next_53 : decode cX8_next 53 = .ok (.iconst 1, 1) := by decide +kernel
theorem dX8_next_54 : decode cX8_next 54 = .ok (.iadd, 1) := by decide +kernel
theorem dX8_next_55 : decode cX8_next 55 = .ok (.putfield 29, 3) := by decide +kernel
theorem dX8_next_58 : decode cX8_next 58 = .ok (.goto (-49), 3) := by decide +kernel
theorem dX8_next_61 : decode cX8_next 61 = .ok (.aload_n 0, 1) := by decide +kernel
theorem dX8_next_62 : decode cX8_next 62 = .ok (.aload_n 0, 1) := by decide +kernel
theorem dX8_next_63 : decode cX8_next 63 = .ok (.getfield 29, 3) := by decide +kernel
theorem dX8_next_66 : decode cX8_next 66 = .ok (.putfield 111, 3) := by decide +kernel
theorem dX8_next_69 : decode cX8_next 69 = .ok (.aload_n 0, 1) := by decide +kernel
theorem dX8_next_70 : decode cX8_next 70 = .ok (.getfield 29, 3) := by decide +kernel
theorem dX8_next_73 : decode cX8_next 73 = .ok (.aload_n 0, 1) := by decide +kernel
theorem dX8_next_74 : decode cX8_next 74 = .ok (.getfield 25, 3) := by decide +kernel
theorem dX8_next_77 : decode cX8_next 77 = .ok (.if_icmp .lt 11, 3) := by decide +kernel
theorem dX8_next_80 : decode cX8_next 80 = .ok (.aload_n 0, 1) := by decide +kernel
theorem dX8_next_81 : decode cX8_next 81 = .ok (.iconst 0, 1) := by decide +kernel
theorem dX8_next_82 : decode cX8_next 82 = .ok (.putfield 45, 3) := by decide +kernel
theorem dX8_next_85 : decode cX8_next 85 = .ok (.goto 192, 3) := by decide +kernel
theorem dX8_next_88 : decode cX8_next 88 = .ok (.aload_n 0, 1) := by decide +kernel
theorem dX8_next_89 : decode cX8_next 89 = .ok (.getfield 15, 3) := by decide +kernel
theorem dX8_next_92 : decode cX8_next 92 = .ok (.aload_n 0, 1) := by decide +kernel
theorem dX8_next_93 : decode cX8_next 93 = .ok (.getfield 29, 3) := by decide +kernel
theorem dX8_next_96 : decode cX8_next 96 = .ok (.baload, 1) := by decide +kernel
theorem dX8_next_97 : decode cX8_next 97 = .ok (.invokestatic 114, 3) := by decide +kernel
theorem dX8_next_100 : decode cX8_next 100 = .ok (.ifCond .eq 47, 3) := by decide +kernel
theorem dX8_next_103 : decode cX8_next 103 = .ok (.aload_n 0, 1) := by decide +kernel
theorem dX8_next_104 : decode cX8_next 104 = .ok (.iconst 1, 1) := by decide +kernel
theorem dX8_next_105 : decode cX8_next 105 = .ok (.putfield 45, 3) := by decide +kernel
theorem dX8_next_108 : decode cX8_next 108 = .ok (.aload_n 0, 1) := by decide +kernel
theorem dX8_next_109 : decode cX8_next 109 = .ok (.getfield 29, 3) := by decide +kernel
theorem dX8_next_112 : decode cX8_next 112 = .ok (.aload_n 0, 1) := by decide +kernel
theorem dX8_next_113 : decode cX8_next 113 = .ok (.getfield 25, 3) := by decide +kernel
theorem dX8_next_116 : decode cX8_next 116 = .ok (.if_icmp .ge 161, 3) := by decide +kernel
theorem dX8_next_119 : decode cX8_next 119 = .ok (.aload_n 0, 1) := by decide +kernel
theorem dX8_next_120 : decode cX8_next 120 = .ok (.getfield 15, 3) := by decide +kernel
theorem dX8_next_123 : decode cX8_next 123 = .ok (.aload_n 0, 1) := by decide +kernel
theorem dX8_next_124 : decode cX8_next 124 = .ok (.getfield 29, 3) := by decide +kernel
theorem dX8_next_127 : decode cX8_next 127 = .ok (.baload, 1) := by decide +kernel
theorem dX8_next_128 : decode cX8_next 128 = .ok (.invokestatic 114, 3) := by decide +kernel
theorem dX8_next_131 : decode cX8_next 131 = .ok (.ifCond .eq 146, 3) := by decide +kernel
theorem dX8_next_134 : decode cX8_next 134 = .ok (.aload_n 0, 1) := by decide +kernel
theorem dX8_next_135 : decode cX8_next 135 = .ok (.dup, 1) := by decide +kernel
theorem dX8_next_136 : decode cX8_next 136 = .ok (.getfield 29, 3) := by decide +kernel
theorem dX8_next_139 : decode cX8_next 139 = .ok (.iconst 1, 1) := by decide +kernel
theorem dX8_next_140 : decode cX8_next 140 = .ok (.iadd, 1) := by decide +kernel
theorem dX8_next_141 : decode cX8_next 141 = .ok (.putfield 29, 3) := by decide +kernel
theorem dX8_next_144 : decode cX8_next 144 = .ok (.goto (-36), 3) := by decide +kernel
theorem dX8_next_147 : decode cX8_next 147 = .ok (.aload_n 0, 1) := by decide +kernel
theorem dX8_next_148 : decode cX8_next 148 = .ok (.getfield 15, 3) := by decide +kernel
theorem dX8_next_151 : decode cX8_next 151 = .ok (.aload_n 0, 1) := by decide +kernel
theorem dX8_next_152 : decode cX8_next 152 = .ok (.getfield 29, 3) := by decide +kernel
theorem dX8_next_155 : decode cX8_next 155 = .ok (.baload, 1) := by decide +kernel
theorem dX8_next_156 : decode cX8_next 156 = .ok (.invokestatic 118, 3) := by decide +kernel
theorem dX8_next_159 : decode cX8_next 159 = .ok (.ifCond .eq 67, 3) := by decide +kernel
theorem dX8_next_162 : decode cX8_next 162 = .ok (.aload_n 0, 1) := by decide +kernel
theorem dX8_next_163 : decode cX8_next 163 = .ok (.getfield 29, 3) := by decide +kernel
theorem dX8_next_166 : decode cX8_next 166 = .ok (.aload_n 0, 1) := by decide +kernel
theorem dX8_next_167 : decode cX8_next 167 = .ok (.getfield 25, 3) := by decide +kernel
theorem dX8_next_170 : decode cX8_next 170 = .ok (.if_icmp .ge 31, 3) := by decide +kernel
theorem dX8_next_173 : decode cX8_next 173 = .ok (.aload_n 0, 1) := by decide +kernel
theorem dX8_next_174 : decode cX8_next 174 = .ok (.getfield 15, 3) := by decide +kernel
theorem dX8_next_177 : decode cX8_next 177 = .ok (.aload_n 0, 1) := by decide +kernel
theorem dX8_next_178 : decode cX8_next 178 = .ok (.getfield 29, 3) := by decide +kernel
theorem dX8_next_181 : decode cX8_next 181 = .ok (.baload, 1) := by decide +kernel
theorem dX8_next_182 : decode cX8_next 182 = .ok (.invokestatic 118, 3) := by decide +kernel
theorem dX8_next_185 : decode cX8_next 185 = .ok (.ifCond .eq 16, 3) := by decide +kernel
theorem dX8_next_188 : decode cX8_next 188 = .ok (.aload_n 0, 1) := by decide +kernel
theorem dX8_next_189 : decode cX8_next 189 = .ok (.dup, 1) := by decide +kernel
theorem dX8_next_190 : decode cX8_next 190 = .ok (.getfield 29, 3) := by decide +kernel
theorem dX8_next_193 : decode cX8_next 193 = .ok (.iconst 1, 1) := by decide +kernel
theorem dX8_next_194 : decode cX8_next 194 = .ok (.iadd, 1) := by decide +kernel
theorem dX8_next_195 : decode cX8_next 195 = .ok (.putfield 29, 3) := by decide +kernel
theorem dX8_next_198 : decode cX8_next 198 = .ok (.goto (-36), 3) := by decide +kernel
theorem dX8_next_201 : decode cX8_next 201 = .ok (.aload_n 0, 1) := by decide +kernel
theorem dX8_next_202 : decode cX8_next 202 = .ok (.aload_n 0, 1) := by decide +kernel
theorem dX8_next_203 : decode cX8_next 203 = .ok (.getfield 29, 3) := by decide +kernel
theorem dX8_next_206 : decode cX8_next 206 = .ok (.aload_n 0, 1) := by decide +kernel
theorem dX8_next_207 : decode cX8_next 207 = .ok (.getfield 111, 3) := by decide +kernel
theorem dX8_next_210 : decode cX8_next 210 = .ok (.isub, 1) := by decide +kernel
theorem dX8_next_211 : decode cX8_next 211 = .ok (.iconst 2, 1) := by decide +kernel
theorem dX8_next_212 : decode cX8_next 212 = .ok (.if_icmp .gt 7, 3) := by decide +kernel
theorem dX8_next_215 : decode cX8_next 215 = .ok (.iconst 2, 1) := by decide +kernel
theorem dX8_next_216 : decode cX8_next 216 = .ok (.goto 4, 3) := by decide +kernel
theorem dX8_next_219 : decode cX8_next 219 = .ok (.iconst 5, 1) := by decide +kernel
theorem dX8_next_220 : decode cX8_next 220 = .ok (.putfield 45, 3) := by decide +kernel
theorem dX8_next_223 : decode cX8_next 223 = .ok (.goto 54, 3) := by decide +kernel
theorem dX8_next_226 : decode cX8_next 226 = .ok (.aload_n 0, 1) := by decide +kernel
theorem dX8_next_227 : decode cX8_next 227 = .ok (.aload_n 0, 1) := by decide +kernel
theorem dX8_next_228 : decode cX8_next 228 = .ok (.getfield 15, 3) := by decide +kernel
theorem dX8_next_231 : decode cX8_next 231 = .ok (.aload_n 0, 1) := by decide +kernel
theorem dX8_next_232 : decode cX8_next 232 = .ok (.getfield 29, 3) := by decide +kernel
theorem dX8_next_235 : decode cX8_next 235 = .ok (.baload, 1) := by decide +kernel
theorem dX8_next_236 : decode cX8_next 236 = .ok (.bipush 45, 2) := by decide +kernel
theorem dX8_next_238 : decode cX8_next 238 = .ok (.if_icmp .ne 7, 3) := by decide +kernel
theorem dX8_next_241 : decode cX8_next 241 = .ok (.iconst 3, 1) := by decide +kernel
theorem dX8_next_242 : decode cX8_next 242 = .ok (.goto 22, 3) := by decide +kernel
theorem dX8_next_245 : decode cX8_next 245 = .ok (.aload_n 0, 1) := by decide +kernel
theorem dX8_next_246 : decode cX8_next 246 = .ok (.getfield 15, 3) := by decide +kernel
theorem dX8_next_249 : decode cX8_next 249 = .ok (.aload_n 0, 1) := by decide +kernel
theorem dX8_next_250 : decode cX8_next 250 = .ok (.getfield 29, 3) := by decide +kernel
theorem dX8_next_253 : decode cX8_next 253 = .ok (.baload, 1) := by decide +kernel
theorem dX8_next_254 : decode cX8_next 254 = .ok (.bipush 59, 2) := by decide +kernel
theorem dX8_next_256 : decode cX8_next 256 = .ok (.if_icmp .ne 7, 3) := by decide +kernel
theorem dX8_next_259 : decode cX8_next 259 = .ok (.iconst 4, 1) := by decide +kernel
theorem dX8_next_260 : decode cX8_next 260 = .ok (.goto 4, 3) := by decide +kernel
theorem dX8_next_263 : decode cX8_next 263 = .ok (.iconst 5, 1) := by decide +kernel
theorem dX8_next_264 : decode cX8_next 264 = .ok (.putfield 45, 3) := by decide +kernel
theorem dX8_next_267 : decode cX8_next 267 = .ok (.aload_n 0, 1) := by decide +kernel
theorem dX8_next_268 : decode cX8_next 268 = .ok (.dup, 1) := by decide +kernel
theorem dX8_next_269 : decode cX8_next 269 = .ok (.getfield 29, 3) := by decide +kernel
theorem dX8_next_272 : decode cX8_next 272 = .ok (.iconst 1, 1) := by decide +kernel
theorem dX8_next_273 : decode cX8_next 273 = .ok (.iadd, 1) := by decide +kernel
theorem dX8_next_274 : decode cX8_next 274 = .ok (.putfield 29, 3) := by decide +kernel
theorem dX8_next_277 : decode cX8_next 277 = .ok (.return_, 1) := by decide +kernel
set_option maxRecDepth 20000 in
theorem b_X8_next_0 {k n : Nat} {x : Wx} {Z : Zt} {Q : Option Value → Wx → Zt → Prop} {a0 : Nat} (o_a0 : Is8 x a0)
    (h : Rg (Z a0 1) ∧ (((Z a0 1 ≠ 1) → (V mX8_next k n 9 [some (r_ a0)] [] x Z Q)) ∧ ((Z a0 1 = 1) → (Q none x Z)))) :
    V mX8_next k n 0 [some (r_ a0)] [] x Z Q :=
  V_aload_n dX8_next_0 rfl (G_8_1 o_a0.1 lf_8_32 dX8_next_1 (V_iconst dX8_next_4 (V_icmp_ne (tgt := 9) dX8_next_5 rfl h.1 (rg_c rfl) (fun c1 => V_msk [true] rfl (h.2.1 c1)) (fun c1 => V_ret dX8_next_8 rfl (h.2.2 c1)))))
set_option maxRecDepth 20000 in
theorem b_X8_next_9 {k n : Nat} {x : Wx} {Z : Zt} {Q : Option Value → Wx → Zt → Prop} {a0 : Nat} {a0_tape : Nat} (r_a0_tape : x.2.1 a0 3 = some a0_tape) (o_a0 : Is8 x a0) (s_a0_tape : x.1 a0_tape = some (101, 600))
    (h : Rg (Z a0 5) ∧ Rg (Z a0 4) ∧ (((Z a0 4 ≤ Z a0 5) → (V mX8_next k n 61 [some (r_ a0)] [] x Z Q)) ∧ ((Z a0 5 < Z a0 4) → (0 ≤ Z a0 5 ∧ Z a0 5 < 600 ∧ (Rg (Z a0_tape (Z a0 5).toNat) ∧ (((Z a0_tape (Z a0 5).toNat = 10) → (V mX8_next k n 48 [some (r_ a0)] [] x Z Q)) ∧ ((Z a0_tape (Z a0 5).toNat ≠ 10) → (((Z a0_tape (Z a0 5).toNat ≠ 32) → (V mX8_next k n 61 [some (r_ a0)] [] x Z Q)) ∧ ((Z a0_tape (Z a0 5).toNat = 32) → (V mX8_next k n 48 [some (r_ a0)] [] x Z Q)))))))))) :
    V mX8_next k n 9 [some (r_ a0)] [] x Z Q :=
  V_aload_n dX8_next_9 rfl (G_8_5 o_a0.1 lf_8_29 dX8_next_10 (V_aload_n dX8_next_13 rfl (G_8_4 o_a0.1 lf_8_25 dX8_next_14 (V_icmp_ge (tgt := 61) dX8_next_17 rfl h.1 h.2.1 (fun c1 => V_msk [true] rfl (h.2.2.1 c1)) (fun c1 => V_aload_n dX8_next_20 rfl (G_8_3 o_a0.1 r_a0_tape lf_8_15 dX8_next_21 (V_aload_n dX8_next_24 rfl (G_8_5 o_a0.1 lf_8_29 dX8_next_25 (V_bald (t := 101) s_a0_tape (by decide) rfl (h.2.2.2 c1).1 (h.2.2.2 c1).2.1 (Nat.le_of_ble_eq_true rfl) dX8_next_28 (V_bipush dX8_next_29 rfl (V_icmp_eq (tgt := 48) dX8_next_31 rfl (h.2.2.2 c1).2.2.1 (rg_c rfl) (fun c2 => V_msk [true] rfl ((h.2.2.2 c1).2.2.2.1 c2)) (fun c2 => V_aload_n dX8_next_34 rfl (G_8_3 o_a0.1 r_a0_tape lf_8_15 dX8_next_35 (V_aload_n dX8_next_38 rfl (G_8_5 o_a0.1 lf_8_29 dX8_next_39 (V_bald (t := 101) s_a0_tape (by decide) rfl (h.2.2.2 c1).1 (h.2.2.2 c1).2.1 (Nat.le_of_ble_eq_true rfl) dX8_next_42 (V_bipush dX8_next_43 rfl (V_icmp_ne (tgt := 61) dX8_next_45 rfl (h.2.2.2 c1).2.2.1 (rg_c rfl) (fun c3 => V_msk [true] rfl (((h.2.2.2 c1).2.2.2.2 c2).1 c3)) (fun c3 => V_msk [true] rfl (((h.2.2.2 c1).2.2.2.2 c2).2 c3))))))))))))))))))))
set_option maxRecDepth 20000 in
theorem b_X8_next_48 {k n : Nat} {x : Wx} {Z : Zt} {Q : Option Value → Wx → Zt → Prop} {a0 : Nat} (o_a0 : Is8 x a0)
    (h : ∀ Z1 : Zt, Z1 = up Z a0 5 ((Z a0 5) + 1) → (V mX8_next k n 9 [some (r_ a0)] [] x Z1 Q)) :
    V mX8_next k n 48 [some (r_ a0)] [] x Z Q :=
  V_aload_n dX8_next_48 rfl (V_dup dX8_next_49 rfl (G_8_5 o_a0.1 lf_8_29 dX8_next_50 (V_iconst dX8_next_53 (V_iadd dX8_next_54 (P_8_5 o_a0.1 lf_8_29 dX8_next_55 (V_nmZ (fun Z1 eZ1 => V_goto (tgt := 9) dX8_next_58 rfl (V_msk [true] rfl (h Z1 eZ1)))))))))
set_option maxRecDepth 20000 in
theorem b_X8_next_61 {k n : Nat} {x : Wx} {Z : Zt} {Q : Option Value → Wx → Zt → Prop} {a0 : Nat} {a0_tape : Nat} (r_a0_tape : x.2.1 a0 3 = some a0_tape) (o_a0 : Is8 x a0) (s_a0_tape : x.1 a0_tape = some (101, 600))
    (h : ∀ Z1 : Zt, Z1 = up Z a0 7 (Z a0 5) → (Rg (Z1 a0 5) ∧ Rg (Z1 a0 4) ∧ (((Z1 a0 5 < Z1 a0 4) → (0 ≤ Z1 a0 5 ∧ Z1 a0 5 < 600 ∧ (Rg (Z1 a0_tape (Z1 a0 5).toNat) ∧ (Rg (bI (ltr (Z1 a0_tape (Z1 a0 5).toNat))) ∧ (((bI (ltr (Z1 a0_tape (Z1 a0 5).toNat)) = 0) → (Rg (bI (dgt (Z1 a0_tape (Z1 a0 5).toNat))) ∧ (((bI (dgt (Z1 a0_tape (Z1 a0 5).toNat)) = 0) → (((Z1 a0_tape (Z1 a0 5).toNat ≠ 45) → (((Z1 a0_tape (Z1 a0 5).toNat ≠ 59) → (V mX8_next k n 264 [some (r_ a0)] [i_ 5, r_ a0] x Z1 Q)) ∧ ((Z1 a0_tape (Z1 a0 5).toNat = 59) → (V mX8_next k n 264 [some (r_ a0)] [i_ 4, r_ a0] x Z1 Q)))) ∧ ((Z1 a0_tape (Z1 a0 5).toNat = 45) → (V mX8_next k n 264 [some (r_ a0)] [i_ 3, r_ a0] x Z1 Q)))) ∧ ((bI (dgt (Z1 a0_tape (Z1 a0 5).toNat)) ≠ 0) → (V mX8_next k n 162 [some (r_ a0)] [] x Z1 Q))))) ∧ ((bI (ltr (Z1 a0_tape (Z1 a0 5).toNat)) ≠ 0) → (∀ Z2 : Zt, Z2 = up Z1 a0 6 1 → (V mX8_next k n 108 [some (r_ a0)] [] x Z2 Q)))))))) ∧ ((Z1 a0 4 ≤ Z1 a0 5) → (∀ Z3 : Zt, Z3 = up Z1 a0 6 0 → (Q none x Z3)))))) :
    V mX8_next k n 61 [some (r_ a0)] [] x Z Q :=
  V_aload_n dX8_next_61 rfl (V_aload_n dX8_next_62 rfl (G_8_5 o_a0.1 lf_8_29 dX8_next_63 (P_8_7 o_a0.1 lf_8_111 dX8_next_66 (V_nmZ (fun Z1 eZ1 => V_aload_n dX8_next_69 rfl (G_8_5 o_a0.1 lf_8_29 dX8_next_70 (V_aload_n dX8_next_73 rfl (G_8_4 o_a0.1 lf_8_25 dX8_next_74 (V_icmp_lt (tgt := 88) dX8_next_77 rfl (h Z1 eZ1).1 (h Z1 eZ1).2.1 (fun c1 => V_aload_n dX8_next_88 rfl (G_8_3 o_a0.1 r_a0_tape lf_8_15 dX8_next_89 (V_aload_n dX8_next_92 rfl (G_8_5 o_a0.1 lf_8_29 dX8_next_93 (V_bald (t := 101) s_a0_tape (by decide) rfl ((h Z1 eZ1).2.2.1 c1).1 ((h Z1 eZ1).2.2.1 c1).2.1 (Nat.le_of_ble_eq_true rfl) dX8_next_96 (V_callS (k' := 0) (n' := 0) [i_ (Z1 a0_tape (Z1 a0 5).toNat)] [] okX8_isLetter lm_8_114 lsX8_isLetter (Nat.le_of_ble_eq_true rfl) (Nat.le_of_ble_eq_true rfl) (Nat.le_of_ble_eq_true rfl) (cat_of rfl) (Nat.le_of_ble_eq_true rfl) (Nat.zero_le _) (Nat.zero_le _) rfl dX8_next_97 (sp_X8_isLetter  ((h Z1 eZ1).2.2.1 c1).2.2.1 (V_if_eq (tgt := 147) dX8_next_100 rfl ((h Z1 eZ1).2.2.1 c1).2.2.2.1 (fun c2 => V_aload_n dX8_next_147 rfl (G_8_3 o_a0.1 r_a0_tape lf_8_15 dX8_next_148 (V_aload_n dX8_next_151 rfl (G_8_5 o_a0.1 lf_8_29 dX8_next_152 (V_bald (t := 101) s_a0_tape (by decide) rfl ((h Z1 eZ1).2.2.1 c1).1 ((h Z1 eZ1).2.2.1 c1).2.1 (Nat.le_of_ble_eq_true rfl) dX8_next_155 (V_callS (k' := 0) (n' := 0) [i_ (Z1 a0_tape (Z1 a0 5).toNat)] [] okX8_isDigit lm_8_118 lsX8_isDigit (Nat.le_of_ble_eq_true rfl) (Nat.le_of_ble_eq_true rfl) (Nat.le_of_ble_eq_true rfl) (cat_of rfl) (Nat.le_of_ble_eq_true rfl) (Nat.zero_le _) (Nat.zero_le _) rfl dX8_next_156 (sp_X8_isDigit  ((h Z1 eZ1).2.2.1 c1).2.2.1 (V_if_eq (tgt := 226) dX8_next_159 rfl (((h Z1 eZ1).2.2.1 c1).2.2.2.2.1 c2).1 (fun c3 => V_aload_n dX8_next_226 rfl (V_aload_n dX8_next_227 rfl (G_8_3 o_a0.1 r_a0_tape lf_8_15 dX8_next_228 (V_aload_n dX8_next_231 rfl (G_8_5 o_a0.1 lf_8_29 dX8_next_232 (V_bald (t := 101) s_a0_tape (by decide) rfl ((h Z1 eZ1).2.2.1 c1).1 ((h Z1 eZ1).2.2.1 c1).2.1 (Nat.le_of_ble_eq_true rfl) dX8_next_235 (V_bipush dX8_next_236 rfl (V_icmp_ne (tgt := 245) dX8_next_238 rfl ((h Z1 eZ1).2.2.1 c1).2.2.1 (rg_c rfl) (fun c4 => V_aload_n dX8_next_245 rfl (G_8_3 o_a0.1 r_a0_tape lf_8_15 dX8_next_246 (V_aload_n dX8_next_249 rfl (G_8_5 o_a0.1 lf_8_29 dX8_next_250 (V_bald (t := 101) s_a0_tape (by decide) rfl ((h Z1 eZ1).2.2.1 c1).1 ((h Z1 eZ1).2.2.1 c1).2.1 (Nat.le_of_ble_eq_true rfl) dX8_next_253 (V_bipush dX8_next_254 rfl (V_icmp_ne (tgt := 263) dX8_next_256 rfl ((h Z1 eZ1).2.2.1 c1).2.2.1 (rg_c rfl) (fun c5 => V_iconst dX8_next_263 (V_msk [true] rfl ((((((h Z1 eZ1).2.2.1 c1).2.2.2.2.1 c2).2.1 c3).1 c4).1 c5))) (fun c5 => V_iconst dX8_next_259 (V_goto (tgt := 264) dX8_next_260 rfl (V_msk [true] rfl ((((((h Z1 eZ1).2.2.1 c1).2.2.2.2.1 c2).2.1 c3).1 c4).2 c5))))))))))) (fun c4 => V_iconst dX8_next_241 (V_goto (tgt := 264) dX8_next_242 rfl (V_msk [true] rfl (((((h Z1 eZ1).2.2.1 c1).2.2.2.2.1 c2).2.1 c3).2 c4)))))))))))) (fun c3 => V_msk [true] rfl ((((h Z1 eZ1).2.2.1 c1).2.2.2.2.1 c2).2.2 c3)))))))))) (fun c2 => V_aload_n dX8_next_103 rfl (V_iconst dX8_next_104 (P_8_6 o_a0.1 lf_8_45 dX8_next_105 (V_nmZ (fun Z2 eZ2 => V_msk [true] rfl ((((h Z1 eZ1).2.2.1 c1).2.2.2.2.2 c2) Z2 eZ2)))))))))))))) (fun c1 => V_aload_n dX8_next_80 rfl (V_iconst dX8_next_81 (P_8_6 o_a0.1 lf_8_45 dX8_next_82 (V_nmZ (fun Z3 eZ3 => V_goto (tgt := 277) dX8_next_85 rfl (V_ret dX8_next_277 rfl (((h Z1 eZ1).2.2.2 c1) Z3 eZ3))))))))))))))))
set_option maxRecDepth 20000 in
theorem b_X8_next_108 {k n : Nat} {x : Wx} {Z : Zt} {Q : Option Value → Wx → Zt → Prop} {a0 : Nat} {a0_tape : Nat} (r_a0_tape : x.2.1 a0 3 = some a0_tape) (o_a0 : Is8 x a0) (s_a0_tape : x.1 a0_tape = some (101, 600))
    (h : Rg (Z a0 5) ∧ Rg (Z a0 4) ∧ (((Z a0 4 ≤ Z a0 5) → (Q none x Z)) ∧ ((Z a0 5 < Z a0 4) → (0 ≤ Z a0 5 ∧ Z a0 5 < 600 ∧ (Rg (Z a0_tape (Z a0 5).toNat) ∧ (Rg (bI (ltr (Z a0_tape (Z a0 5).toNat))) ∧ (((bI (ltr (Z a0_tape (Z a0 5).toNat)) = 0) → (Q none x Z)) ∧ ((bI (ltr (Z a0_tape (Z a0 5).toNat)) ≠ 0) → (∀ Z1 : Zt, Z1 = up Z a0 5 ((Z a0 5) + 1) → (V mX8_next k n 108 [some (r_ a0)] [] x Z1 Q)))))))))) :
    V mX8_next k n 108 [some (r_ a0)] [] x Z Q :=
  V_aload_n dX8_next_108 rfl (G_8_5 o_a0.1 lf_8_29 dX8_next_109 (V_aload_n dX8_next_112 rfl (G_8_4 o_a0.1 lf_8_25 dX8_next_113 (V_icmp_ge (tgt := 277) dX8_next_116 rfl h.1 h.2.1 (fun c1 => V_ret dX8_next_277 rfl (h.2.2.1 c1)) (fun c1 => V_aload_n dX8_next_119 rfl (G_8_3 o_a0.1 r_a0_tape lf_8_15 dX8_next_120 (V_aload_n dX8_next_123 rfl (G_8_5 o_a0.1 lf_8_29 dX8_next_124 (V_bald (t := 101) s_a0_tape (by decide) rfl (h.2.2.2 c1).1 (h.2.2.2 c1).2.1 (Nat.le_of_ble_eq_true rfl) dX8_next_127 (V_callS (k' := 0) (n' := 0) [i_ (Z a0_tape (Z a0 5).toNat)] [] okX8_isLetter lm_8_114 lsX8_isLetter (Nat.le_of_ble_eq_true rfl) (Nat.le_of_ble_eq_true rfl) (Nat.le_of_ble_eq_true rfl) (cat_of rfl) (Nat.le_of_ble_eq_true rfl) (Nat.zero_le _) (Nat.zero_le _) rfl dX8_next_128 (sp_X8_isLetter  (h.2.2.2 c1).2.2.1 (V_if_eq (tgt := 277) dX8_next_131 rfl (h.2.2.2 c1).2.2.2.1 (fun c2 => V_ret dX8_next_277 rfl ((h.2.2.2 c1).2.2.2.2.1 c2)) (fun c2 => V_aload_n dX8_next_134 rfl (V_dup dX8_next_135 rfl (G_8_5 o_a0.1 lf_8_29 dX8_next_136 (V_iconst dX8_next_139 (V_iadd dX8_next_140 (P_8_5 o_a0.1 lf_8_29 dX8_next_141 (V_nmZ (fun Z1 eZ1 => V_goto (tgt := 108) dX8_next_144 rfl (V_msk [true] rfl (((h.2.2.2 c1).2.2.2.2.2 c2) Z1 eZ1))))))))))))))))))))))
set_option maxRecDepth 20000 in
theorem b_X8_next_162 {k n : Nat} {x : Wx} {Z : Zt} {Q : Option Value → Wx → Zt → Prop} {a0 : Nat} {a0_tape : Nat} (r_a0_tape : x.2.1 a0 3 = some a0_tape) (o_a0 : Is8 x a0) (s_a0_tape : x.1 a0_tape = some (101, 600))
    (h : Rg (Z a0 5) ∧ Rg (Z a0 4) ∧ (((Z a0 4 ≤ Z a0 5) → (V mX8_next k n 201 [some (r_ a0)] [] x Z Q)) ∧ ((Z a0 5 < Z a0 4) → (0 ≤ Z a0 5 ∧ Z a0 5 < 600 ∧ (Rg (Z a0_tape (Z a0 5).toNat) ∧ (Rg (bI (dgt (Z a0_tape (Z a0 5).toNat))) ∧ (((bI (dgt (Z a0_tape (Z a0 5).toNat)) = 0) → (V mX8_next k n 201 [some (r_ a0)] [] x Z Q)) ∧ ((bI (dgt (Z a0_tape (Z a0 5).toNat)) ≠ 0) → (∀ Z1 : Zt, Z1 = up Z a0 5 ((Z a0 5) + 1) → (V mX8_next k n 162 [some (r_ a0)] [] x Z1 Q)))))))))) :
    V mX8_next k n 162 [some (r_ a0)] [] x Z Q :=
  V_aload_n dX8_next_162 rfl (G_8_5 o_a0.1 lf_8_29 dX8_next_163 (V_aload_n dX8_next_166 rfl (G_8_4 o_a0.1 lf_8_25 dX8_next_167 (V_icmp_ge (tgt := 201) dX8_next_170 rfl h.1 h.2.1 (fun c1 => V_msk [true] rfl (h.2.2.1 c1)) (fun c1 => V_aload_n dX8_next_173 rfl (G_8_3 o_a0.1 r_a0_tape lf_8_15 dX8_next_174 (V_aload_n dX8_next_177 rfl (G_8_5 o_a0.1 lf_8_29 dX8_next_178 (V_bald (t := 101) s_a0_tape (by decide) rfl (h.2.2.2 c1).1 (h.2.2.2 c1).2.1 (Nat.le_of_ble_eq_true rfl) dX8_next_181 (V_callS (k' := 0) (n' := 0) [i_ (Z a0_tape (Z a0 5).toNat)] [] okX8_isDigit lm_8_118 lsX8_isDigit (Nat.le_of_ble_eq_true rfl) (Nat.le_of_ble_eq_true rfl) (Nat.le_of_ble_eq_true rfl) (cat_of rfl) (Nat.le_of_ble_eq_true rfl) (Nat.zero_le _) (Nat.zero_le _) rfl dX8_next_182 (sp_X8_isDigit  (h.2.2.2 c1).2.2.1 (V_if_eq (tgt := 201) dX8_next_185 rfl (h.2.2.2 c1).2.2.2.1 (fun c2 => V_msk [true] rfl ((h.2.2.2 c1).2.2.2.2.1 c2)) (fun c2 => V_aload_n dX8_next_188 rfl (V_dup dX8_next_189 rfl (G_8_5 o_a0.1 lf_8_29 dX8_next_190 (V_iconst dX8_next_193 (V_iadd dX8_next_194 (P_8_5 o_a0.1 lf_8_29 dX8_next_195 (V_nmZ (fun Z1 eZ1 => V_goto (tgt := 162) dX8_next_198 rfl (V_msk [true] rfl (((h.2.2.2 c1).2.2.2.2.2 c2) Z1 eZ1))))))))))))))))))))))
set_option maxRecDepth 20000 in
theorem b_X8_next_201 {k n : Nat} {x : Wx} {Z : Zt} {Q : Option Value → Wx → Zt → Prop} {a0 : Nat} (o_a0 : Is8 x a0)
    (h : Rg ((Z a0 5) - (Z a0 7)) ∧ (((2 < (Z a0 5) - (Z a0 7)) → (V mX8_next k n 220 [none] [i_ 5, r_ a0] x Z Q)) ∧ (((Z a0 5) - (Z a0 7) ≤ 2) → (V mX8_next k n 220 [none] [i_ 2, r_ a0] x Z Q)))) :
    V mX8_next k n 201 [some (r_ a0)] [] x Z Q :=
  V_aload_n dX8_next_201 rfl (V_aload_n dX8_next_202 rfl (G_8_5 o_a0.1 lf_8_29 dX8_next_203 (V_aload_n dX8_next_206 rfl (G_8_7 o_a0.1 lf_8_111 dX8_next_207 (V_isub dX8_next_210 (V_iconst dX8_next_211 (V_icmp_gt (tgt := 219) dX8_next_212 rfl h.1 (rg_c rfl) (fun c1 => V_iconst dX8_next_219 (V_msk [false] rfl (h.2.1 c1))) (fun c1 => V_iconst dX8_next_215 (V_goto (tgt := 220) dX8_next_216 rfl (V_msk [false] rfl (h.2.2 c1)))))))))))
set_option maxRecDepth 20000 in
theorem b_X8_next_220 {k n : Nat} {x : Wx} {Z : Zt} {Q : Option Value → Wx → Zt → Prop} {b0_ : Nat} {t1 : Int} (o_b0 : Is8 x b0_)
    (h : ∀ Z1 : Zt, Z1 = up Z b0_ 6 t1 → (Q none x Z1)) :
    V mX8_next k n 220 [none] [i_ t1, r_ b0_] x Z Q :=
  P_8_6 o_b0.1 lf_8_45 dX8_next_220 (V_nmZ (fun Z1 eZ1 => V_goto (tgt := 277) dX8_next_223 rfl (V_ret dX8_next_277 rfl (h Z1 eZ1))))
set_option maxRecDepth 20000 in
theorem b_X8_next_264 {k n : Nat} {x : Wx} {Z : Zt} {Q : Option Value → Wx → Zt → Prop} {a0 : Nat} {b0_ : Nat} {t1 : Int} (o_b0 : Is8 x b0_) (o_a0 : Is8 x a0)
    (h : ∀ Z1 : Zt, Z1 = up Z b0_ 6 t1 → (∀ Z2 : Zt, Z2 = up Z1 a0 5 ((Z1 a0 5) + 1) → (Q none x Z2))) :
    V mX8_next k n 264 [some (r_ a0)] [i_ t1, r_ b0_] x Z Q :=
  P_8_6 o_b0.1 lf_8_45 dX8_next_264 (V_nmZ (fun Z1 eZ1 => V_aload_n dX8_next_267 rfl (V_dup dX8_next_268 rfl (G_8_5 o_a0.1 lf_8_29 dX8_next_269 (V_iconst dX8_next_272 (V_iadd dX8_next_273 (P_8_5 o_a0.1 lf_8_29 dX8_next_274 (V_nmZ (fun Z2 eZ2 => V_ret dX8_next_277 rfl ((h Z1 eZ1) Z2 eZ2))))))))))
theorem dX8_value_0 : decode cX8_value 0 = .ok (.iconst 0, 1) := by decide +kernel
theorem dX8_value_1 : decode cX8_value 1 = .ok (.istore_n 1, 1) := by decide +kernel
theorem dX8_value_2 : decode cX8_value 2 = .ok (.aload_n 0, 1) := by decide +kernel
theorem dX8_value_3 : decode cX8_value 3 = .ok (.getfield 111, 3) := by decide +kernel
theorem dX8_value_6 : decode cX8_value 6 = .ok (.istore_n 2, 1) := by decide +kernel
theorem dX8_value_7 : decode cX8_value 7 = .ok (.iload_n 2, 1) := by decide +kernel
theorem dX8_value_8 : decode cX8_value 8 = .ok (.aload_n 0, 1) := by decide +kernel
theorem dX8_value_9 : decode cX8_value 9 = .ok (.getfield 29, 3) := by decide +kernel
theorem dX8_value_12 : decode cX8_value 12 = .ok (.if_icmp .ge 32, 3) := by decide +kernel
theorem dX8_value_15 : decode cX8_value 15 = .ok (.iload_n 2, 1) := by decide +kernel
theorem dX8_value_16 : decode cX8_value 16 = .ok (.aload_n 0, 1) := by decide +kernel
theorem dX8_value_17 : decode cX8_value 17 = .ok (.getfield 25, 3) := by decide +kernel
theorem dX8_value_20 : decode cX8_value 20 = .ok (.if_icmp .ge 24, 3) := by decide +kernel
theorem dX8_value_23 : decode cX8_value 23 = .ok (.bipush 10, 2) := by decide +kernel
theorem dX8_value_25 : decode cX8_value 25 = .ok (.iload_n 1, 1) := by decide +kernel
theorem dX8_value_26 : decode cX8_value 26 = .ok (.imul, 1) := by decide +kernel
theorem dX8_value_27 : decode cX8_value 27 = .ok (.aload_n 0, 1) := by decide +kernel
theorem dX8_value_28 : decode cX8_value 28 = .ok (.getfield 15, 3) := by decide +kernel
theorem dX8_value_31 : decode cX8_value 31 = .ok (.iload_n 2, 1) := by decide +kernel
theorem dX8_value_32 : decode cX8_value 32 = .ok (.baload, 1) := by decide +kernel
theorem dX8_value_33 : decode cX8_value 33 = .ok (.iadd, 1) := by decide +kernel
theorem dX8_value_34 : decode cX8_value 34 = .ok (.bipush 48, 2) := by decide +kernel
theorem dX8_value_36 : decode cX8_value 36 = .ok (.isub, 1) := by decide +kernel
theorem dX8_value_37 : decode cX8_value 37 = .ok (.istore_n 1, 1) := by decide +kernel
theorem dX8_value_38 : decode cX8_value 38 = .ok (.iinc 2 1, 3) := by decide +kernel
theorem dX8_value_41 : decode cX8_value 41 = .ok (.goto (-34), 3) := by decide +kernel
theorem dX8_value_44 : decode cX8_value 44 = .ok (.iload_n 1, 1) := by decide +kernel
theorem dX8_value_45 : decode cX8_value 45 = .ok (.ireturn, 1) := by decide +kernel
set_option maxRecDepth 20000 in
theorem b_X8_value_0 {k n : Nat} {x : Wx} {Z : Zt} {Q : Option Value → Wx → Zt → Prop} {a0 : Nat} (o_a0 : Is8 x a0)
    (h : V mX8_value k n 7 [some (r_ a0), some (i_ 0), some (i_ (Z a0 7))] [] x Z Q) :
    V mX8_value k n 0 [some (r_ a0), none, none] [] x Z Q :=
  V_iconst dX8_value_0 (V_istore_n (lv' := [some (r_ a0), some (i_ 0), none]) dX8_value_1 (Nat.le_of_ble_eq_true rfl) rfl (V_aload_n dX8_value_2 rfl (G_8_7 o_a0.1 lf_8_111 dX8_value_3 (V_istore_n (lv' := [some (r_ a0), some (i_ 0), some (i_ (Z a0 7))]) dX8_value_6 (Nat.le_of_ble_eq_true rfl) rfl (V_msk [true, true, true] rfl h)))))
set_option maxRecDepth 20000 in
theorem b_X8_value_7 {k n : Nat} {x : Wx} {Z : Zt} {Q : Option Value → Wx → Zt → Prop} {a0 : Nat} {v1 : Int} {v2 : Int} {a0_tape : Nat} (r_a0_tape : x.2.1 a0 3 = some a0_tape) (o_a0 : Is8 x a0) (s_a0_tape : x.1 a0_tape = some (101, 600))
    (h : Rg v2 ∧ Rg (Z a0 5) ∧ (((Z a0 5 ≤ v2) → (V mX8_value k n 44 [none, some (i_ v1), none] [] x Z Q)) ∧ ((v2 < Z a0 5) → (Rg (Z a0 4) ∧ (((Z a0 4 ≤ v2) → (V mX8_value k n 44 [none, some (i_ v1), none] [] x Z Q)) ∧ ((v2 < Z a0 4) → (0 ≤ v2 ∧ v2 < 600 ∧ (V mX8_value k n 7 [some (r_ a0), some (i_ (((10 * v1) + (Z a0_tape v2.toNat)) - 48)), some (i_ (v2 + 1))] [] x Z Q)))))))) :
    V mX8_value k n 7 [some (r_ a0), some (i_ v1), some (i_ v2)] [] x Z Q :=
  V_iload_n dX8_value_7 rfl (V_aload_n dX8_value_8 rfl (G_8_5 o_a0.1 lf_8_29 dX8_value_9 (V_icmp_ge (tgt := 44) dX8_value_12 rfl h.1 h.2.1 (fun c1 => V_msk [false, true, false] rfl (h.2.2.1 c1)) (fun c1 => V_iload_n dX8_value_15 rfl (V_aload_n dX8_value_16 rfl (G_8_4 o_a0.1 lf_8_25 dX8_value_17 (V_icmp_ge (tgt := 44) dX8_value_20 rfl h.1 (h.2.2.2 c1).1 (fun c2 => V_msk [false, true, false] rfl ((h.2.2.2 c1).2.1 c2)) (fun c2 => V_bipush dX8_value_23 rfl (V_iload_n dX8_value_25 rfl (V_imul dX8_value_26 (V_aload_n dX8_value_27 rfl (G_8_3 o_a0.1 r_a0_tape lf_8_15 dX8_value_28 (V_iload_n dX8_value_31 rfl (V_bald (t := 101) s_a0_tape (by decide) rfl ((h.2.2.2 c1).2.2 c2).1 ((h.2.2.2 c1).2.2 c2).2.1 (Nat.le_of_ble_eq_true rfl) dX8_value_32 (V_iadd dX8_value_33 (V_bipush dX8_value_34 rfl (V_isub dX8_value_36 (V_istore_n (lv' := [some (r_ a0), some (i_ (((10 * v1) + (Z a0_tape v2.toNat)) - 48)), some (i_ v2)]) dX8_value_37 (Nat.le_of_ble_eq_true rfl) rfl (V_iinc (lv' := [some (r_ a0), some (i_ (((10 * v1) + (Z a0_tape v2.toNat)) - 48)), some (i_ (v2 + 1))]) dX8_value_38 rfl (Nat.le_of_ble_eq_true rfl) rfl (V_goto (tgt := 7) dX8_value_41 rfl (V_msk [true, true, true] rfl ((h.2.2.2 c1).2.2 c2).2.2)))))))))))))))))))))
set_option maxRecDepth 20000 in
theorem b_X8_value_44 {k n : Nat} {x : Wx} {Z : Zt} {Q : Option Value → Wx → Zt → Prop} {v1 : Int} 
    (h : Q (some (i_ v1)) x Z) :
    V mX8_value k n 44 [none, some (i_ v1), none] [] x Z Q :=
  V_iload_n dX8_value_44 rfl (V_iret (ty := .int) dX8_value_45 rfl rfl h)
theorem dX8_isWord_0 : decode cX8_isWord 0 = .ok (.aload_n 0, 1) := by decide +kernel
theorem dX8_isWord_1 : decode cX8_isWord 1 = .ok (.getfield 45, 3) := by decide +kernel
theorem dX8_isWord_4 : decode cX8_isWord 4 = .ok (.iconst 1, 1) := by decide +kernel
theorem dX8_isWord_5 : decode cX8_isWord 5 = .ok (.if_icmp .ne 19, 3) := by decide +kernel
theorem dX8_isWord_8 : decode cX8_isWord 8 = .ok (.aload_n 0, 1) := by decide +kernel
theorem dX8_isWord_9 : decode cX8_isWord 9 = .ok (.getfield 29, 3) := by decide +kernel
theorem dX8_isWord_12 : decode cX8_isWord 12 = .ok (.aload_n 0, 1) := by decide +kernel
theorem dX8_isWord_13 : decode cX8_isWord 13 = .ok (.getfield 111, 3) := by decide +kernel
theorem dX8_isWord_16 : decode cX8_isWord 16 = .ok (.isub, 1) := by decide +kernel
theorem dX8_isWord_17 : decode cX8_isWord 17 = .ok (.aload_n 1, 1) := by decide +kernel
theorem dX8_isWord_18 : decode cX8_isWord 18 = .ok (.invokevirtual 121, 3) := by decide +kernel
theorem dX8_isWord_21 : decode cX8_isWord 21 = .ok (.if_icmp .eq 5, 3) := by decide +kernel
theorem dX8_isWord_24 : decode cX8_isWord 24 = .ok (.iconst 0, 1) := by decide +kernel
theorem dX8_isWord_25 : decode cX8_isWord 25 = .ok (.ireturn, 1) := by decide +kernel
theorem dX8_isWord_26 : decode cX8_isWord 26 = .ok (.iconst 0, 1) := by decide +kernel
theorem dX8_isWord_27 : decode cX8_isWord 27 = .ok (.istore_n 2, 1) := by decide +kernel
theorem dX8_isWord_28 : decode cX8_isWord 28 = .ok (.iload_n 2, 1) := by decide +kernel
theorem dX8_isWord_29 : decode cX8_isWord 29 = .ok (.aload_n 1, 1) := by decide +kernel
theorem dX8_isWord_30 : decode cX8_isWord 30 = .ok (.invokevirtual 121, 3) := by decide +kernel
theorem dX8_isWord_33 : decode cX8_isWord 33 = .ok (.if_icmp .ge 43, 3) := by decide +kernel
theorem dX8_isWord_36 : decode cX8_isWord 36 = .ok (.aload_n 0, 1) := by decide +kernel
theorem dX8_isWord_37 : decode cX8_isWord 37 = .ok (.getfield 111, 3) := by decide +kernel
theorem dX8_isWord_40 : decode cX8_isWord 40 = .ok (.iload_n 2, 1) := by decide +kernel
theorem dX8_isWord_41 : decode cX8_isWord 41 = .ok (.iadd, 1) := by decide +kernel
theorem dX8_isWord_42 : decode cX8_isWord 42 = .ok (.aload_n 0, 1) := by decide +kernel
theorem dX8_isWord_43 : decode cX8_isWord 43 = .ok (.getfield 25, 3) := by decide +kernel
theorem dX8_isWord_46 : decode cX8_isWord 46 = .ok (.if_icmp .ge 30, 3) := by decide +kernel
theorem dX8_isWord_49 : decode cX8_isWord 49 = .ok (.aload_n 0, 1) := by decide +kernel
theorem dX8_isWord_50 : decode cX8_isWord 50 = .ok (.getfield 15, 3) := by decide +kernel
theorem dX8_isWord_53 : decode cX8_isWord 53 = .ok (.aload_n 0, 1) := by decide +kernel
theorem dX8_isWord_54 : decode cX8_isWord 54 = .ok (.getfield 111, 3) := by decide +kernel
theorem dX8_isWord_57 : decode cX8_isWord 57 = .ok (.iload_n 2, 1) := by decide +kernel
theorem dX8_isWord_58 : decode cX8_isWord 58 = .ok (.iadd, 1) := by decide +kernel
theorem dX8_isWord_59 : decode cX8_isWord 59 = .ok (.baload, 1) := by decide +kernel
theorem dX8_isWord_60 : decode cX8_isWord 60 = .ok (.aload_n 1, 1) := by decide +kernel
theorem dX8_isWord_61 : decode cX8_isWord 61 = .ok (.iload_n 2, 1) := by decide +kernel
theorem dX8_isWord_62 : decode cX8_isWord 62 = .ok (.invokevirtual 125, 3) := by decide +kernel
theorem dX8_isWord_65 : decode cX8_isWord 65 = .ok (.if_icmp .eq 5, 3) := by decide +kernel
theorem dX8_isWord_68 : decode cX8_isWord 68 = .ok (.iconst 0, 1) := by decide +kernel
theorem dX8_isWord_69 : decode cX8_isWord 69 = .ok (.ireturn, 1) := by decide +kernel
theorem dX8_isWord_70 : decode cX8_isWord 70 = .ok (.iinc 2 1, 3) := by decide +kernel
theorem dX8_isWord_73 : decode cX8_isWord 73 = .ok (.goto (-45), 3) := by decide +kernel
theorem dX8_isWord_76 : decode cX8_isWord 76 = .ok (.iconst 1, 1) := by decide +kernel
theorem dX8_isWord_77 : decode cX8_isWord 77 = .ok (.ireturn, 1) := by decide +kernel
set_option maxRecDepth 20000 in
theorem b_X8_isWord_0 {k n : Nat} {x : Wx} {Z : Zt} {Q : Option Value → Wx → Zt → Prop} {a0 : Nat} {j : Nat × Nat × String} (hj : j ∈ strs) (o_a0 : Is8 x a0)
    (h : Rg (Z a0 6) ∧ (((Z a0 6 ≠ 1) → (V mX8_isWord k n 24 [none, none, none] [] x Z Q)) ∧ ((Z a0 6 = 1) → (KT x ∧ (Rg ((Z a0 5) - (Z a0 7)) ∧ Rg ((wd (j.1)).length : Int) ∧ ((((Z a0 5) - (Z a0 7) = ((wd (j.1)).length : Int)) → (V mX8_isWord k n 28 [some (r_ a0), some (r_ (x.2.2.2 j.1)), some (i_ 0)] [] x Z Q)) ∧ (((Z a0 5) - (Z a0 7) ≠ ((wd (j.1)).length : Int)) → (V mX8_isWord k n 24 [none, none, none] [] x Z Q)))))))) :
    V mX8_isWord k n 0 [some (r_ a0), some (r_ (x.2.2.2 j.1)), none] [] x Z Q :=
  V_aload_n dX8_isWord_0 rfl (G_8_6 o_a0.1 lf_8_45 dX8_isWord_1 (V_iconst dX8_isWord_4 (V_icmp_ne (tgt := 24) dX8_isWord_5 rfl h.1 (rg_c rfl) (fun c1 => V_msk [false, false, false] rfl (h.2.1 c1)) (fun c1 => V_aload_n dX8_isWord_8 rfl (G_8_5 o_a0.1 lf_8_29 dX8_isWord_9 (V_aload_n dX8_isWord_12 rfl (G_8_7 o_a0.1 lf_8_111 dX8_isWord_13 (V_isub dX8_isWord_16 (V_aload_n dX8_isWord_17 rfl (V_callSt (k' := 0) (n' := 0) (j := j) hj [] [i_ ((Z a0 5) - (Z a0 7))] okJ0_length_8abf5 rfl lm_8_121 liJ0_length_8abf5 lqJ0_length_8abf5 (Nat.le_of_ble_eq_true rfl) (Nat.le_of_ble_eq_true rfl) (Nat.le_of_ble_eq_true rfl) (cat_of rfl) (Nat.le_of_ble_eq_true rfl) (Nat.zero_le _) (Nat.zero_le _) rfl dX8_isWord_18 (sp_J0_length_8abf5 hj (h.2.2 c1).1 (V_icmp_eq (tgt := 26) dX8_isWord_21 rfl (h.2.2 c1).2.1 (h.2.2 c1).2.2.1 (fun c2 => V_iconst dX8_isWord_26 (V_istore_n (lv' := [some (r_ a0), some (r_ (x.2.2.2 j.1)), some (i_ 0)]) dX8_isWord_27 (Nat.le_of_ble_eq_true rfl) rfl (V_msk [true, true, true] rfl ((h.2.2 c1).2.2.2.1 c2)))) (fun c2 => V_msk [false, false, false] rfl ((h.2.2 c1).2.2.2.2 c2))))))))))))))
set_option maxRecDepth 20000 in
theorem b_X8_isWord_24 {k n : Nat} {x : Wx} {Z : Zt} {Q : Option Value → Wx → Zt → Prop}  
    (h : Q (some (i_ 0)) x Z) :
    V mX8_isWord k n 24 [none, none, none] [] x Z Q :=
  V_iconst dX8_isWord_24 (V_iret (ty := .boolean) dX8_isWord_25 rfl rfl h)
set_option maxRecDepth 20000 in
theorem b_X8_isWord_28 {k n : Nat} {x : Wx} {Z : Zt} {Q : Option Value → Wx → Zt → Prop} {a0 : Nat} {j : Nat × Nat × String} {v2 : Int} {a0_tape : Nat} (hj : j ∈ strs) (r_a0_tape : x.2.1 a0 3 = some a0_tape) (o_a0 : Is8 x a0) (s_a0_tape : x.1 a0_tape = some (101, 600))
    (h : KT x ∧ (Rg v2 ∧ Rg ((wd (j.1)).length : Int) ∧ (((((wd (j.1)).length : Int) ≤ v2) → (V mX8_isWord k n 76 [none, none, none] [] x Z Q)) ∧ ((v2 < ((wd (j.1)).length : Int)) → (Rg ((Z a0 7) + v2) ∧ Rg (Z a0 4) ∧ (((Z a0 4 ≤ (Z a0 7) + v2) → (V mX8_isWord k n 76 [none, none, none] [] x Z Q)) ∧ (((Z a0 7) + v2 < Z a0 4) → (0 ≤ (Z a0 7) + v2 ∧ (Z a0 7) + v2 < 600 ∧ (KU x Z ∧ (0 ≤ v2 ∧ v2 < (wd (j.1)).length) ∧ (Rg (Z a0_tape ((Z a0 7) + v2).toNat) ∧ Rg ((wd (j.1)).getD (Int.toNat v2) 0) ∧ (((Z a0_tape ((Z a0 7) + v2).toNat = (wd (j.1)).getD (Int.toNat v2) 0) → (V mX8_isWord k n 28 [some (r_ a0), some (r_ (x.2.2.2 j.1)), some (i_ (v2 + 1))] [] x Z Q)) ∧ ((Z a0_tape ((Z a0 7) + v2).toNat ≠ (wd (j.1)).getD (Int.toNat v2) 0) → (Q (some (i_ 0)) x Z))))))))))))) :
    V mX8_isWord k n 28 [some (r_ a0), some (r_ (x.2.2.2 j.1)), some (i_ v2)] [] x Z Q :=
  V_iload_n dX8_isWord_28 rfl (V_aload_n dX8_isWord_29 rfl (V_callSt (k' := 0) (n' := 0) (j := j) hj [] [i_ v2] okJ0_length_8abf5 rfl lm_8_121 liJ0_length_8abf5 lqJ0_length_8abf5 (Nat.le_of_ble_eq_true rfl) (Nat.le_of_ble_eq_true rfl) (Nat.le_of_ble_eq_true rfl) (cat_of rfl) (Nat.le_of_ble_eq_true rfl) (Nat.zero_le _) (Nat.zero_le _) rfl dX8_isWord_30 (sp_J0_length_8abf5 hj h.1 (V_icmp_ge (tgt := 76) dX8_isWord_33 rfl h.2.1 h.2.2.1 (fun c1 => V_msk [false, false, false] rfl (h.2.2.2.1 c1)) (fun c1 => V_aload_n dX8_isWord_36 rfl (G_8_7 o_a0.1 lf_8_111 dX8_isWord_37 (V_iload_n dX8_isWord_40 rfl (V_iadd dX8_isWord_41 (V_aload_n dX8_isWord_42 rfl (G_8_4 o_a0.1 lf_8_25 dX8_isWord_43 (V_icmp_ge (tgt := 76) dX8_isWord_46 rfl (h.2.2.2.2 c1).1 (h.2.2.2.2 c1).2.1 (fun c2 => V_msk [false, false, false] rfl ((h.2.2.2.2 c1).2.2.1 c2)) (fun c2 => V_aload_n dX8_isWord_49 rfl (G_8_3 o_a0.1 r_a0_tape lf_8_15 dX8_isWord_50 (V_aload_n dX8_isWord_53 rfl (G_8_7 o_a0.1 lf_8_111 dX8_isWord_54 (V_iload_n dX8_isWord_57 rfl (V_iadd dX8_isWord_58 (V_bald (t := 101) s_a0_tape (by decide) rfl ((h.2.2.2.2 c1).2.2.2 c2).1 ((h.2.2.2.2 c1).2.2.2 c2).2.1 (Nat.le_of_ble_eq_true rfl) dX8_isWord_59 (V_aload_n dX8_isWord_60 rfl (V_iload_n dX8_isWord_61 rfl (V_callSt (k' := 0) (n' := 0) (j := j) hj [i_ v2] [i_ (Z a0_tape ((Z a0 7) + v2).toNat)] okJ0_charAt_5068e rfl lm_8_125 liJ0_charAt_5068e lqJ0_charAt_5068e (Nat.le_of_ble_eq_true rfl) (Nat.le_of_ble_eq_true rfl) (Nat.le_of_ble_eq_true rfl) (cat_of rfl) (Nat.le_of_ble_eq_true rfl) (Nat.zero_le _) (Nat.zero_le _) rfl dX8_isWord_62 (sp_J0_charAt_5068e hj h.1 ((h.2.2.2.2 c1).2.2.2 c2).2.2.1 ((h.2.2.2.2 c1).2.2.2 c2).2.2.2.1 (V_icmp_eq (tgt := 70) dX8_isWord_65 rfl ((h.2.2.2.2 c1).2.2.2 c2).2.2.2.2.1 ((h.2.2.2.2 c1).2.2.2 c2).2.2.2.2.2.1 (fun c3 => V_iinc (lv' := [some (r_ a0), some (r_ (x.2.2.2 j.1)), some (i_ (v2 + 1))]) dX8_isWord_70 rfl (Nat.le_of_ble_eq_true rfl) rfl (V_goto (tgt := 28) dX8_isWord_73 rfl (V_msk [true, true, true] rfl (((h.2.2.2.2 c1).2.2.2 c2).2.2.2.2.2.2.1 c3)))) (fun c3 => V_iconst dX8_isWord_68 (V_iret (ty := .boolean) dX8_isWord_69 rfl rfl (((h.2.2.2.2 c1).2.2.2 c2).2.2.2.2.2.2.2 c3))))))))))))))))))))))))))
set_option maxRecDepth 20000 in
theorem b_X8_isWord_76 {k n : Nat} {x : Wx} {Z : Zt} {Q : Option Value → Wx → Zt → Prop}  
    (h : Q (some (i_ 1)) x Z) :
    V mX8_isWord k n 76 [none, none, none] [] x Z Q :=
  V_iconst dX8_isWord_76 (V_iret (ty := .boolean) dX8_isWord_77 rfl rfl h)
theorem dX8_stop_0 : decode cX8_stop 0 = .ok (.aload_n 0, 1) := by decide +kernel
theorem dX8_stop_1 : decode cX8_stop 1 = .ok (.getfield 32, 3) := by decide +kernel
theorem dX8_stop_4 : decode cX8_stop 4 = .ok (.iconst 1, 1) := by decide +kernel
theorem dX8_stop_5 : decode cX8_stop 5 = .ok (.if_icmp .eq 16, 3) := by decide +kernel
theorem dX8_stop_8 : decode cX8_stop 8 = .ok (.aload_n 0, 1) := by decide +kernel
theorem dX8_stop_9 : decode cX8_stop 9 = .ok (.iconst 1, 1) := by decide +kernel
theorem dX8_stop_10 : decode cX8_stop 10 = .ok (.putfield 32, 3) := by decide +kernel
theorem dX8_stop_13 : decode cX8_stop 13 = .ok (.aload_n 0, 1) := by decide +kernel
theorem dX8_stop_14 : decode cX8_stop 14 = .ok (.aload_n 0, 1) := by decide +kernel
theorem dX8_stop_15 : decode cX8_stop 15 = .ok (.getfield 111, 3) := by decide +kernel
theorem dX8_stop_18 : decode cX8_stop 18 = .ok (.putfield 35, 3) := by decide +kernel
theorem dX8_stop_21 : decode cX8_stop 21 = .ok (.aload_n 0, 1) := by decide +kernel
theorem dX8_stop_22 : decode cX8_stop 22 = .ok (.iconst 5, 1) := by decide +kernel
theorem dX8_stop_23 : decode cX8_stop 23 = .ok (.putfield 45, 3) := by decide +kernel
theorem dX8_stop_26 : decode cX8_stop 26 = .ok (.return_, 1) := by decide +kernel
set_option maxRecDepth 20000 in
theorem b_X8_stop_0 {k n : Nat} {x : Wx} {Z : Zt} {Q : Option Value → Wx → Zt → Prop} {a0 : Nat} (o_a0 : Is8 x a0)
    (h : Rg (Z a0 1) ∧ (((Z a0 1 = 1) → (V mX8_stop k n 21 [some (r_ a0)] [] x Z Q)) ∧ ((Z a0 1 ≠ 1) → (∀ Z1 : Zt, Z1 = up Z a0 1 1 → (∀ Z2 : Zt, Z2 = up Z1 a0 2 (Z1 a0 7) → (V mX8_stop k n 21 [some (r_ a0)] [] x Z2 Q)))))) :
    V mX8_stop k n 0 [some (r_ a0)] [] x Z Q :=
  V_aload_n dX8_stop_0 rfl (G_8_1 o_a0.1 lf_8_32 dX8_stop_1 (V_iconst dX8_stop_4 (V_icmp_eq (tgt := 21) dX8_stop_5 rfl h.1 (rg_c rfl) (fun c1 => V_msk [true] rfl (h.2.1 c1)) (fun c1 => V_aload_n dX8_stop_8 rfl (V_iconst dX8_stop_9 (P_8_1 o_a0.1 lf_8_32 dX8_stop_10 (V_nmZ (fun Z1 eZ1 => V_aload_n dX8_stop_13 rfl (V_aload_n dX8_stop_14 rfl (G_8_7 o_a0.1 lf_8_111 dX8_stop_15 (P_8_2 o_a0.1 lf_8_35 dX8_stop_18 (V_nmZ (fun Z2 eZ2 => V_msk [true] rfl (((h.2.2 c1) Z1 eZ1) Z2 eZ2))))))))))))))
set_option maxRecDepth 20000 in
theorem b_X8_stop_21 {k n : Nat} {x : Wx} {Z : Zt} {Q : Option Value → Wx → Zt → Prop} {a0 : Nat} (o_a0 : Is8 x a0)
    (h : ∀ Z1 : Zt, Z1 = up Z a0 6 5 → (Q none x Z1)) :
    V mX8_stop k n 21 [some (r_ a0)] [] x Z Q :=
  V_aload_n dX8_stop_21 rfl (V_iconst dX8_stop_22 (P_8_6 o_a0.1 lf_8_45 dX8_stop_23 (V_nmZ (fun Z1 eZ1 => V_ret dX8_stop_26 rfl (h Z1 eZ1)))))
theorem dX8_note_0 : decode cX8_note 0 = .ok (.aload_n 0, 1) := by decide +kernel
theorem dX8_note_1 : decode cX8_note 1 = .ok (.getfield 32, 3) := by decide +kernel
theorem dX8_note_4 : decode cX8_note 4 = .ok (.ifCond .ne 16, 3) := by decide +kernel
theorem dX8_note_7 : decode cX8_note 7 = .ok (.aload_n 0, 1) := by decide +kernel
theorem dX8_note_8 : decode cX8_note 8 = .ok (.iload_n 1, 1) := by decide +kernel
theorem dX8_note_9 : decode cX8_note 9 = .ok (.putfield 32, 3) := by decide +kernel
theorem dX8_note_12 : decode cX8_note 12 = .ok (.aload_n 0, 1) := by decide +kernel
theorem dX8_note_13 : decode cX8_note 13 = .ok (.aload_n 0, 1) := by decide +kernel
theorem dX8_note_14 : decode cX8_note 14 = .ok (.getfield 111, 3) := by decide +kernel
theorem dX8_note_17 : decode cX8_note 17 = .ok (.putfield 35, 3) := by decide +kernel
theorem dX8_note_20 : decode cX8_note 20 = .ok (.return_, 1) := by decide +kernel
set_option maxRecDepth 20000 in
theorem b_X8_note_0 {k n : Nat} {x : Wx} {Z : Zt} {Q : Option Value → Wx → Zt → Prop} {a0 : Nat} {v1 : Int} (o_a0 : Is8 x a0)
    (h : Rg (Z a0 1) ∧ (((Z a0 1 ≠ 0) → (Q none x Z)) ∧ ((Z a0 1 = 0) → (∀ Z1 : Zt, Z1 = up Z a0 1 v1 → (∀ Z2 : Zt, Z2 = up Z1 a0 2 (Z1 a0 7) → (Q none x Z2)))))) :
    V mX8_note k n 0 [some (r_ a0), some (i_ v1)] [] x Z Q :=
  V_aload_n dX8_note_0 rfl (G_8_1 o_a0.1 lf_8_32 dX8_note_1 (V_if_ne (tgt := 20) dX8_note_4 rfl h.1 (fun c1 => V_ret dX8_note_20 rfl (h.2.1 c1)) (fun c1 => V_aload_n dX8_note_7 rfl (V_iload_n dX8_note_8 rfl (P_8_1 o_a0.1 lf_8_32 dX8_note_9 (V_nmZ (fun Z1 eZ1 => V_aload_n dX8_note_12 rfl (V_aload_n dX8_note_13 rfl (G_8_7 o_a0.1 lf_8_111 dX8_note_14 (P_8_2 o_a0.1 lf_8_35 dX8_note_17 (V_nmZ (fun Z2 eZ2 => V_ret dX8_note_20 rfl (((h.2.2 c1) Z1 eZ1) Z2 eZ2)))))))))))))
theorem upf_at (f : Nat → Int) (i : Nat) (v : Int) : upf f i v i = v := if_pos rfl
theorem upf_ne (f : Nat → Int) {i j : Nat} (v : Int) (h : j ≠ i) : upf f i v j = f j := if_neg h
theorem upf_id {f : Nat → Int} {i : Nat} {v : Int} (h : f i = v) : upf f i v = f := funext fun j => by
  unfold upf
  by_cases c : j = i
  · rw [if_pos c, c, h]
  · rw [if_neg c]
theorem upf_two (f : Nat → Int) (i : Nat) (v w : Int) : upf (upf f i v) i w = upf f i w := funext fun j => by
  unfold upf
  by_cases c : j = i
  · rw [if_pos c, if_pos c]
  · rw [if_neg c, if_neg c, if_neg c]
theorem upf_comm (f : Nat → Int) {i l : Nat} (v w : Int) (h : i ≠ l) : upf (upf f i v) l w = upf (upf f l w) i v := funext fun j => by
  unfold upf
  by_cases c : j = i
  · rw [if_neg (by omega), if_pos c, if_pos c]
  · rw [if_neg c, if_neg c]
theorem nx3_eq (f : Nat → Int) (e k q : Int) : upf (upf (upf (upf f 5 q) 7 q) 6 k) 5 e = nx3 f e k q := funext fun j => by
  by_cases c5 : j = 5
  · subst c5; rfl
  · by_cases c6 : j = 6
    · subst c6; rfl
    · by_cases c7 : j = 7
      · subst c7; rfl
      · simp only [upf, nx3, if_neg c5, if_neg c6, if_neg c7]
theorem BR.rg {s : Nat → Int} (h : BR s) {i : Nat} (hi : i < 600) : Rg (s i) := by
  have := h i hi
  exact ⟨by omega, by omega⟩
theorem sp_X8_next {k n : Nat} {x : Wx} {Z : Zt} {Q : Option Value → Wx → Zt → Prop} {a tp : Nat} (o : Is8 x a) (hr : x.2.1 a 3 = some tp) (hs : x.1 tp = some (101, 600)) (hi : NInv (Z a)) (hb : BR (Z tp)) (h : Q none x (setR Z a (nxF (Z tp) (Z a)))) : V mX8_next k n 0 [some (r_ a)] [] x Z Q := by
  have hne : tp ≠ a := fun e => by rw [e, o.1] at hs; cases hs
  have at_tp : ∀ g : Nat → Int, setR Z a g tp = Z tp := fun g => setR_ne Z g hne
  refine b_X8_next_0 o ⟨⟨by have := hi.2.2; omega, by have := hi.2.2; omega⟩, fun c => ?_, fun c => ?_⟩
  · unfold nxF at h
    rw [if_neg c] at h
    obtain ⟨⟨h41, h42⟩, ⟨h75, h54⟩, -⟩ := hi
    have lpL : ∀ (m p : Nat) (g : Nat → Int), g 5 = p → g 4 = Z a 4 → p + m = (Z a 4).toNat → Q none x (setR Z a (upf g 5 (wh ltr (Z tp) m p : Nat))) → V mX8_next k n 108 [some (r_ a)] [] x (setR Z a g) Q := by
      intro m
      induction m with
      | zero =>
        intro p g g5 g4 hp hq
        refine b_X8_next_108 hr o hs ?_
        rw [setR_at, at_tp, g5, g4]
        unfold wh at hq
        rw [upf_id g5] at hq
        exact ⟨⟨by omega, by omega⟩, ⟨by omega, by omega⟩, fun _ => hq, fun c => by omega⟩
      | succ m ih =>
        intro p g g5 g4 hp hq
        refine b_X8_next_108 hr o hs ?_
        rw [setR_at, at_tp, g5, g4]
        unfold wh at hq
        refine ⟨⟨by omega, by omega⟩, ⟨by omega, by omega⟩, fun c => by omega, fun c => ⟨by omega, by omega, hb.rg (by omega), bI_rg _, fun c2 => ?_, fun c2 Z1 e1 => ?_⟩⟩
        · have c3 := bI_0 c2
          rw [show ((p : Int)).toNat = p from Int.toNat_natCast p] at c3
          rw [if_neg (by rw [c3]; decide), upf_id g5] at hq
          exact hq
        · have c3 := bI_1 c2
          rw [show ((p : Int)).toNat = p from Int.toNat_natCast p] at c3
          rw [if_pos c3] at hq
          rw [up_setR] at e1
          rw [e1]
          refine ih (p + 1) _ (by rw [upf_at]; omega) (by rw [upf_ne _ _ (by decide)]; exact g4) (by omega) ?_
          rw [upf_two]; exact hq
    have lpD : ∀ (m p : Nat) (g : Nat → Int), g 5 = p → g 4 = Z a 4 → p + m = (Z a 4).toNat → V mX8_next k n 201 [some (r_ a)] [] x (setR Z a (upf g 5 (wh dgt (Z tp) m p : Nat))) Q → V mX8_next k n 162 [some (r_ a)] [] x (setR Z a g) Q := by
      intro m
      induction m with
      | zero =>
        intro p g g5 g4 hp hq
        refine b_X8_next_162 hr o hs ?_
        rw [setR_at, at_tp, g5, g4]
        unfold wh at hq
        rw [upf_id g5] at hq
        exact ⟨⟨by omega, by omega⟩, ⟨by omega, by omega⟩, fun _ => hq, fun c => by omega⟩
      | succ m ih =>
        intro p g g5 g4 hp hq
        refine b_X8_next_162 hr o hs ?_
        rw [setR_at, at_tp, g5, g4]
        unfold wh at hq
        refine ⟨⟨by omega, by omega⟩, ⟨by omega, by omega⟩, fun c => by omega, fun c => ⟨by omega, by omega, hb.rg (by omega), bI_rg _, fun c2 => ?_, fun c2 Z1 e1 => ?_⟩⟩
        · have c3 := bI_0 c2
          rw [show ((p : Int)).toNat = p from Int.toNat_natCast p] at c3
          rw [if_neg (by rw [c3]; decide), upf_id g5] at hq
          exact hq
        · have c3 := bI_1 c2
          rw [show ((p : Int)).toNat = p from Int.toNat_natCast p] at c3
          rw [if_pos c3] at hq
          rw [up_setR] at e1
          rw [e1]
          refine ih (p + 1) _ (by rw [upf_at]; omega) (by rw [upf_ne _ _ (by decide)]; exact g4) (by omega) ?_
          rw [upf_two]; exact hq
    have lpB : ∀ (m p : Nat) (g : Nat → Int), g 5 = p → g 4 = Z a 4 → p + m = (Z a 4).toNat → V mX8_next k n 61 [some (r_ a)] [] x (setR Z a (upf g 5 (wh blk (Z tp) m p : Nat))) Q → V mX8_next k n 9 [some (r_ a)] [] x (setR Z a g) Q := by
      intro m
      induction m with
      | zero =>
        intro p g g5 g4 hp hq
        refine b_X8_next_9 hr o hs ?_
        rw [setR_at, at_tp, g5, g4]
        unfold wh at hq
        rw [upf_id g5] at hq
        exact ⟨⟨by omega, by omega⟩, ⟨by omega, by omega⟩, fun _ => hq, fun c => by omega⟩
      | succ m ih =>
        intro p g g5 g4 hp hq
        have go : blk (Z tp p) = true → V mX8_next k n 48 [some (r_ a)] [] x (setR Z a g) Q := by
          intro c3
          unfold wh at hq
          rw [if_pos c3] at hq
          refine b_X8_next_48 o fun Z1 e1 => ?_
          rw [up_setR, setR_at, g5] at e1
          rw [e1]
          refine ih (p + 1) _ (by rw [upf_at]; omega) (by rw [upf_ne _ _ (by decide)]; exact g4) (by omega) ?_
          rw [upf_two]; exact hq
        refine b_X8_next_9 hr o hs ?_
        rw [setR_at, at_tp, g5, g4, show ((p : Int)).toNat = p from Int.toNat_natCast p]
        unfold blk at go
        refine ⟨⟨by omega, by omega⟩, ⟨by omega, by omega⟩, fun c => by omega, fun c => ⟨by omega, by omega, hb.rg (by omega), fun c2 => go (decide_eq_true (Or.inl c2)), fun c2 => ⟨fun c3 => ?_, fun c3 => go (decide_eq_true (Or.inr c3))⟩⟩⟩
        unfold wh at hq
        rw [if_neg (by unfold blk; rw [decide_eq_true_eq]; omega), upf_id g5] at hq
        exact hq
    have hstart : V mX8_next k n 9 [some (r_ a)] [] x (setR Z a (Z a)) Q := by
      refine lpB ((Z a 4).toNat - (Z a 5).toNat) (Z a 5).toNat (Z a) (by omega) rfl (by omega) ?_
      have ht := tok_ok (Z tp) (n := (Z a 4).toNat) (p := (Z a 5).toNat) (by omega)
      have hq : wh blk (Z tp) ((Z a 4).toNat - (Z a 5).toNat) (Z a 5).toNat = tokQ (Z tp) (Z a 4).toNat (Z a 5).toNat := rfl
      rw [hq]
      generalize tokQ (Z tp) (Z a 4).toNat (Z a 5).toNat = q at ht h ⊢
      refine b_X8_next_61 hr o hs fun Z1 e1 => ?_
      rw [up_setR, setR_at, upf_at] at e1
      have g5 : upf (upf (Z a) 5 (q : Int)) 7 (q : Int) 5 = q := rfl
      have g4 : upf (upf (Z a) 5 (q : Int)) 7 (q : Int) 4 = Z a 4 := rfl
      have g7 : upf (upf (Z a) 5 (q : Int)) 7 (q : Int) 7 = q := rfl
      have gn := nx3_eq (Z a)
      rw [e1, setR_at, at_tp]
      generalize hg : upf (upf (Z a) 5 (q : Int)) 7 (q : Int) = g at g5 g4 g7
      have gn : ∀ e k : Int, upf (upf g 6 k) 5 e = nx3 (Z a) e k q := fun e k => by rw [← hg]; exact nx3_eq (Z a) e k q
      rw [g5, g4, show ((q : Int)).toNat = q from Int.toNat_natCast q]
      have hfin : ∀ (t : Int), tokK (Z tp) (Z a 4).toNat q = t → tokE (Z tp) (Z a 4).toNat q = q + 1 → V mX8_next k n 264 [some (r_ a)] [i_ t, r_ a] x (setR Z a g) Q := by
        intro t ht1 ht2
        refine b_X8_next_264 o o fun Z1 e1 Z2 e2 => ?_
        rw [up_setR] at e1
        rw [e1, up_setR, setR_at, upf_ne _ _ (by decide), g5] at e2
        rw [e2, gn]
        rw [ht1, ht2] at h
        exact h
      refine ⟨⟨by omega, by omega⟩, ⟨by omega, by omega⟩, fun c1 => ⟨by omega, by omega, hb.rg (by omega), bI_rg _, fun c2 => ⟨bI_rg _, fun c3 => ?_, fun c3 => ?_⟩, fun c2 Z2 e2 => ?_⟩, fun c1 Z2 e2 => ?_⟩
      · have d2 := bI_0 c2
        have d3 := bI_0 c3
        have hE : tokE (Z tp) (Z a 4).toNat q = q + 1 := by unfold tokE; rw [if_neg (by omega), if_neg (by rw [d2]; decide), if_neg (by rw [d3]; decide)]
        have hK : tokK (Z tp) (Z a 4).toNat q = if Z tp q = 45 then 3 else if Z tp q = 59 then 4 else 5 := by unfold tokK; rw [if_neg (by omega), if_neg (by rw [d2]; decide), if_neg (by rw [d3]; decide)]
        refine ⟨fun c4 => ⟨fun c5 => hfin 5 ?_ hE, fun c5 => hfin 4 ?_ hE⟩, fun c4 => hfin 3 ?_ hE⟩
        · rw [hK, if_neg c4, if_neg c5]
        · rw [hK, if_neg c4, if_pos c5]
        · rw [hK, if_pos c4]
      · have d2 := bI_0 c2
        have d3 := bI_1 c3
        refine lpD ((Z a 4).toNat - q) q g g5 g4 (by omega) (b_X8_next_201 o ?_)
        have hE : tokE (Z tp) (Z a 4).toNat q = wh dgt (Z tp) ((Z a 4).toNat - q) q := by unfold tokE; rw [if_neg (by omega), if_neg (by rw [d2]; decide), if_pos d3]
        have hK : tokK (Z tp) (Z a 4).toNat q = if wh dgt (Z tp) ((Z a 4).toNat - q) q ≤ q + 2 then 2 else 5 := by unfold tokK; rw [if_neg (by omega), if_neg (by rw [d2]; decide), if_pos d3]
        rw [hE, hK] at h
        rw [hE] at ht
        have hw := wh_le dgt (Z tp) ((Z a 4).toNat - q) q
        rw [setR_at, upf_at, upf_ne _ _ (by decide), g7]
        refine ⟨⟨by omega, by omega⟩, fun c5 => b_X8_next_220 o fun Z2 e2 => ?_, fun c5 => b_X8_next_220 o fun Z2 e2 => ?_⟩
        · rw [if_neg (by omega)] at h
          rw [e2, up_setR, upf_comm _ _ _ (by decide), gn]
          exact h
        · rw [if_pos (by omega)] at h
          rw [e2, up_setR, upf_comm _ _ _ (by decide), gn]
          exact h
      · have d2 := bI_1 c2
        rw [e2, up_setR]
        refine lpL ((Z a 4).toNat - q) q _ (by rw [upf_ne _ _ (by decide)]; exact g5) (by rw [upf_ne _ _ (by decide)]; exact g4) (by omega) ?_
        have hE : tokE (Z tp) (Z a 4).toNat q = wh ltr (Z tp) ((Z a 4).toNat - q) q := by unfold tokE; rw [if_neg (by omega), if_pos d2]
        have hK : tokK (Z tp) (Z a 4).toNat q = 1 := by unfold tokK; rw [if_neg (by omega), if_pos d2]
        rw [gn]
        rw [hE, hK] at h
        exact h
      · have hE : tokE (Z tp) (Z a 4).toNat q = q := by unfold tokE; rw [if_pos (by omega)]
        have hK : tokK (Z tp) (Z a 4).toNat q = 0 := by unfold tokK; rw [if_pos (by omega)]
        rw [hE, hK, ← gn, upf_id (show upf g 6 0 5 = (q : Int) by rw [upf_ne _ _ (by decide)]; exact g5)] at h
        rw [e2, up_setR]
        exact h
    rw [setR_self] at hstart
    exact hstart
  · unfold nxF at h
    rw [if_pos c, setR_self] at h
    exact h
theorem sp_X8_value {k n : Nat} {x : Wx} {Z : Zt} {Q : Option Value → Wx → Zt → Prop} {a tp : Nat} (o : Is8 x a) (hr : x.2.1 a 3 = some tp) (hs : x.1 tp = some (101, 600)) (hi : RInv (Z tp) (Z a)) (h : Q (some (i_ (valF (Z tp) (Z a)))) x Z) : V mX8_value k n 0 [some (r_ a), none, none] [] x Z Q := by
  obtain ⟨⟨h41, h42⟩, ⟨h7, h75, h54⟩, -⟩ := hi
  have lp : ∀ (m p : Nat) (v w : Int), w = p → p + m = (Z a 5).toNat → vl10 (Z tp) m p v = valF (Z tp) (Z a) → V mX8_value k n 7 [some (r_ a), some (i_ v), some (i_ w)] [] x Z Q := by
    intro m
    induction m with
    | zero =>
      intro p v w hw hp hv
      refine b_X8_value_7 hr o hs ⟨⟨by omega, by omega⟩, ⟨by omega, by omega⟩, fun _ => b_X8_value_44 ?_, fun c => by omega⟩
      rw [← hv] at h
      exact h
    | succ m ih =>
      intro p v w hw hp hv
      refine b_X8_value_7 hr o hs ⟨⟨by omega, by omega⟩, ⟨by omega, by omega⟩, fun c => by omega, fun c => ⟨⟨by omega, by omega⟩, fun c => by omega, fun c => ⟨by omega, by omega, ih (p + 1) _ _ (by omega) (by omega) ?_⟩⟩⟩
      rw [← hv, hw, show ((p : Int)).toNat = p from Int.toNat_natCast p]
      rfl
  exact b_X8_value_0 o (lp ((Z a 5).toNat - (Z a 7).toNat) (Z a 7).toNat 0 (Z a 7) (by omega) (by omega) rfl)
theorem sp_X8_stop {k n : Nat} {x : Wx} {Z : Zt} {Q : Option Value → Wx → Zt → Prop} {a : Nat} (o : Is8 x a) (hi : Rg (Z a 1)) (h : Q none x (setR Z a (stopF (Z a)))) : V mX8_stop k n 0 [some (r_ a)] [] x Z Q := by
  unfold stopF at h
  refine b_X8_stop_0 o ⟨hi, fun c => b_X8_stop_21 o fun Z1 e1 => ?_, fun c Z1 e1 Z2 e2 => b_X8_stop_21 o fun Z3 e3 => ?_⟩
  · rw [if_pos c] at h
    rw [e1, up_asR]; exact h
  · rw [if_neg c] at h
    rw [up_asR] at e1
    rw [e1, setR_at, up_setR, upf_ne _ _ (by decide)] at e2
    rw [e3, e2, up_setR]; exact h
theorem sp_X8_note {k n : Nat} {x : Wx} {Z : Zt} {Q : Option Value → Wx → Zt → Prop} {a : Nat} {w : Int} (o : Is8 x a) (hi : Rg (Z a 1)) (h : Q none x (setR Z a (noteF w (Z a)))) : V mX8_note k n 0 [some (r_ a), some (i_ w)] [] x Z Q := by
  unfold noteF at h
  refine b_X8_note_0 o ⟨hi, fun c => ?_, fun c Z1 e1 Z2 e2 => ?_⟩
  · rw [if_neg c, setR_self] at h
    exact h
  · rw [if_pos c] at h
    rw [up_asR] at e1
    rw [e1, setR_at, up_setR, upf_ne _ _ (by decide)] at e2
    rw [e2]; exact h
theorem sp_X8_isWord {k n : Nat} {x : Wx} {Z : Zt} {Q : Option Value → Wx → Zt → Prop} {a tp : Nat} {j : Nat × Nat × String} (o : Is8 x a) (hr : x.2.1 a 3 = some tp) (hs : x.1 tp = some (101, 600)) (hj : j ∈ strs) (ks : KT x) (ku : KU x Z) (hi : RInv (Z tp) (Z a)) (hb : BR (Z tp)) (h : Q (some (i_ (bI (isW (Z tp) (Z a) j.1)))) x Z) : V mX8_isWord k n 0 [some (r_ a), some (r_ (x.2.2.2 j.1)), none] [] x Z Q := by
  have hl := wd_len j.1
  have hw := isW_iff (Z tp) (Z a) j.1
  have h6 := hi.2.2.2.1
  obtain ⟨⟨h41, h42⟩, ⟨h7, h75, h54⟩, -⟩ := hi
  have no : ¬ (isW (Z tp) (Z a) j.1 = true) → Q (some (i_ 0)) x Z := fun c => by
    unfold bI at h
    rw [if_neg c] at h
    exact h
  have yes : (isW (Z tp) (Z a) j.1 = true) → Q (some (i_ 1)) x Z := fun c => by
    unfold bI at h
    rw [if_pos c] at h
    exact h
  rw [hw] at no yes
  refine b_X8_isWord_0 hj o ⟨⟨by omega, by omega⟩, fun c => b_X8_isWord_24 (no fun e => c e.1), fun c => ⟨ks, ⟨by omega, by omega⟩, ⟨by omega, by omega⟩, fun c2 => ?_, fun c2 => b_X8_isWord_24 (no fun e => c2 e.2.1)⟩⟩
  have lp : ∀ (m p : Nat) (v : Int), v = p → p + m = (wd j.1).length → (∀ i : Nat, i < p → Z tp ((Z a 7).toNat + i) = (wd j.1).getD i 0) → V mX8_isWord k n 28 [some (r_ a), some (r_ (x.2.2.2 j.1)), some (i_ v)] [] x Z Q := by
    intro m
    induction m with
    | zero =>
      intro p v hv hp hz
      exact b_X8_isWord_28 hj hr o hs ⟨ks, ⟨by omega, by omega⟩, ⟨by omega, by omega⟩, fun _ => b_X8_isWord_76 (yes ⟨c, c2, fun i hi => hz i (by omega)⟩), fun c => by omega⟩
    | succ m ih =>
      intro p v hv hp hz
      have hwr := wd_rg j.1 v.toNat
      have hix : (Z a 7 + v).toNat = (Z a 7).toNat + p := by omega
      have hvn : v.toNat = p := by omega
      refine b_X8_isWord_28 hj hr o hs ⟨ks, ⟨by omega, by omega⟩, ⟨by omega, by omega⟩, fun c => by omega, fun c => ⟨⟨by omega, by omega⟩, ⟨by omega, by omega⟩, fun c => by omega, fun c => ⟨by omega, by omega, ku, ⟨by omega, by omega⟩, hb.rg (by omega), ⟨by omega, by omega⟩, fun c3 => ih (p + 1) _ (by omega) (by omega) fun i hi => ?_, fun c3 => no fun e => c3 ?_⟩⟩⟩
      · by_cases c4 : i = p
        · rw [c4, ← hix, c3, hvn]
        · exact hz i (by omega)
      · rw [hix, hvn]
        exact e.2.2 p (by omega)
  exact lp (wd j.1).length 0 0 rfl (by omega) (fun i hi => by omega)
