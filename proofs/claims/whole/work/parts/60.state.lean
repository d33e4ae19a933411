theorem Is11.qR0 {x : Wx} {a : Nat} (h : Is11 x a) : x.2.1 a 0 = some (a + 1) := h.2.1
theorem Is11.qK0 {x : Wx} {a : Nat} (h : Is11 x a) : Is10 x (a + 1) := h.2.2.1
theorem Is11.qR1 {x : Wx} {a : Nat} (h : Is11 x a) : x.2.1 a 1 = some (a + 13) := h.2.2.2.1
theorem Is11.qK1 {x : Wx} {a : Nat} (h : Is11 x a) : x.1 (a + 13) = some (105, 3) := h.2.2.2.2.1
theorem Is11.qR2 {x : Wx} {a : Nat} (h : Is11 x a) : x.2.1 a 2 = some (a + 14) := h.2.2.2.2.2.1
theorem Is11.qK2 {x : Wx} {a : Nat} (h : Is11 x a) : Is8 x (a + 14) := h.2.2.2.2.2.2.1
theorem Is11.qR3 {x : Wx} {a : Nat} (h : Is11 x a) : x.2.1 a 3 = some (a + 16) := h.2.2.2.2.2.2.2.1
theorem Is11.qK3 {x : Wx} {a : Nat} (h : Is11 x a) : Is4 x (a + 16) := h.2.2.2.2.2.2.2.2.1
theorem Is11.qR4 {x : Wx} {a : Nat} (h : Is11 x a) : x.2.1 a 4 = some (a + 19) := h.2.2.2.2.2.2.2.2.2.1
theorem Is11.qK4 {x : Wx} {a : Nat} (h : Is11 x a) : Is3 x (a + 19) := h.2.2.2.2.2.2.2.2.2.2.1
theorem Is11.qR5 {x : Wx} {a : Nat} (h : Is11 x a) : x.2.1 a 5 = some (a + 36) := h.2.2.2.2.2.2.2.2.2.2.2.1
theorem Is11.qK5 {x : Wx} {a : Nat} (h : Is11 x a) : Is7 x (a + 36) := h.2.2.2.2.2.2.2.2.2.2.2.2.1
theorem Is11.qR6 {x : Wx} {a : Nat} (h : Is11 x a) : x.2.1 a 6 = some (a + 38) := h.2.2.2.2.2.2.2.2.2.2.2.2.2.1
theorem Is11.qK6 {x : Wx} {a : Nat} (h : Is11 x a) : Is7 x (a + 38) := h.2.2.2.2.2.2.2.2.2.2.2.2.2.2.1
theorem Is11.qR7 {x : Wx} {a : Nat} (h : Is11 x a) : x.2.1 a 7 = some (a + 40) := h.2.2.2.2.2.2.2.2.2.2.2.2.2.2.2.1
theorem Is11.qK7 {x : Wx} {a : Nat} (h : Is11 x a) : Is2 x (a + 40) := h.2.2.2.2.2.2.2.2.2.2.2.2.2.2.2.2.1
theorem Is11.qR8 {x : Wx} {a : Nat} (h : Is11 x a) : x.2.1 a 8 = some (a + 56) := h.2.2.2.2.2.2.2.2.2.2.2.2.2.2.2.2.2.1
theorem Is11.qK8 {x : Wx} {a : Nat} (h : Is11 x a) : Is5 x (a + 56) := h.2.2.2.2.2.2.2.2.2.2.2.2.2.2.2.2.2.2.1
theorem Is11.qR9 {x : Wx} {a : Nat} (h : Is11 x a) : x.2.1 a 9 = some (a + 68) := h.2.2.2.2.2.2.2.2.2.2.2.2.2.2.2.2.2.2.2.1
theorem Is11.qK9 {x : Wx} {a : Nat} (h : Is11 x a) : Is9 x (a + 68) := h.2.2.2.2.2.2.2.2.2.2.2.2.2.2.2.2.2.2.2.2.1
theorem Is11.qR10 {x : Wx} {a : Nat} (h : Is11 x a) : x.2.1 a 10 = some (a + 116) := h.2.2.2.2.2.2.2.2.2.2.2.2.2.2.2.2.2.2.2.2.2.1
theorem Is11.qK10 {x : Wx} {a : Nat} (h : Is11 x a) : Is1 x (a + 116) := h.2.2.2.2.2.2.2.2.2.2.2.2.2.2.2.2.2.2.2.2.2.2.1
theorem Is11.qR11 {x : Wx} {a : Nat} (h : Is11 x a) : x.2.1 a 11 = some (a + 229) := h.2.2.2.2.2.2.2.2.2.2.2.2.2.2.2.2.2.2.2.2.2.2.2.1
theorem Is11.qK11 {x : Wx} {a : Nat} (h : Is11 x a) : Is0 x (a + 229) := h.2.2.2.2.2.2.2.2.2.2.2.2.2.2.2.2.2.2.2.2.2.2.2.2.1
theorem Is11.qR12 {x : Wx} {a : Nat} (h : Is11 x a) : x.2.1 a 12 = some (a + 282) := h.2.2.2.2.2.2.2.2.2.2.2.2.2.2.2.2.2.2.2.2.2.2.2.2.2.1
theorem Is11.qK12 {x : Wx} {a : Nat} (h : Is11 x a) : Is6 x (a + 282) := h.2.2.2.2.2.2.2.2.2.2.2.2.2.2.2.2.2.2.2.2.2.2.2.2.2.2.1
theorem Is11.qR13 {x : Wx} {a : Nat} (h : Is11 x a) : x.2.1 a 13 = some (a + 287) := h.2.2.2.2.2.2.2.2.2.2.2.2.2.2.2.2.2.2.2.2.2.2.2.2.2.2.2.1
theorem Is11.qK13 {x : Wx} {a : Nat} (h : Is11 x a) : Is6 x (a + 287) := h.2.2.2.2.2.2.2.2.2.2.2.2.2.2.2.2.2.2.2.2.2.2.2.2.2.2.2.2
theorem Is12.qR0 {x : Wx} {a : Nat} (h : Is12 x a) : x.2.1 a 0 = some (a + 1) := h.2.1
theorem Is12.qK0 {x : Wx} {a : Nat} (h : Is12 x a) : x.1 (a + 1) = some (100, 2912) := h.2.2.1
theorem Is12.qR1 {x : Wx} {a : Nat} (h : Is12 x a) : x.2.1 a 1 = some (a + 2) := h.2.2.2.1
theorem Is12.qK1 {x : Wx} {a : Nat} (h : Is12 x a) : x.1 (a + 2) = some (102, 3) := h.2.2.2.2.1
theorem Is12.qR9 {x : Wx} {a : Nat} (h : Is12 x a) : x.2.1 a 9 = some (a + 3) := h.2.2.2.2.2.1
theorem Is12.qK9 {x : Wx} {a : Nat} (h : Is12 x a) : x.1 (a + 3) = some (100, 26) := h.2.2.2.2.2.2.1
theorem Is12.qR10 {x : Wx} {a : Nat} (h : Is12 x a) : x.2.1 a 10 = some (a + 4) := h.2.2.2.2.2.2.2.1
theorem Is12.qK10 {x : Wx} {a : Nat} (h : Is12 x a) : x.1 (a + 4) = some (100, 648) := h.2.2.2.2.2.2.2.2.1
theorem Is12.qR13 {x : Wx} {a : Nat} (h : Is12 x a) : x.2.1 a 13 = some (a + 5) := h.2.2.2.2.2.2.2.2.2.1
theorem Is12.qK13 {x : Wx} {a : Nat} (h : Is12 x a) : x.1 (a + 5) = some (100, 32) := h.2.2.2.2.2.2.2.2.2.2.1
theorem Is12.qR14 {x : Wx} {a : Nat} (h : Is12 x a) : x.2.1 a 14 = some (a + 6) := h.2.2.2.2.2.2.2.2.2.2.2.1
theorem Is12.qK14 {x : Wx} {a : Nat} (h : Is12 x a) : x.1 (a + 6) = some (100, 32) := h.2.2.2.2.2.2.2.2.2.2.2.2.1
theorem Is12.qR16 {x : Wx} {a : Nat} (h : Is12 x a) : x.2.1 a 16 = some (a + 7) := h.2.2.2.2.2.2.2.2.2.2.2.2.2.1
theorem Is12.qK16 {x : Wx} {a : Nat} (h : Is12 x a) : x.1 (a + 7) = some (103, 13) := h.2.2.2.2.2.2.2.2.2.2.2.2.2.2.1
theorem Is12.qR17 {x : Wx} {a : Nat} (h : Is12 x a) : x.2.1 a 17 = some (a + 8) := h.2.2.2.2.2.2.2.2.2.2.2.2.2.2.2.1
theorem Is12.qK17 {x : Wx} {a : Nat} (h : Is12 x a) : x.1 (a + 8) = some (103, 13) := h.2.2.2.2.2.2.2.2.2.2.2.2.2.2.2.2.1
theorem Is12.qR18 {x : Wx} {a : Nat} (h : Is12 x a) : x.2.1 a 18 = some (a + 9) := h.2.2.2.2.2.2.2.2.2.2.2.2.2.2.2.2.2.1
theorem Is12.qK18 {x : Wx} {a : Nat} (h : Is12 x a) : x.1 (a + 9) = some (103, 13) := h.2.2.2.2.2.2.2.2.2.2.2.2.2.2.2.2.2.2.1
theorem Is12.qR19 {x : Wx} {a : Nat} (h : Is12 x a) : x.2.1 a 19 = some (a + 10) := h.2.2.2.2.2.2.2.2.2.2.2.2.2.2.2.2.2.2.2.1
theorem Is12.qK19 {x : Wx} {a : Nat} (h : Is12 x a) : x.1 (a + 10) = some (100, 169) := h.2.2.2.2.2.2.2.2.2.2.2.2.2.2.2.2.2.2.2.2.1
theorem Is12.qR20 {x : Wx} {a : Nat} (h : Is12 x a) : x.2.1 a 20 = some (a + 11) := h.2.2.2.2.2.2.2.2.2.2.2.2.2.2.2.2.2.2.2.2.2.1
theorem Is12.qK20 {x : Wx} {a : Nat} (h : Is12 x a) : x.1 (a + 11) = some (102, 13) := h.2.2.2.2.2.2.2.2.2.2.2.2.2.2.2.2.2.2.2.2.2.2.1
theorem Is12.qR22 {x : Wx} {a : Nat} (h : Is12 x a) : x.2.1 a 22 = some (a + 12) := h.2.2.2.2.2.2.2.2.2.2.2.2.2.2.2.2.2.2.2.2.2.2.2.1
theorem Is12.qK22 {x : Wx} {a : Nat} (h : Is12 x a) : x.1 (a + 12) = some (100, 96) := h.2.2.2.2.2.2.2.2.2.2.2.2.2.2.2.2.2.2.2.2.2.2.2.2.1
theorem Is12.qR25 {x : Wx} {a : Nat} (h : Is12 x a) : x.2.1 a 25 = some (a + 13) := h.2.2.2.2.2.2.2.2.2.2.2.2.2.2.2.2.2.2.2.2.2.2.2.2.2.1
theorem Is12.qK25 {x : Wx} {a : Nat} (h : Is12 x a) : x.1 (a + 13) = some (100, 9600) := h.2.2.2.2.2.2.2.2.2.2.2.2.2.2.2.2.2.2.2.2.2.2.2.2.2.2.1
theorem Is12.qR27 {x : Wx} {a : Nat} (h : Is12 x a) : x.2.1 a 27 = some (a + 14) := h.2.2.2.2.2.2.2.2.2.2.2.2.2.2.2.2.2.2.2.2.2.2.2.2.2.2.2.1
theorem Is12.qK27 {x : Wx} {a : Nat} (h : Is12 x a) : x.1 (a + 14) = some (100, 96) := h.2.2.2.2.2.2.2.2.2.2.2.2.2.2.2.2.2.2.2.2.2.2.2.2.2.2.2.2.1
theorem Is12.qR29 {x : Wx} {a : Nat} (h : Is12 x a) : x.2.1 a 29 = some (a + 15) := h.2.2.2.2.2.2.2.2.2.2.2.2.2.2.2.2.2.2.2.2.2.2.2.2.2.2.2.2.2.1
theorem Is12.qK29 {x : Wx} {a : Nat} (h : Is12 x a) : x.1 (a + 15) = some (100, 96) := h.2.2.2.2.2.2.2.2.2.2.2.2.2.2.2.2.2.2.2.2.2.2.2.2.2.2.2.2.2.2.1
theorem Is12.qR30 {x : Wx} {a : Nat} (h : Is12 x a) : x.2.1 a 30 = some (a + 16) := h.2.2.2.2.2.2.2.2.2.2.2.2.2.2.2.2.2.2.2.2.2.2.2.2.2.2.2.2.2.2.2.1
theorem Is12.qK30 {x : Wx} {a : Nat} (h : Is12 x a) : x.1 (a + 16) = some (100, 96) := h.2.2.2.2.2.2.2.2.2.2.2.2.2.2.2.2.2.2.2.2.2.2.2.2.2.2.2.2.2.2.2.2.1
theorem Is12.qR31 {x : Wx} {a : Nat} (h : Is12 x a) : x.2.1 a 31 = some (a + 17) := h.2.2.2.2.2.2.2.2.2.2.2.2.2.2.2.2.2.2.2.2.2.2.2.2.2.2.2.2.2.2.2.2.2.1
theorem Is12.qK31 {x : Wx} {a : Nat} (h : Is12 x a) : x.1 (a + 17) = some (100, 96) := h.2.2.2.2.2.2.2.2.2.2.2.2.2.2.2.2.2.2.2.2.2.2.2.2.2.2.2.2.2.2.2.2.2.2.1
theorem Is12.qR32 {x : Wx} {a : Nat} (h : Is12 x a) : x.2.1 a 32 = some (a + 18) := h.2.2.2.2.2.2.2.2.2.2.2.2.2.2.2.2.2.2.2.2.2.2.2.2.2.2.2.2.2.2.2.2.2.2.2.1
theorem Is12.qK32 {x : Wx} {a : Nat} (h : Is12 x a) : x.1 (a + 18) = some (100, 96) := h.2.2.2.2.2.2.2.2.2.2.2.2.2.2.2.2.2.2.2.2.2.2.2.2.2.2.2.2.2.2.2.2.2.2.2.2.1
theorem Is12.qR33 {x : Wx} {a : Nat} (h : Is12 x a) : x.2.1 a 33 = some (a + 19) := h.2.2.2.2.2.2.2.2.2.2.2.2.2.2.2.2.2.2.2.2.2.2.2.2.2.2.2.2.2.2.2.2.2.2.2.2.2.1
theorem Is12.qK33 {x : Wx} {a : Nat} (h : Is12 x a) : x.1 (a + 19) = some (100, 96) := h.2.2.2.2.2.2.2.2.2.2.2.2.2.2.2.2.2.2.2.2.2.2.2.2.2.2.2.2.2.2.2.2.2.2.2.2.2.2.1
theorem Is12.qR34 {x : Wx} {a : Nat} (h : Is12 x a) : x.2.1 a 34 = some (a + 20) := h.2.2.2.2.2.2.2.2.2.2.2.2.2.2.2.2.2.2.2.2.2.2.2.2.2.2.2.2.2.2.2.2.2.2.2.2.2.2.2.1
theorem Is12.qK34 {x : Wx} {a : Nat} (h : Is12 x a) : x.1 (a + 20) = some (100, 3000) := h.2.2.2.2.2.2.2.2.2.2.2.2.2.2.2.2.2.2.2.2.2.2.2.2.2.2.2.2.2.2.2.2.2.2.2.2.2.2.2.2.1
theorem Is12.qR37 {x : Wx} {a : Nat} (h : Is12 x a) : x.2.1 a 37 = some (a + 21) := h.2.2.2.2.2.2.2.2.2.2.2.2.2.2.2.2.2.2.2.2.2.2.2.2.2.2.2.2.2.2.2.2.2.2.2.2.2.2.2.2.2.1
theorem Is12.qK37 {x : Wx} {a : Nat} (h : Is12 x a) : x.1 (a + 21) = some (100, 3072) := h.2.2.2.2.2.2.2.2.2.2.2.2.2.2.2.2.2.2.2.2.2.2.2.2.2.2.2.2.2.2.2.2.2.2.2.2.2.2.2.2.2.2.1
theorem Is12.qR38 {x : Wx} {a : Nat} (h : Is12 x a) : x.2.1 a 38 = some (a + 22) := h.2.2.2.2.2.2.2.2.2.2.2.2.2.2.2.2.2.2.2.2.2.2.2.2.2.2.2.2.2.2.2.2.2.2.2.2.2.2.2.2.2.2.2.1
theorem Is12.qK38 {x : Wx} {a : Nat} (h : Is12 x a) : x.1 (a + 22) = some (100, 3072) := h.2.2.2.2.2.2.2.2.2.2.2.2.2.2.2.2.2.2.2.2.2.2.2.2.2.2.2.2.2.2.2.2.2.2.2.2.2.2.2.2.2.2.2.2.1
theorem Is12.qR42 {x : Wx} {a : Nat} (h : Is12 x a) : x.2.1 a 42 = some (a + 23) := h.2.2.2.2.2.2.2.2.2.2.2.2.2.2.2.2.2.2.2.2.2.2.2.2.2.2.2.2.2.2.2.2.2.2.2.2.2.2.2.2.2.2.2.2.2.1
theorem Is12.qK42 {x : Wx} {a : Nat} (h : Is12 x a) : x.1 (a + 23) = some (100, 32) := h.2.2.2.2.2.2.2.2.2.2.2.2.2.2.2.2.2.2.2.2.2.2.2.2.2.2.2.2.2.2.2.2.2.2.2.2.2.2.2.2.2.2.2.2.2.2.1
theorem Is12.qR43 {x : Wx} {a : Nat} (h : Is12 x a) : x.2.1 a 43 = some (a + 24) := h.2.2.2.2.2.2.2.2.2.2.2.2.2.2.2.2.2.2.2.2.2.2.2.2.2.2.2.2.2.2.2.2.2.2.2.2.2.2.2.2.2.2.2.2.2.2.2.1
theorem Is12.qK43 {x : Wx} {a : Nat} (h : Is12 x a) : x.1 (a + 24) = some (100, 32) := h.2.2.2.2.2.2.2.2.2.2.2.2.2.2.2.2.2.2.2.2.2.2.2.2.2.2.2.2.2.2.2.2.2.2.2.2.2.2.2.2.2.2.2.2.2.2.2.2.1
theorem Is12.qR45 {x : Wx} {a : Nat} (h : Is12 x a) : x.2.1 a 45 = some (a + 25) := h.2.2.2.2.2.2.2.2.2.2.2.2.2.2.2.2.2.2.2.2.2.2.2.2.2.2.2.2.2.2.2.2.2.2.2.2.2.2.2.2.2.2.2.2.2.2.2.2.2.1
theorem Is12.qK45 {x : Wx} {a : Nat} (h : Is12 x a) : x.1 (a + 25) = some (100, 32) := h.2.2.2.2.2.2.2.2.2.2.2.2.2.2.2.2.2.2.2.2.2.2.2.2.2.2.2.2.2.2.2.2.2.2.2.2.2.2.2.2.2.2.2.2.2.2.2.2.2.2
/-! ===== what is told, and the object ===== -/
/-- tape, its length, fault, its place, counts, rows -/
abbrev Td : Type := (Nat → Int) × Int × Int × Int × (Nat → Int) × (Nat → Nat → Int)
def Td.tp (T : Td) : Nat → Int := T.1
def Td.ln (T : Td) : Int := T.2.1
def Td.fl (T : Td) : Int := T.2.2.1
def Td.pc (T : Td) : Int := T.2.2.2.1
def Td.ct (T : Td) : Nat → Int := T.2.2.2.2.1
def Td.rw (T : Td) : Nat → Nat → Int := T.2.2.2.2.2
abbrev Ab : Type := Td × (Nat → Option Td)
def Ab.nw (S : Ab) : Td := S.1
def Ab.im (S : Ab) : Nat → Option Td := S.2
/-- the Told at t keeps T -/
def TdC (Z : Zt) (t : Nat) (T : Td) : Prop := Z (t + 1) = T.tp ∧ (Z t 1 = T.ln ∧ Z t 2 = T.fl ∧ Z t 3 = T.pc) ∧ (∀ i : Nat, i < 3 → Z (t + 2) i = T.ct i) ∧ (∀ r : Nat, r < 8 → Z (t + 4 + r) = T.rw r)
/-- a row that tells a CURVE -/
def crvF (r : Nat → Int) : Nat → Int := ptak (r 0) r 2 (r 1).toNat
def CrvR (r : Nat → Int) : Prop := IsP (r 0) ∧ (r 1 = 3 ∨ r 1 = 5) ∧ (∀ i : Nat, (i : Int) ≤ r 1 → 0 ≤ r (2 + i) ∧ r (2 + i) < r 0) ∧ r (2 + (r 1).toNat) ≠ 0 ∧ (∀ i : Nat, i < 26 → r 1 + 2 < (i : Int) → r i = 0) ∧ pd (eG (r 0) (crvF r) (pslo (r 0) (crvF r))) = 0
def FunR (r : Nat → Int) : Prop := ∀ i : Nat, i < 26 → 0 ≤ r i ∧ r i ≤ 12
def TdV (T : Td) : Prop := (BR T.tp ∧ (∀ i : Nat, 600 ≤ i → T.tp i = 0) ∧ ∀ r i : Nat, r < 8 → 26 ≤ i → T.rw r i = 0) ∧ (0 ≤ T.ln ∧ T.ln ≤ 600) ∧ (0 ≤ T.fl ∧ T.fl ≤ 4) ∧ (-1 ≤ T.pc ∧ T.pc ≤ 600) ∧ (0 ≤ T.ct 0 ∧ T.ct 0 ≤ 2) ∧ (0 ≤ T.ct 1 ∧ T.ct 1 ≤ 3) ∧ (0 ≤ T.ct 2 ∧ T.ct 2 ≤ 3) ∧ (∀ k : Nat, (k : Int) < T.ct 0 → CrvR (T.rw k)) ∧ (∀ k : Nat, (k : Int) < T.ct 1 → SumR (T.rw (2 + k)) ∧ ∀ i : Nat, i < 26 → Rg (T.rw (2 + k) i)) ∧ (∀ k : Nat, (k : Int) < T.ct 2 → FunR (T.rw (5 + k)))
def AbV (S : Ab) : Prop := TdV S.nw ∧ ∀ k : Nat, k < 3 → ∀ T : Td, S.im k = some T → TdV T
/-- what the working objects hold -/
def CodC (Z : Zt) (a : Nat) (p : Int) (F r : Nat → Int) : Prop := CdA Z (a + 116) p F r ∧ (Z (a + 116) 7 = 0 ∨ (Z (a + 116) 7 = 1 ∧ ∀ q : Nat, q < 27 → Z (a + 116 + 1) q = wgF p F r q))
def SumC (x : Wx) (Z : Zt) (a : Nat) (T : Td) (p : Int) (F : Nat → Int) (σ : Nat → Nat) : Prop := (Z a 15 = -1 ∧ Z a 16 = 0) ∨ ∃ s : Nat, Z a 15 = (s : Int) ∧ (s : Int) < T.ct 1 ∧ carr (pall p F) (T.rw (2 + s)) = true ∧ RmA x Z (a + 68) p F (T.rw (2 + s)) σ ∧ (Z a 16 = 0 ∨ (Z a 16 = 1 ∧ CodC Z a p F (T.rw (2 + s))))
def LstC (Z : Zt) (a : Nat) (p : Int) (F : Nat → Int) : Prop := Z (a + 229) 0 = 0 ∨ (Z (a + 229) 0 = 1 ∧ LsA Z (a + 229) p F (gen F))
def CrvC (x : Wx) (Z : Zt) (a : Nat) (T : Td) (σ : Nat → Nat) (c : Nat) : Prop := (c : Int) < T.ct 0 ∧ CvA Z (a + 40) (T.rw c 0) (crvF (T.rw c)) ∧ x.2.1 (a + 229) 1 = some (a + 41) ∧ x.2.1 (a + 229) 2 = some (a + 44) ∧ Z (a + 229) 3 = gen (crvF (T.rw c)) ∧ LstC Z a (T.rw c 0) (crvF (T.rw c)) ∧ SumC x Z a T (T.rw c 0) (crvF (T.rw c)) σ
def Cch (x : Wx) (Z : Zt) (a : Nat) (T : Td) (σ : Nat → Nat) : Prop := (Z a 14 = -1 ∧ Z a 15 = -1 ∧ Z a 16 = 0) ∨ ∃ c : Nat, Z a 14 = (c : Int) ∧ CrvC x Z a T σ c
def KB (x : Wx) (a : Nat) : Prop := (∀ j : Nat, j < 3 → x.2.2.2 j < a) ∧ ∀ j ∈ strs, x.2.2.2 (j.1 + 10) < a
def KK0 (x : Wx) (Z : Zt) (a : Nat) : Prop := KS x ∧ KW x Z ∧ KT x ∧ KU x Z ∧ KB x a
def ImgC (x : Wx) (Z : Zt) (a : Nat) (im : Nat → Option Td) : Prop := (∀ k : Nat, k < 3 → x.2.1 (a + 13) k = none → im k = none) ∧ (∀ k b : Nat, k < 3 → x.2.1 (a + 13) k = some b → Is10 x b ∧ a + 318 ≤ b ∧ b + 12 ≤ x.2.2.1 ∧ ∃ T : Td, im k = some T ∧ TdC Z b T) ∧ (∀ k l b c : Nat, k < 3 → l < 3 → k ≠ l → x.2.1 (a + 13) k = some b → x.2.1 (a + 13) l = some c → b + 12 ≤ c ∨ c + 12 ≤ b)
/-- the object at a keeps S -/
def OI (x : Wx) (Z : Zt) (a : Nat) (S : Ab) : Prop := Is11 x a ∧ KK0 x Z a ∧ x.2.1 (a + 14) 3 = some (a + 2) ∧ TdC Z (a + 1) S.nw ∧ ImgC x Z a S.im ∧ AbV S ∧ ∃ σ : Nat → Nat, LnA x (a + 68) σ ∧ Cch x Z a S.nw σ
/-- nothing but the object's own has changed -/
def Fx (a : Nat) (x x' : Wx) (Z Z' : Zt) : Prop := x'.1 = x.1 ∧ x'.2.2 = x.2.2 ∧ (∀ b : Nat, b < a ∨ a + 292 ≤ b → x'.2.1 b = x.2.1 b ∧ Z' b = Z b) ∧ x'.2.1 (a + 13) = x.2.1 (a + 13)
theorem Fx.rf {a : Nat} {x : Wx} {Z : Zt} : Fx a x x Z Z := ⟨rfl, rfl, fun _ _ => ⟨rfl, rfl⟩, rfl⟩
theorem Fx.tr {a : Nat} {x x1 x2 : Wx} {Z Z1 Z2 : Zt} (h : Fx a x x1 Z Z1) (h2 : Fx a x1 x2 Z1 Z2) : Fx a x x2 Z Z2 := ⟨h2.1.trans h.1, h2.2.1.trans h.2.1, fun b hb => ⟨((h2.2.2.1 b hb).1).trans (h.2.2.1 b hb).1, ((h2.2.2.1 b hb).2).trans (h.2.2.1 b hb).2⟩, h2.2.2.2.trans h.2.2.2⟩
theorem Fx.zo {a : Nat} {x : Wx} {Z Z' : Zt} {A : Nat → Prop} (h : Oth Z Z' A) (hA : ∀ b, A b → a ≤ b ∧ b < a + 292) : Fx a x x Z Z' := ⟨rfl, rfl, fun b hb => ⟨rfl, h b (fun q => by have := hA b q; omega)⟩, rfl⟩
theorem KK0.fx {x x' : Wx} {Z Z' : Zt} {a : Nat} (h : KK0 x Z a) (f : Fx a x x' Z Z') : KK0 x' Z' a := by
  obtain ⟨h1, h2, h3, h4, h5⟩ := h
  have ec : x'.2.2.2 = x.2.2.2 := by rw [f.2.1]
  have hb : ∀ j : Nat, j < 3 → Z' (x.2.2.2 j) = Z (x.2.2.2 j) := fun j hj => (f.2.2.1 _ (Or.inl (h5.1 j hj))).2
  refine ⟨?_, ?_, ?_, ?_, ?_⟩
  · unfold KS; rw [ec, f.1]; exact h1
  · unfold KW; rw [ec, hb 0 (by decide), hb 1 (by decide), hb 2 (by decide)]; exact h2
  · unfold KT; rw [ec, f.1]; exact h3
  · intro j hj i hi
    rw [ec, (f.2.2.1 _ (Or.inl (h5.2 j hj))).2]; exact h4 j hj i hi
  · unfold KB; rw [ec]; exact h5
theorem TdC.kept {Z Z' : Zt} {t : Nat} {T : Td} (h : TdC Z t T) (ho : ∀ b, t ≤ b → b < t + 12 → Z' b = Z b) : TdC Z' t T := by
  obtain ⟨h1, h2, h3, h4⟩ := h
  refine ⟨?_, ?_, fun i hi => ?_, fun r hr => ?_⟩
  · rw [ho _ (by omega) (by omega)]; exact h1
  · rw [ho t (by omega) (by omega)]; exact h2
  · rw [ho _ (by omega) (by omega)]; exact h3 i hi
  · rw [ho _ (by omega) (by omega)]; exact h4 r hr
theorem ImgC.fx {x x' : Wx} {Z Z' : Zt} {a : Nat} {im : Nat → Option Td} (h : ImgC x Z a im) (f : Fx a x x' Z Z') : ImgC x' Z' a im := by
  obtain ⟨h1, h2, h3⟩ := h
  refine ⟨?_, ?_, ?_⟩
  · rw [f.2.2.2]; exact h1
  · rw [f.2.2.2, f.2.1]
    intro k b hk hb
    obtain ⟨g1, g2, g3, T, g4, g5⟩ := h2 k b hk hb
    refine ⟨g1.mv f.1 (fun c j c1 c2 _ => by rw [(f.2.2.1 c (by omega)).1]), g2, g3, T, g4, g5.kept (fun c c1 c2 => (f.2.2.1 c (by omega)).2)⟩
  · rw [f.2.2.2]; exact h3
theorem Is11.fx {x x' : Wx} {Z Z' : Zt} {a : Nat} (h : Is11 x a) (f : Fx a x x' Z Z') (hr : ∀ b j : Nat, a ≤ b → b < a + 292 → ¬ (b = a + 13 ∨ b = a + 73 ∨ (b = a + 229 ∧ (j = 1 ∨ j = 2))) → x'.2.1 b j = x.2.1 b j) : Is11 x' a := h.mv f.1 hr
/-- a row, if it is told -/
def rowQ (t : Nat) (s w c : Int) : Option Nat := if 0 ≤ w ∧ w < c then some (t + 4 + (fstr s + w).toNat) else none
theorem rqn {t : Nat} {s w c : Int} (h : rowQ t s w c = none) : ¬ (0 ≤ w ∧ w < c) := fun hc => by unfold rowQ at h; rw [if_pos hc] at h; cases h
theorem rqs {t : Nat} {s w c : Int} {b : Nat} (h : rowQ t s w c = some b) : (0 ≤ w ∧ w < c) ∧ b = t + 4 + (fstr s + w).toNat := by
  unfold rowQ at h
  by_cases hc : 0 ≤ w ∧ w < c
  · rw [if_pos hc] at h; cases h; exact ⟨hc, rfl⟩
  · rw [if_neg hc] at h; cases h
theorem sp_X10_row2 {k n : Nat} {x : Wx} {Z : Zt} {Q : Option Value → Wx → Zt → Prop} {t : Nat} {s w : Int} (o : Is10 x t) (ks : KS x) (kw : KW x Z) (hs : 0 ≤ s ∧ s < 3) (hw : Rg w) (hc : 0 ≤ Z (t + 2) (Int.toNat s) ∧ Z (t + 2) (Int.toNat s) ≤ mstr s) (h : Q (some (va_rf (rowQ t s w (Z (t + 2) (Int.toNat s))))) x Z) : V mX10_row k n 0 [some (r_ t), some (i_ s), some (i_ w)] [] x Z Q := sp_X10_row o ks kw hs hw hc h
theorem sp_X10_copy2 {k n : Nat} {x : Wx} {Z : Zt} {Q : Option Value → Wx → Zt → Prop} {t u : Nat} (o : Is10 x t) (ou : Is10 x u) {T : Td} (hd : u + 12 ≤ t ∨ t + 12 ≤ u) (hT : TdC Z u T) (hV : TdV T) (h0 : (∀ i : Nat, 600 ≤ i → Z (t + 1) i = 0) ∧ ∀ r i : Nat, r < 8 → 26 ≤ i → Z (t + 4 + r) i = 0) (h : ∀ Z' : Zt, (TdC Z' t T ∧ Oth Z Z' (fun b => t ≤ b ∧ b < t + 12)) → Q none x Z') : V mX10_copy k n 0 [some (r_ t), some (r_ u), none] [] x Z Q := by
  obtain ⟨t1, t2, t3, t4⟩ := hT
  have hb : ∀ i : Nat, i < 600 → fits .byte (i_ (Z (u + 1) i)) = true := fun i hi => by
    rw [t1]
    have h9 := hV.1.1 i hi
    have e : (T.tp i).bmod 256 = T.tp i := by
      simp only [Int.bmod]
      split <;> omega
    rw [← e]; exact fit_b _
  refine b_X10_copy_0 ou o ⟨fun i hi => by rw [Nat.zero_add]; exact hb i hi, fun Z1 e1 Z2 e2 Z3 e3 Z4 e4 Z5 e5 => ?_⟩
  have q1 : ∀ b, b ≠ t + 1 → Z1 b = Z b := fun b hb => by rw [e1]; exact cpy_row _ _ _ _ _ _ _ hb
  have q2 : ∀ b, b ≠ t → Z4 b = Z1 b := fun b hb => by rw [e4, up_row _ _ _ _ _ hb, e3, up_row _ _ _ _ _ hb, e2, up_row _ _ _ _ _ hb]
  have q3 : ∀ b, b ≠ t + 2 → Z5 b = Z4 b := fun b hb => by rw [e5]; exact cpy_row _ _ _ _ _ _ _ hb
  have f1 : Z4 t 1 = Z u 1 ∧ Z4 t 2 = Z u 2 ∧ Z4 t 3 = Z u 3 := by
    have g2 : Z2 u = Z u := by rw [e2, up_row _ _ _ _ _ (by omega), q1 u (by omega)]
    have g3 : Z3 u = Z u := by rw [e3, up_row _ _ _ _ _ (by omega), g2]
    refine ⟨?_, ?_, ?_⟩
    · rw [e4, up_at, if_neg (by decide), e3, up_at, if_neg (by decide), e2, up_self, q1 u (by omega)]
    · rw [e4, up_at, if_neg (by decide), e3, up_self, g2]
    · rw [e4, up_self, g3]
  have r1 : Z5 (t + 1) = T.tp := funext fun i => by
    rw [q3 _ (by omega), q2 _ (by omega), e1, cpy_at]
    by_cases c : i < 600
    · rw [if_pos c, t1]
    · rw [if_neg c, h0.1 i (by omega), hV.1.2.1 i (by omega)]
  have r3 : ∀ i : Nat, i < 3 → Z5 (t + 2) i = Z (u + 2) i := fun i hi => by
    rw [e5, cpy_at, if_pos hi, q2 _ (by omega), q1 _ (by omega)]
  have r0 : Oth Z Z5 (fun b => t ≤ b ∧ b < t + 4) := fun b hb => by rw [q3 b (by omega), q2 b (by omega), q1 b (by omega)]
  have lp : ∀ (m : Nat) (v : Int) (Z1 : Zt), 0 ≤ v → v + m = 8 → (∀ r : Nat, (r : Int) < v → Z1 (t + 4 + r) = T.rw r) → (∀ r i : Nat, r < 8 → 26 ≤ i → Z1 (t + 4 + r) i = 0) → Oth Z5 Z1 (fun b => t + 4 ≤ b ∧ b < t + 12) → V mX10_copy k n 58 [some (r_ t), some (r_ u), some (i_ v)] [] x Z1 Q := by
    intro m
    induction m with
    | zero =>
      intro v Z1 hv hm hz hz2 ho
      refine b_X10_copy_58 o ou ⟨⟨by omega, by omega⟩, fun _ => h Z1 ⟨⟨?_, ?_, fun i hi => ?_, fun r hr => hz r (by omega)⟩, fun b hb => ?_⟩, fun c => by omega⟩
      · rw [ho _ (by omega)]; exact r1
      · rw [ho _ (by omega), q3 t (by omega)]; exact ⟨f1.1.trans t2.1, f1.2.1.trans t2.2.1, f1.2.2.trans t2.2.2⟩
      · rw [ho _ (by omega), r3 i hi]; exact t3 i hi
      · rw [ho b (by omega), r0 b (by omega)]
    | succ m ih =>
      intro v Z1 hv hm hz hz2 ho
      refine b_X10_copy_58 o ou ⟨⟨by omega, by omega⟩, fun c => by omega, fun c => ⟨hv, fun Z2 e => ih (v + 1) Z2 (by omega) (by omega) (fun r hr => ?_) (fun r i hr hi => ?_) (fun b hb => ?_)⟩⟩
      · rw [e]
        by_cases c1 : r = v.toNat
        · subst c1
          funext i
          rw [cpy_at]
          by_cases ci : i < 26
          · rw [if_pos ci, ho _ (by omega), r0 _ (by omega), t4 _ (by omega)]
          · rw [if_neg ci, hz2 _ i (by omega) (by omega), hV.1.2.2 _ i (by omega) (by omega)]
        · rw [cpy_row _ _ _ _ _ _ _ (by omega)]; exact hz r (by omega)
      · rw [e]
        by_cases c1 : r = v.toNat
        · subst c1
          rw [cpy_at, if_neg (by omega)]; exact hz2 _ i hr hi
        · rw [cpy_row _ _ _ _ _ _ _ (by omega)]; exact hz2 r i hr hi
      · rw [e, cpy_row _ _ _ _ _ _ _ (by omega), ho b hb]
  exact lp 8 0 Z5 (by omega) (by omega) (fun r hr => by omega) (fun r i hr hi => by rw [r0 _ (by omega)]; exact h0.2 r i hr hi) Oth.rf
