/-! ===== how many V: by the values at U's roots ===== -/
def NS (p d u v : Int) : Int := S2 p (fun b a => if (a * a + d * (b * b)) % p = u ∧ (2 * a * b) % p = v then 1 else 0)
def ND (p fa f1 : Int) : Int := S2 p (fun v1 a => if (a * a) % p = fa ∧ (2 * a * v1) % p = f1 then 1 else 0)
def nY (p f : Int) : Int := smT p.toNat (fun y => if ((y : Int) * y) % p = f then 1 else 0)
theorem rq_1 {R : Type} [Lean.Grind.CommRing R] {V0 V1 S T D F0 F1 : R} (h1 : V0 * V0 - V1 * V1 * (S * S - D * (T * T)) = F0) (h2 : (1 + 1) * V0 * V1 - V1 * V1 * -(S + S) = F1) : (V0 + V1 * S) * (V0 + V1 * S) + D * (V1 * T * (V1 * T)) = F0 + S * F1 ∧ (1 + 1) * (V0 + V1 * S) * (V1 * T) = T * F1 := by
  subst h1 h2; exact ⟨by grind, by grind⟩
theorem rq_2 {R : Type} [Lean.Grind.CommRing R] {V0 V1 S T D F0 F1 I : R} (hT : T * I = 1) (k1 : (V0 + V1 * S) * (V0 + V1 * S) + D * (V1 * T * (V1 * T)) = F0 + S * F1) (k2 : (1 + 1) * (V0 + V1 * S) * (V1 * T) = T * F1) : V0 * V0 - V1 * V1 * (S * S - D * (T * T)) = F0 ∧ (1 + 1) * V0 * V1 - V1 * V1 * -(S + S) = F1 := by
  have e1 : F1 = (1 + 1) * (V0 + V1 * S) * V1 := by
    have a1 : F1 = (T * I) * F1 := by rw [hT]; clear hT k1 k2; grind
    have a2 : (T * I) * F1 = I * (T * F1) := by clear hT k1 k2 a1; grind
    have a3 : I * ((1 + 1) * (V0 + V1 * S) * (V1 * T)) = (1 + 1) * (V0 + V1 * S) * V1 * (T * I) := by clear hT k1 k2 a1 a2; grind
    rw [a1, a2, ← k2, a3, hT]; clear hT k1 k2 a1 a2 a3; grind
  subst e1
  clear k2 hT
  exact ⟨by grind, by grind⟩
theorem rq_3 {R : Type} [Lean.Grind.CommRing R] {V0 V1 A B F0 F1 : R} (h1 : V0 * V0 - V1 * V1 * (A * B) = F0) (h2 : (1 + 1) * V0 * V1 - V1 * V1 * -(A + B) = F1) : (V0 + V1 * A) * (V0 + V1 * A) = F0 + A * F1 ∧ (V0 + V1 * B) * (V0 + V1 * B) = F0 + B * F1 := by
  subst h1 h2; exact ⟨by grind, by grind⟩
theorem rq_4 {R : Type} [Lean.Grind.CommRing R] {V0 V1 A B F0 F1 I : R} (hT : (B - A) * I = 1) (k1 : (V0 + V1 * A) * (V0 + V1 * A) = F0 + A * F1) (k2 : (V0 + V1 * B) * (V0 + V1 * B) = F0 + B * F1) : V0 * V0 - V1 * V1 * (A * B) = F0 ∧ (1 + 1) * V0 * V1 - V1 * V1 * -(A + B) = F1 := by
  have e1 : F1 = (1 + 1) * V0 * V1 - V1 * V1 * -(A + B) := by
    have a1 : F1 = ((B - A) * I) * F1 := by rw [hT]; clear hT k1 k2; grind
    have a2 : ((B - A) * I) * F1 = I * ((F0 + B * F1) - (F0 + A * F1)) := by clear hT k1 k2 a1; grind
    have a3 : I * ((V0 + V1 * B) * (V0 + V1 * B) - (V0 + V1 * A) * (V0 + V1 * A)) = ((1 + 1) * V0 * V1 - V1 * V1 * -(A + B)) * ((B - A) * I) := by clear hT k1 k2 a1 a2; grind
    rw [a1, a2, ← k1, ← k2, a3, hT]; clear hT k1 k2 a1 a2 a3; grind
  subst e1
  clear k2 hT
  exact ⟨by grind, rfl⟩
theorem rq_5 {R : Type} [Lean.Grind.CommRing R] {V0 V1 A F0 F1 : R} : (V0 * V0 - V1 * V1 * (A * A) = F0 ∧ (1 + 1) * V0 * V1 - V1 * V1 * -(A + A) = F1) ↔ ((V0 + V1 * A) * (V0 + V1 * A) = F0 + A * F1 ∧ (1 + 1) * (V0 + V1 * A) * V1 = F1) := by
  constructor
  · rintro ⟨h1, h2⟩
    subst h1 h2; exact ⟨by grind, by grind⟩
  · rintro ⟨h1, h2⟩
    subst h2
    exact ⟨by grind, by grind⟩
theorem c_eq {S : Type} [Lean.Grind.CommRing S] {p : Int} {cs : S → Nat → Int} {c : Int → S} {tp : Nat → S} (hS : SerR p cs c tp) (a b : Int) : a % p = b % p ↔ c a = c b := ⟨fun h => by rw [← hS.2.1.2.2.1 a, h, hS.2.1.2.2.1], c_inj hS⟩
theorem c_eq' {S : Type} [Lean.Grind.CommRing S] {p : Int} {cs : S → Nat → Int} {c : Int → S} {tp : Nat → S} (hS : SerR p cs c tp) {a f : Int} (hf : 0 ≤ f ∧ f < p) : a % p = f ↔ c a = c f := by
  rw [← c_eq hS, Int.emod_eq_of_lt hf.1 hf.2]
theorem c_two {S : Type} [Lean.Grind.CommRing S] {p : Int} {c : Int → S} (h : CM p c) : c 2 = 1 + 1 := by
  rw [show (2 : Int) = 1 + 1 from rfl, h.1, h.2.2.2.2]
theorem c_unit {S : Type} [Lean.Grind.CommRing S] {p : Int} {cs : S → Nat → Int} {c : Int → S} {tp : Nat → S} (hS : SerR p cs c tp) {t : Int} (ht : t % p ≠ 0) : ∃ i : S, c t * i = 1 := by
  have hr := hS.1.rg
  have g := emr t (p := p) (by omega)
  refine ⟨c (inv p (t % p)), ?_⟩
  rw [← hS.2.1.2.1, ← hS.2.1.2.2.2.2, ← c_eq hS]
  have := inv_mul hS.1 (a := t % p) (by omega)
  rw [mul_md] at this
  rw [this, Int.emod_eq_of_lt (by decide) (by omega)]
theorem irr_iff {p : Int} (hp : IsP p) {d f0 f1 s t v0 v1 : Int} (h0 : 0 ≤ f0 ∧ f0 < p) (h1 : 0 ≤ f1 ∧ f1 < p) (ht : t % p ≠ 0) : ((v0 * v0 - v1 * v1 * ((s * s - d * (t * t)) % p)) % p = f0 ∧ (2 * v0 * v1 - v1 * v1 * ((-2 * s) % p)) % p = f1) ↔ (((v0 + v1 * s) % p * ((v0 + v1 * s) % p) + d * ((v1 * t) % p * ((v1 * t) % p))) % p = (f0 + s * f1) % p ∧ (2 * ((v0 + v1 * s) % p) * ((v1 * t) % p)) % p = (t * f1) % p) :=
  with_ser hp (fun S _ cs c tp hS => by
    have h := hS.2.1
    obtain ⟨I, hI⟩ := c_unit hS ht
    obtain ⟨k1, k2⟩ := c_up h s t d
    rw [c_eq' hS h0, c_eq' hS h1, c_eq hS, c_eq hS, c_sub h, c_sub h, h.1, h.1, h.2.1, h.2.1 (v1 * v1), h.2.1 v1 v1, k1, h.2.1 (2 * v0), h.2.1 2 v0, h.2.1 (v1 * v1) (-2 * s % p), h.2.1 v1 v1, k2, h.2.1 d, h.2.1 ((v1 * t) % p), h.2.2.1 (v1 * t), h.2.1 v1 t, h.2.1 ((v0 + v1 * s) % p), h.2.2.1 (v0 + v1 * s), h.1 v0, h.2.1 v1 s, h.2.1 s f1, h.2.1 (2 * ((v0 + v1 * s) % p)), h.2.1 2 ((v0 + v1 * s) % p), h.2.2.1 (v0 + v1 * s), h.1 v0, h.2.1 v1 s, h.2.2.1 (v1 * t), h.2.1 v1 t, h.2.1 t f1, c_two h]
    exact ⟨fun e => rq_1 e.1 e.2, fun e => rq_2 hI e.1 e.2⟩)
theorem spl_iff {p : Int} (hp : IsP p) {f0 f1 a b v0 v1 : Int} (h0 : 0 ≤ f0 ∧ f0 < p) (h1 : 0 ≤ f1 ∧ f1 < p) (ht : (b - a) % p ≠ 0) : ((v0 * v0 - v1 * v1 * ((a * b) % p)) % p = f0 ∧ (2 * v0 * v1 - v1 * v1 * ((-(a + b)) % p)) % p = f1) ↔ (((v0 + v1 * a) % p * ((v0 + v1 * a) % p)) % p = (f0 + a * f1) % p ∧ (((v0 + v1 * a) % p + v1 * (b - a)) % p * (((v0 + v1 * a) % p + v1 * (b - a)) % p)) % p = (f0 + b * f1) % p) :=
  with_ser hp (fun S _ cs c tp hS => by
    have h := hS.2.1
    obtain ⟨I, hI⟩ := c_unit hS ht
    rw [c_sub h] at hI
    have e1 : c ((a * b) % p) = c a * c b := by rw [h.2.2.1, h.2.1]
    have e2 : c ((-(a + b)) % p) = -(c a + c b) := by rw [h.2.2.1, c_neg h, h.1]
    have e3 : c ((v0 + v1 * a) % p) = c v0 + c v1 * c a := by rw [h.2.2.1, h.1, h.2.1]
    have e4 : c (((v0 + v1 * a) % p + v1 * (b - a)) % p) = c v0 + c v1 * c b := by rw [h.2.2.1, h.1, e3, h.2.1, c_sub h]; clear hI e1 e2 e3; grind
    rw [c_eq' hS h0, c_eq' hS h1, c_eq hS, c_eq hS, c_sub h, c_sub h, h.2.1 v0 v0, h.2.1 (v1 * v1) ((a * b) % p), h.2.1 v1 v1, e1, h.2.1 (2 * v0), h.2.1 2 v0, h.2.1 (v1 * v1) (-(a + b) % p), h.2.1 v1 v1, e2, h.2.1 ((v0 + v1 * a) % p) ((v0 + v1 * a) % p), e3, h.2.1 (((v0 + v1 * a) % p + v1 * (b - a)) % p), e4, h.1 f0, h.2.1 a f1, h.1 f0, h.2.1 b f1, c_two h]
    exact ⟨fun e => rq_3 e.1 e.2, fun e => rq_4 hI e.1 e.2⟩)
theorem dbl_iff {p : Int} (hp : IsP p) {f0 f1 a v0 v1 : Int} (h0 : 0 ≤ f0 ∧ f0 < p) (h1 : 0 ≤ f1 ∧ f1 < p) : ((v0 * v0 - v1 * v1 * ((a * a) % p)) % p = f0 ∧ (2 * v0 * v1 - v1 * v1 * ((-(a + a)) % p)) % p = f1) ↔ (((v0 + v1 * a) % p * ((v0 + v1 * a) % p)) % p = (f0 + a * f1) % p ∧ (2 * ((v0 + v1 * a) % p) * v1) % p = f1) :=
  with_ser hp (fun S _ cs c tp hS => by
    have h := hS.2.1
    have e1 : c ((a * a) % p) = c a * c a := by rw [h.2.2.1, h.2.1]
    have e2 : c ((-(a + a)) % p) = -(c a + c a) := by rw [h.2.2.1, c_neg h, h.1]
    have e3 : c ((v0 + v1 * a) % p) = c v0 + c v1 * c a := by rw [h.2.2.1, h.1, h.2.1]
    rw [c_eq' hS h0, c_eq' hS h1, c_eq hS, c_eq' hS h1, c_sub h, c_sub h, h.2.1 v0 v0, h.2.1 (v1 * v1) ((a * a) % p), h.2.1 v1 v1, e1, h.2.1 (2 * v0), h.2.1 2 v0, h.2.1 (v1 * v1) (-(a + a) % p), h.2.1 v1 v1, e2, h.2.1 ((v0 + v1 * a) % p) ((v0 + v1 * a) % p), e3, h.1 f0, h.2.1 a f1, h.2.1 (2 * ((v0 + v1 * a) % p)), h.2.1 2 ((v0 + v1 * a) % p), e3, c_two h]
    exact rq_5)
theorem if_iff {a b : Prop} [Decidable a] [Decidable b] (h : a ↔ b) : (if a then (1 : Int) else 0) = if b then 1 else 0 := by
  by_cases c : a
  · rw [if_pos c, if_pos (h.mp c)]
  · rw [if_neg c, if_neg (fun e => c (h.mpr e))]
theorem NV_irr {p : Int} (hp : IsP p) {d f0 f1 s t : Int} (h0 : 0 ≤ f0 ∧ f0 < p) (h1 : 0 ≤ f1 ∧ f1 < p) (ht : t % p ≠ 0) : NV p f0 f1 ((s * s - d * (t * t)) % p) ((-2 * s) % p) = NS p d ((f0 + s * f1) % p) ((t * f1) % p) := by
  unfold NV NS S2
  have e1 : ∀ i : Nat, smT p.toNat (fun j => if ((j : Int) * j - (i : Int) * i * ((s * s - d * (t * t)) % p)) % p = f0 ∧ (2 * (j : Int) * i - (i : Int) * i * ((-2 * s) % p)) % p = f1 then 1 else 0) = smT p.toNat (fun j => if ((j : Int) * j + d * (((i : Int) * t) % p * (((i : Int) * t) % p))) % p = (f0 + s * f1) % p ∧ (2 * (j : Int) * (((i : Int) * t) % p)) % p = (t * f1) % p then 1 else 0) := fun i => by
    rw [← smT_shift hp ((i : Int) * s) (fun a => if (a * a + d * (((i : Int) * t) % p * (((i : Int) * t) % p))) % p = (f0 + s * f1) % p ∧ (2 * a * (((i : Int) * t) % p)) % p = (t * f1) % p then 1 else 0)]
    exact smT_ext (fun j _ => if_iff (irr_iff hp h0 h1 ht))
  rw [smT_ext (fun i _ => e1 i)]
  exact smT_mult hp ht (fun b => smT p.toNat (fun j => if ((j : Int) * j + d * (b * b)) % p = (f0 + s * f1) % p ∧ (2 * (j : Int) * b) % p = (t * f1) % p then 1 else 0))
theorem NV_dbl {p : Int} (hp : IsP p) {f0 f1 a : Int} (h0 : 0 ≤ f0 ∧ f0 < p) (h1 : 0 ≤ f1 ∧ f1 < p) : NV p f0 f1 ((a * a) % p) ((-(a + a)) % p) = ND p ((f0 + a * f1) % p) f1 := by
  unfold NV ND S2
  refine smT_ext (fun i _ => ?_)
  rw [← smT_shift hp ((i : Int) * a) (fun x => if (x * x) % p = (f0 + a * f1) % p ∧ (2 * x * i) % p = f1 then 1 else 0)]
  exact smT_ext (fun j _ => if_iff (dbl_iff hp h0 h1))
theorem NV_spl {p : Int} (hp : IsP p) {f0 f1 a b : Int} (h0 : 0 ≤ f0 ∧ f0 < p) (h1 : 0 ≤ f1 ∧ f1 < p) (ht : (b - a) % p ≠ 0) : NV p f0 f1 ((a * b) % p) ((-(a + b)) % p) = nY p ((f0 + a * f1) % p) * nY p ((f0 + b * f1) % p) := by
  unfold NV S2
  have e1 : ∀ i : Nat, smT p.toNat (fun j => if ((j : Int) * j - (i : Int) * i * ((a * b) % p)) % p = f0 ∧ (2 * (j : Int) * i - (i : Int) * i * ((-(a + b)) % p)) % p = f1 then 1 else 0) = smT p.toNat (fun j => if ((j : Int) * j) % p = (f0 + a * f1) % p ∧ (((j : Int) + i * (b - a)) % p * (((j : Int) + i * (b - a)) % p)) % p = (f0 + b * f1) % p then 1 else 0) := fun i => by
    rw [← smT_shift hp ((i : Int) * a) (fun x => if (x * x) % p = (f0 + a * f1) % p ∧ ((x + i * (b - a)) % p * ((x + i * (b - a)) % p)) % p = (f0 + b * f1) % p then 1 else 0)]
    exact smT_ext (fun j _ => if_iff (spl_iff hp h0 h1 ht))
  rw [smT_ext (fun i _ => e1 i), smT_swap]
  unfold nY
  rw [← smT_c]
  refine smT_ext (fun j _ => ?_)
  have e2 : smT p.toNat (fun i => if ((j : Int) * j) % p = (f0 + a * f1) % p ∧ (((j : Int) + i * (b - a)) % p * (((j : Int) + i * (b - a)) % p)) % p = (f0 + b * f1) % p then 1 else 0) = smT p.toNat (fun i => if ((j : Int) * j) % p = (f0 + a * f1) % p ∧ ((i : Int) * i) % p = (f0 + b * f1) % p then 1 else 0) := by
    rw [← smT_shift hp (j : Int) (fun x => if ((j : Int) * j) % p = (f0 + a * f1) % p ∧ (x * x) % p = (f0 + b * f1) % p then 1 else 0)]
    rw [← smT_mult hp ht (fun w => if ((j : Int) * j) % p = (f0 + a * f1) % p ∧ ((w + j) % p * ((w + j) % p)) % p = (f0 + b * f1) % p then 1 else 0)]
    refine smT_ext (fun i _ => ?_)
    rw [show ((i : Int) * (b - a) % p + j) % p = ((j : Int) + i * (b - a)) % p by rw [Int.emod_add_emod, Int.add_comm]]
  rw [e2]
  by_cases c : ((j : Int) * j) % p = (f0 + a * f1) % p
  · rw [if_pos c, Int.one_mul]
    exact smT_ext (fun i _ => if_iff ⟨fun e => e.2, fun e => ⟨c, e⟩⟩)
  · rw [if_neg c, Int.zero_mul]
    exact smT_zero (fun i _ => if_neg (fun e => c e.1))
theorem nsq_3 : nsq 3 = 2 := by decide
set_option maxRecDepth 100000 in
theorem tI_3 : ∀ u : Nat, u < 3 → ∀ v : Nat, v < 3 → NS 3 2 u v = if (u : Int) = 0 ∧ (v : Int) = 0 then 1 else if sq 3 (((u : Int) * u - 2 * ((v : Int) * v % 3)) % 3) = 0 then 0 else 2 := by decide +kernel
set_option maxRecDepth 100000 in
theorem tD_3 : ∀ u : Nat, u < 3 → ∀ v : Nat, v < 3 → ND 3 u v = if (u : Int) = 0 then (if (v : Int) = 0 then 3 else 0) else nY 3 u := by decide +kernel
set_option maxRecDepth 100000 in
theorem tR_3 : ∀ x : Nat, x < 3 → ∀ y : Nat, y < 3 → S2 3 (fun s t => if (s * s - 2 * (t * t)) % 3 = (x : Int) ∧ (-2 * s) % 3 = (y : Int) then 1 else 0) + S2 3 (fun a b => if (a * b) % 3 = (x : Int) ∧ (-(a + b)) % 3 = (y : Int) then 1 else 0) = 2 := by decide +kernel
theorem nsq_5 : nsq 5 = 2 := by decide
set_option maxRecDepth 100000 in
theorem tI_5 : ∀ u : Nat, u < 5 → ∀ v : Nat, v < 5 → NS 5 2 u v = if (u : Int) = 0 ∧ (v : Int) = 0 then 1 else if sq 5 (((u : Int) * u - 2 * ((v : Int) * v % 5)) % 5) = 0 then 0 else 2 := by decide +kernel
set_option maxRecDepth 100000 in
theorem tD_5 : ∀ u : Nat, u < 5 → ∀ v : Nat, v < 5 → ND 5 u v = if (u : Int) = 0 then (if (v : Int) = 0 then 5 else 0) else nY 5 u := by decide +kernel
set_option maxRecDepth 100000 in
theorem tR_5 : ∀ x : Nat, x < 5 → ∀ y : Nat, y < 5 → S2 5 (fun s t => if (s * s - 2 * (t * t)) % 5 = (x : Int) ∧ (-2 * s) % 5 = (y : Int) then 1 else 0) + S2 5 (fun a b => if (a * b) % 5 = (x : Int) ∧ (-(a + b)) % 5 = (y : Int) then 1 else 0) = 2 := by decide +kernel
theorem nsq_7 : nsq 7 = 3 := by decide
set_option maxRecDepth 100000 in
theorem tI_7 : ∀ u : Nat, u < 7 → ∀ v : Nat, v < 7 → NS 7 3 u v = if (u : Int) = 0 ∧ (v : Int) = 0 then 1 else if sq 7 (((u : Int) * u - 3 * ((v : Int) * v % 7)) % 7) = 0 then 0 else 2 := by decide +kernel
set_option maxRecDepth 100000 in
theorem tD_7 : ∀ u : Nat, u < 7 → ∀ v : Nat, v < 7 → ND 7 u v = if (u : Int) = 0 then (if (v : Int) = 0 then 7 else 0) else nY 7 u := by decide +kernel
set_option maxRecDepth 100000 in
theorem tR_7 : ∀ x : Nat, x < 7 → ∀ y : Nat, y < 7 → S2 7 (fun s t => if (s * s - 3 * (t * t)) % 7 = (x : Int) ∧ (-2 * s) % 7 = (y : Int) then 1 else 0) + S2 7 (fun a b => if (a * b) % 7 = (x : Int) ∧ (-(a + b)) % 7 = (y : Int) then 1 else 0) = 2 := by decide +kernel
theorem nsq_11 : nsq 11 = 2 := by decide
set_option maxRecDepth 100000 in
theorem tI_11 : ∀ u : Nat, u < 11 → ∀ v : Nat, v < 11 → NS 11 2 u v = if (u : Int) = 0 ∧ (v : Int) = 0 then 1 else if sq 11 (((u : Int) * u - 2 * ((v : Int) * v % 11)) % 11) = 0 then 0 else 2 := by decide +kernel
set_option maxRecDepth 100000 in
theorem tD_11 : ∀ u : Nat, u < 11 → ∀ v : Nat, v < 11 → ND 11 u v = if (u : Int) = 0 then (if (v : Int) = 0 then 11 else 0) else nY 11 u := by decide +kernel
set_option maxRecDepth 100000 in
theorem tR_11 : ∀ x : Nat, x < 11 → ∀ y : Nat, y < 11 → S2 11 (fun s t => if (s * s - 2 * (t * t)) % 11 = (x : Int) ∧ (-2 * s) % 11 = (y : Int) then 1 else 0) + S2 11 (fun a b => if (a * b) % 11 = (x : Int) ∧ (-(a + b)) % 11 = (y : Int) then 1 else 0) = 2 := by decide +kernel
theorem nsq_13 : nsq 13 = 2 := by decide
set_option maxRecDepth 100000 in
theorem tI_13 : ∀ u : Nat, u < 13 → ∀ v : Nat, v < 13 → NS 13 2 u v = if (u : Int) = 0 ∧ (v : Int) = 0 then 1 else if sq 13 (((u : Int) * u - 2 * ((v : Int) * v % 13)) % 13) = 0 then 0 else 2 := by decide +kernel
set_option maxRecDepth 100000 in
theorem tD_13 : ∀ u : Nat, u < 13 → ∀ v : Nat, v < 13 → ND 13 u v = if (u : Int) = 0 then (if (v : Int) = 0 then 13 else 0) else nY 13 u := by decide +kernel
set_option maxRecDepth 100000 in
theorem tR_13 : ∀ x : Nat, x < 13 → ∀ y : Nat, y < 13 → S2 13 (fun s t => if (s * s - 2 * (t * t)) % 13 = (x : Int) ∧ (-2 * s) % 13 = (y : Int) then 1 else 0) + S2 13 (fun a b => if (a * b) % 13 = (x : Int) ∧ (-(a + b)) % 13 = (y : Int) then 1 else 0) = 2 := by decide +kernel
