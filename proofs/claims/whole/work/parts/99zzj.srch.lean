/-! ===== p = 13: curves with many points, gone through ===== -/
def frc (v : Nat) (f : Nat → Bool) : Bool := match v with
  | 0 => f 0
  | n + 1 => f (n + 1)
theorem frc_eq (v : Nat) (f : Nat → Bool) : frc v f = f v := by cases v <;> rfl
/-- 2 less how many roots v has -/
def dz (v : Nat) : Nat := Nat.shiftRight 8562721 (2 * v) % 4
def nx13 (a0 a1 a2 a3 a4 a5 : Nat) : Nat := (12 * a0 + 6 * a1 + 11 * a2 + 7 * a3 + 11 * a4 + 6 * a5) % 13
def ext13 (leaf : Nat → Bool) : Nat → Nat → Nat → Nat → Nat → Nat → Nat → Nat → Bool
  | 0, _, _, _, _, _, _, df => leaf df
  | k + 1, a0, a1, a2, a3, a4, a5, df => frc (nx13 a0 a1 a2 a3 a4 a5) (fun v => frc (df + dz v) (fun e => if 3 ≤ e then true else ext13 leaf k a1 a2 a3 a4 a5 v e))
/-- Horner at s + t w, from the top -/
def hn13 (s t : Nat) (c0 c1 c2 c3 c4 : Nat) (u v : Nat) : Nat :=
  let st := fun (c u v : Nat) (f : Nat → Nat → Nat) => f ((u * s + 2 * (v * t) + c) % 13) ((u * t + v * s) % 13)
  st c4 u v (fun u v => st c3 u v (fun u v => st c2 u v (fun u v => st c1 u v (fun u v => st c0 u v (fun u v => dz ((u * u + 11 * (v * v)) % 13))))))
def sm13 (need c0 c1 c2 c3 c4 c5 : Nat) : Nat → Nat → Nat → Bool
  | 0, _, acc => Nat.ble need acc
  | k + 1, i, acc => if Nat.ble need acc then true else frc (acc + hn13 (i / 13) (i % 13) c0 c1 c2 c3 c4 c5 0) (fun a => frc (i + 1) (fun j => sm13 need c0 c1 c2 c3 c4 c5 k j a))
def leaf13 (v0 v1 v2 v3 v4 v5 df : Nat) : Bool :=
  frc ((4 * v0 + 6 * v1 + 1 * v2 + 12 * v3 + 7 * v4 + 9 * v5) % 13) (fun c5 => if c5 = 0 then true else frc ((5 * v0 + 7 * v1 + 12 * v3 + 1 * v4 + 1 * v5) % 13) (fun c4 => frc ((2 * v0 + 10 * v1 + 7 * v2 + 3 * v3 + 1 * v4 + 3 * v5) % 13) (fun c3 => frc ((10 * v0 + 12 * v1 + 10 * v2 + 2 * v4 + 5 * v5) % 13) (fun c2 => frc ((4 * v0 + 5 * v1 + 8 * v2 + 12 * v3 + 2 * v4 + 8 * v5) % 13) (fun c1 => frc v0 (fun c0 => sm13 ((27 - df) * (27 - df) - 588) c0 c1 c2 c3 c4 c5 169 0 0))))))
def al13 (f : Nat → Bool) : Bool := f 0 && (f 1 && (f 2 && (f 3 && (f 4 && (f 5 && (f 6 && (f 7 && (f 8 && (f 9 && (f 10 && (f 11 && f 12)))))))))))
def st13 (df v : Nat) (f : Nat → Bool) : Bool := frc (df + dz v) (fun e => if 3 ≤ e then true else f e)
def lv5 (v0 v1 v2 v3 v4 df : Nat) : Bool := al13 (fun v5 => st13 df v5 (fun e => ext13 (leaf13 v0 v1 v2 v3 v4 v5) 7 v0 v1 v2 v3 v4 v5 e))
def lv4 (v0 v1 v2 v3 df : Nat) : Bool := al13 (fun v4 => st13 df v4 (lv5 v0 v1 v2 v3 v4))
def lv3 (v0 v1 v2 df : Nat) : Bool := al13 (fun v3 => st13 df v3 (lv4 v0 v1 v2 v3))
def lv2 (v0 v1 df : Nat) : Bool := al13 (fun v2 => st13 df v2 (lv3 v0 v1 v2))
def lvA (v0 v1 : Nat) : Bool := st13 0 v0 (fun e => st13 e v1 (fun e => lv2 v0 v1 e))
