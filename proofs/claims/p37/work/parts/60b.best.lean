/-! THE REFERENCE'S way down and back -/
def bnd : Nat → Nat
  | 0 => 0
  | 1 => 1
  | m + 2 => 16 * (1 + bnd (m + 1)) + 1
theorem bnd4 : ∀ n, n ≤ 4 → bnd n ≤ 9000 := by decide
def bs_0 (n w k : Nat) (a : zAb) : zBst := bs n w k 0 0 (fun _ => -9) a (-9, fun _ => -9)