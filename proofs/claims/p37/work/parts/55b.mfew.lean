/-! THE FEWEST BUCKETS, in the reference -/
theorem ix_15 (q : Nat) : (((15 : Int) * (q : Int)) + (0 : Int)).toNat = 15 * q := by omega
theorem ix_151 (q : Nat) : (((15 : Int) * (q : Int)) + (1 : Int)).toNat = 15 * q + 1 := by omega
theorem ix_240 : (240 : Int).toNat = 240 := rfl
def few_I (n w : Nat) (a : zAb) (p : Nat) (k : Int) (v : Nat → Int) : Prop := ∀ q, q < n → ab_dr a q ≤ v q ∧ (v q = ab_dr a q ∨ v q ≤ ab_dr a p + k - ab_lim a * ((gz_dist w p q : Nat) : Int)) ∧ v q ≤ ab_dr a q + k
theorem few_I_up {n w : Nat} {b : Int} {a : zAb} (W : ab_wf n w b a) {p : Nat} {k : Int} {v : Nat → Int} (I : few_I n w a p k v) (hch : ∀ q, q < n → ab_dr a p - ab_lim a * ((gz_dist w p q : Nat) : Int) ≤ ab_dr a q) {q o : Nat} (hq : q < n) (ho : o < n) (hd : gz_dist w q o = 1) (hlt : v o < v q - ab_lim a) : few_I n w a p k (va_up v o (v q - ab_lim a)) := by
  have h1 := I q hq
  have h2 := W.2.1 q o hq ho hd
  have h4 := I o ho
  have h3 : ab_lim a * ((gz_dist w p o : Nat) : Int) ≤ ab_lim a * ((gz_dist w p q : Nat) : Int) + ab_lim a := by
    have t := gz_tri w p q o
    rw [hd] at t
    have := Int.mul_le_mul_of_nonneg_left (c := ab_lim a) (show ((gz_dist w p o : Nat) : Int) ≤ ((gz_dist w p q : Nat) : Int) + 1 by omega) (by have := W.2.2.1; omega)
    rw [Int.mul_add, Int.mul_one] at this
    exact this
  intro j hj
  by_cases e : j = o
  · subst e
    rw [up_s]
    have := hch j hj
    omega
  · rw [up_n _ _ _ e]
    exact I j hj