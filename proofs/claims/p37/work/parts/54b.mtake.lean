/-! TAKING a bucket, in the reference -/
def mt_mv (b i : Nat) (v : Nat → Int) : Nat → Int := fun j => if b + i ≤ j ∧ j < b + 10 then v (j + 2) else v j
theorem mt_step (b i : Nat) (v : Nat → Int) (hi : i < 10) : mt_mv b (i + 1) (va_up v (b + i) (v (b + i + 2))) = mt_mv b i v := by
  funext j
  unfold mt_mv
  by_cases h1 : j = b + i
  · subst h1
    rw [if_neg (by omega), if_pos (by omega), up_s]
  · by_cases h2 : b + (i + 1) ≤ j ∧ j < b + 10
    · rw [if_pos h2, if_pos (by omega), up_n _ _ _ (by omega)]
    · rw [if_neg h2, if_neg (by omega), up_n _ _ _ h1]
theorem mt_end (b : Nat) (v : Nat → Int) : mt_mv b 10 v = v := by
  funext j
  unfold mt_mv
  rw [if_neg (by omega)]
theorem mv_n {b i : Nat} {v : Nat → Int} {j : Nat} (h : ¬ (b + i ≤ j ∧ j < b + 10)) : mt_mv b i v j = v j := if_neg h
theorem mv_p {b i : Nat} {v : Nat → Int} {j : Nat} (h : b + i ≤ j ∧ j < b + 10) : mt_mv b i v j = v (j + 2) := if_pos h