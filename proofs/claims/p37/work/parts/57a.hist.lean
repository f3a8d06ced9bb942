/-! THE REMEMBERED STATES and the save slots -/
theorem md_n (x k : Nat) : zmod (x : Int) (k : Int) = ((x % k : Nat) : Int) := by
  unfold zmod
  rw [Int.tmod_eq_emod_of_nonneg (by omega), Int.natCast_emod]
theorem dv_n (x k : Nat) : zdiv (x : Int) (k : Int) = ((x / k : Nat) : Int) := by
  unfold zdiv
  rw [Int.tdiv_eq_ediv_of_nonneg (by omega), Int.natCast_ediv]
abbrev Rp (n : Nat) (v : zCv) (a : zAb) : Prop := Rc n v.1 v.2.1 v.2.2.1 v.2.2.2.1 v.2.2.2.2.1 v.2.2.2.2.2.1 v.2.2.2.2.2.2.1 v.2.2.2.2.2.2.2 a
theorem up_s2 {α : Type} {f : Nat → α} {k : Nat} {v : α} : va_up f k v k = v := if_pos rfl
theorem up_n2 {α : Type} {f : Nat → α} {k : Nat} {v : α} {j : Nat} (h : j ≠ k) : va_up f k v j = f j := if_neg h
def zput (P : Nat → zCv) (i : Nat) (bk gr ht dr : Nat → Int) (lim hs bs gs : Int) : Nat → zCv := va_up P i (va_cpy bk (P i).1 0 0 96, va_cpy gr (P i).2.1 0 0 96, va_cpy ht (P i).2.2.1 0 0 16, va_cpy dr (P i).2.2.2.1 0 0 16, lim, hs, bs, gs)
theorem zput_s {P : Nat → zCv} {i n : Nat} {bk gr ht dr : Nat → Int} {lim hs bs gs : Int} {a : zAb} (R : Rc n bk gr ht dr lim hs bs gs a) (hn : n ≤ 16) : Rp n (zput P i bk gr ht dr lim hs bs gs i) a := by
  unfold zput
  rw [up_s2]
  exact R.become hn
theorem zput_n {P : Nat → zCv} {i j : Nat} {bk gr ht dr : Nat → Int} {lim hs bs gs : Int} (h : j ≠ i) : zput P i bk gr ht dr lim hs bs gs j = P j := up_n2 h