/-! COPIES -/
def cp_of (f g : Nat → Int) (o1 o2 : Nat) : Nat → Int := fun j => if o2 ≤ j ∧ j < o2 + 243 then f (o1 + (j - o2)) else g j
theorem cp_in {f g : Nat → Int} {o1 o2 i : Nat} (h : i < 243) : cp_of f g o1 o2 (o2 + i) = f (o1 + i) := by
  unfold cp_of
  rw [if_pos (by omega), show o2 + i - o2 = i by omega]
theorem cp_out {f g : Nat → Int} {o1 o2 j : Nat} (h : j < o2 ∨ o2 + 243 ≤ j) : cp_of f g o1 o2 j = g j := by
  unfold cp_of
  rw [if_neg (by omega)]
theorem cp_outx {f g : Nat → Int} {o1 o2 j : Nat} (h : j < o2 ∨ o2 + 243 ≤ j) : cp_of f g o1 o2 j = g j := cp_out h
theorem Rc.become {n : Nat} {bk gr ht dr bk2 gr2 ht2 dr2 : Nat → Int} {lim hs bs gs : Int} {a : zAb} (R : Rc n bk gr ht dr lim hs bs gs a) (hn : n ≤ 16) : Rc n (va_cpy bk bk2 0 0 96) (va_cpy gr gr2 0 0 96) (va_cpy ht ht2 0 0 16) (va_cpy dr dr2 0 0 16) lim hs bs gs a := by
  refine ⟨fun p hp => ?_, R.2⟩
  have r := R.1 p hp
  simp (disch := omega) only [cpy_at, if_pos, Nat.zero_add, Nat.sub_zero]
  refine ⟨r.1, ?_, r.2.2⟩
  rw [← r.2.1]
  refine cl_congr _ _ _ (fun i hi => ?_)
  rw [cpy_at, cpy_at, if_pos (by omega), if_pos (by omega), Nat.zero_add, Nat.sub_zero]
  exact ⟨rfl, rfl⟩
