/-! COPIES -/
def cp_of (f g : Nat → Int) (o1 o2 : Nat) : Nat → Int := fun j => if o2 ≤ j ∧ j < o2 + 243 then f (o1 + (j - o2)) else g j
theorem cp_in {f g : Nat → Int} {o1 o2 i : Nat} (h : i < 243) : cp_of f g o1 o2 (o2 + i) = f (o1 + i) := by
  unfold cp_of
  rw [if_pos (by omega), show o2 + i - o2 = i by omega]
theorem cp_out {f g : Nat → Int} {o1 o2 j : Nat} (h : j < o2 ∨ o2 + 243 ≤ j) : cp_of f g o1 o2 j = g j := by
  unfold cp_of
  rw [if_neg (by omega)]
theorem m_copy_L {F n0 n2 o1 o2 : Nat} {f : Nat → Int} (h1 : o1 + 243 ≤ n0) (h2 : o2 + 243 ≤ n2) : ∀ (m N i : Nat) (g : Nat → Int), i + m = 243 → m < N → ∃ g', sh_X9_copy_L3 F n0 (o1 : Int) n2 (o2 : Int) f (fun _ (v10 : Nat → Int) => some v10) N (i : Int) g = some g' ∧ (∀ j, i ≤ j → j < 243 → g' (o2 + j) = f (o1 + j)) ∧ ∀ j, (j < o2 + i ∨ o2 + 243 ≤ j) → g' j = g j := by
  intro m
  induction m with
  | zero =>
    intro N i g hi hN
    obtain ⟨N, rfl⟩ : ∃ M, N = M + 1 := ⟨N - 1, by omega⟩
    refine ⟨g, ?_, fun j a b => by omega, fun _ _ => rfl⟩
    simp (disch := omega) only [sh_X9_copy_L3, zkr_t, if_neg]
  | succ m ih =>
    intro N i g hi hN
    obtain ⟨N, rfl⟩ : ∃ M, N = M + 1 := ⟨N - 1, by omega⟩
    have e1 : ((o1 : Int) + (i : Int)).toNat = o1 + i := by omega
    have e2 : ((o2 : Int) + (i : Int)).toNat = o2 + i := by omega
    obtain ⟨g', x1, x2, x3⟩ := ih N (i + 1) (va_up g (o2 + i) (f (o1 + i))) (by omega) (by omega)
    refine ⟨g', ?_, fun j a b => ?_, fun j hj => ?_⟩
    · simp (disch := omega) only [sh_X9_copy_L3, zkr_t, zkx_t, if_pos, e1, e2, nc_s]
      exact x1
    · by_cases e : j = i
      · subst e; rw [x3 _ (Or.inl (by omega)), up_s]
      · exact x2 j (by omega) b
    · rw [x3 j (by omega), up_n _ _ _ (by omega)]
theorem m_copy {F n0 n2 o1 o2 : Nat} {f g : Nat → Int} (hF : 5000 ≤ F) (h1 : o1 + 243 ≤ n0) (h2 : o2 + 243 ≤ n2) : sh_X9_copy F f g n0 n2 (o1 : Int) (o2 : Int) = some (cp_of f g o1 o2) := by
  obtain ⟨g', x1, x2, x3⟩ := m_copy_L (F := F) (f := f) h1 h2 243 F 0 g (by omega) (by omega)
  unfold sh_X9_copy
  have x1' : sh_X9_copy_L3 F n0 (o1 : Int) n2 (o2 : Int) f (fun _ (v10 : Nat → Int) => some v10) F 0 g = some g' := x1
  rw [x1']
  refine congrArg some (funext fun j => ?_)
  unfold cp_of
  split
  · rename_i h
    have := x2 (j - o2) (by omega) (by omega)
    rw [show o2 + (j - o2) = j by omega] at this
    exact this
  · exact x3 j (by omega)
theorem m_copy2_L {F n0 o1 o2 : Nat} (h1 : o1 + 243 ≤ n0) (h2 : o2 + 243 ≤ n0) (hd : o1 + 243 ≤ o2 ∨ o2 + 243 ≤ o1) : ∀ (m N i : Nat) (g : Nat → Int), i + m = 243 → m < N → ∃ g', sh_X9_copy_p0p2_L3 F n0 (o1 : Int) (o2 : Int) (fun _ (v10 : Nat → Int) => some v10) N (i : Int) g = some g' ∧ (∀ j, i ≤ j → j < 243 → g' (o2 + j) = g (o1 + j)) ∧ ∀ j, (j < o2 + i ∨ o2 + 243 ≤ j) → g' j = g j := by
  intro m
  induction m with
  | zero =>
    intro N i g hi hN
    obtain ⟨N, rfl⟩ : ∃ M, N = M + 1 := ⟨N - 1, by omega⟩
    refine ⟨g, ?_, fun j a b => by omega, fun _ _ => rfl⟩
    simp (disch := omega) only [sh_X9_copy_p0p2_L3, zkr_t, if_neg]
  | succ m ih =>
    intro N i g hi hN
    obtain ⟨N, rfl⟩ : ∃ M, N = M + 1 := ⟨N - 1, by omega⟩
    have e1 : ((o1 : Int) + (i : Int)).toNat = o1 + i := by omega
    have e2 : ((o2 : Int) + (i : Int)).toNat = o2 + i := by omega
    obtain ⟨g', x1, x2, x3⟩ := ih N (i + 1) (va_up g (o2 + i) (g (o1 + i))) (by omega) (by omega)
    refine ⟨g', ?_, fun j a b => ?_, fun j hj => ?_⟩
    · simp (disch := omega) only [sh_X9_copy_p0p2_L3, zkr_t, zkx_t, if_pos, e1, e2, nc_s]
      exact x1
    · by_cases e : j = i
      · subst e; rw [x3 _ (Or.inl (by omega)), up_s]
      · rw [x2 j (by omega) b, up_n _ _ _ (by omega)]
    · rw [x3 j (by omega), up_n _ _ _ (by omega)]
theorem m_copy2 {F n0 o1 o2 : Nat} {g : Nat → Int} (hF : 5000 ≤ F) (h1 : o1 + 243 ≤ n0) (h2 : o2 + 243 ≤ n0) (hd : o1 + 243 ≤ o2 ∨ o2 + 243 ≤ o1) : sh_X9_copy_p0p2 F g n0 (o1 : Int) (o2 : Int) = some (cp_of g g o1 o2) := by
  obtain ⟨g', x1, x2, x3⟩ := m_copy2_L (F := F) h1 h2 hd 243 F 0 g (by omega) (by omega)
  unfold sh_X9_copy_p0p2
  have x1' : sh_X9_copy_p0p2_L3 F n0 (o1 : Int) (o2 : Int) (fun _ (v10 : Nat → Int) => some v10) F 0 g = some g' := x1
  rw [x1']
  refine congrArg some (funext fun j => ?_)
  unfold cp_of
  split
  · rename_i h
    have := x2 (j - o2) (by omega) (by omega)
    rw [show o2 + (j - o2) = j by omega] at this
    exact this
  · exact x3 j (by omega)
theorem Rm.congr {n o o' : Nat} {f f' : Nat → Int} {a : zAb} (R : Rm n o f a) (hn : n ≤ 16) (h : ∀ i, i < 243 → f' (o' + i) = f (o + i)) : Rm n o' f' a := by
  refine ⟨fun p hp => ?_, ?_, ?_, ?_⟩
  · have r := R.1 p hp
    have h0 := h (15 * p) (by omega)
    have h1 := h (15 * p + 1) (by omega)
    have h2 := h (15 * p + 2) (by omega)
    rw [← Nat.add_assoc, ← Nat.add_assoc] at h1 h2
    rw [h0, h1, h2]
    refine ⟨r.1, ?_, r.2.2⟩
    rw [← r.2.1]
    refine ml_congr _ _ _ (fun i hi => ?_)
    have := h (15 * p + 3 + i) (by omega)
    rw [show o' + 15 * p + 3 + i = o' + (15 * p + 3 + i) by omega, show o + 15 * p + 3 + i = o + (15 * p + 3 + i) by omega, this]
  · rw [h 240 (by omega)]; exact R.2.1
  · rw [h 241 (by omega)]; exact R.2.2.1
  · rw [h 242 (by omega)]; exact R.2.2.2
theorem Rm.cp {n o1 o2 : Nat} {f g : Nat → Int} {a : zAb} (R : Rm n o1 f a) (hn : n ≤ 16) : Rm n o2 (cp_of f g o1 o2) a := R.congr hn (fun _ hi => cp_in hi)
theorem cp_outx {f g : Nat → Int} {o1 o2 j : Nat} (h : j < o2 ∨ o2 + 243 ≤ j) : cp_of f g o1 o2 j = g j := cp_out h
theorem Rm.cp_out {n o1 o2 o : Nat} {f g : Nat → Int} {a : zAb} (R : Rm n o g a) (hn : n ≤ 16) (hd : o + 243 ≤ o2 ∨ o2 + 243 ≤ o) : Rm n o (cp_of f g o1 o2) a := R.congr hn (fun _ hi => cp_outx (by omega))
theorem Rc.become {n : Nat} {bk gr ht dr bk2 gr2 ht2 dr2 : Nat → Int} {lim hs bs gs : Int} {a : zAb} (R : Rc n bk gr ht dr lim hs bs gs a) (hn : n ≤ 16) : Rc n (va_cpy bk bk2 0 0 96) (va_cpy gr gr2 0 0 96) (va_cpy ht ht2 0 0 16) (va_cpy dr dr2 0 0 16) lim hs bs gs a := by
  refine ⟨fun p hp => ?_, R.2⟩
  have r := R.1 p hp
  simp (disch := omega) only [cpy_at, if_pos, Nat.zero_add, Nat.sub_zero]
  refine ⟨r.1, ?_, r.2.2⟩
  rw [← r.2.1]
  refine cl_congr _ _ _ (fun i hi => ?_)
  rw [cpy_at, cpy_at, if_pos (by omega), if_pos (by omega), Nat.zero_add, Nat.sub_zero]
  exact ⟨rfl, rfl⟩
