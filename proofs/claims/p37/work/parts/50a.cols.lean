/-! NUMBERS AND COLUMNS: what the shadows say of one column -/
theorem ix_6 (p s : Nat) : (((p : Int) * (6 : Int)) + (s : Int)).toNat = 6 * p + s := by omega
theorem ix_60 (p : Nat) : ((p : Int) * (6 : Int)).toNat = 6 * p := by omega
theorem ix_61 (p : Nat) : (((p : Int) * (6 : Int)) + (1 : Int)).toNat = 6 * p + 1 := by omega
theorem ix_4 (p s : Nat) : (((p : Int) * (4 : Int)) + (s : Int)).toNat = 4 * p + s := by omega
theorem ix_n (p : Nat) : ((p : Int)).toNat = p := Int.toNat_natCast p
theorem ix_r (o p : Nat) (c : Nat) : (((o : Int) + ((15 : Int) * (p : Int))) + (c : Int)).toNat = o + 15 * p + c := by omega
theorem ix_r0 (o p : Nat) : (((o : Int) + ((15 : Int) * (p : Int))) + (0 : Int)).toNat = o + 15 * p := by omega
theorem ix_r1 (o p : Nat) : (((o : Int) + ((15 : Int) * (p : Int))) + (1 : Int)).toNat = o + 15 * p + 1 := by omega
theorem ix_r2 (o p : Nat) : (((o : Int) + ((15 : Int) * (p : Int))) + (2 : Int)).toNat = o + 15 * p + 2 := by omega
theorem ix_r3 (o p : Nat) : (((o : Int) + ((15 : Int) * (p : Int))) + (3 : Int)).toNat = o + 15 * p + 3 := by omega
theorem ix_r31 (o p : Nat) : ((((o : Int) + ((15 : Int) * (p : Int))) + (3 : Int)) + (1 : Int)).toNat = o + 15 * p + 4 := by omega
theorem ix_rs (o p s : Nat) : ((((o : Int) + ((15 : Int) * (p : Int))) + (3 : Int)) + ((2 : Int) * (s : Int))).toNat = o + 15 * p + 3 + 2 * s := by omega
theorem ix_rt (o p s : Nat) : (((((o : Int) + ((15 : Int) * (p : Int))) + (3 : Int)) + ((2 : Int) * (s : Int))) + (1 : Int)).toNat = o + 15 * p + 3 + 2 * s + 1 := by omega
theorem nc_s (s : Nat) : ((s : Int) + (1 : Int)) = ((s + 1 : Nat) : Int) := rfl
/-- slices of a column: buckets, grade, the lowest first -/
abbrev zSl : Type := List (Int × Int)
def ab_left : zSl → Int
  | [] => 0
  | x :: l => x.1 + ab_left l
def ab_grade : zSl → Int → Int
  | [], _ => -9
  | x :: l, i => if i < x.1 then x.2 else ab_grade l (i - x.1)
def ab_waste : zSl → Int → Int → Int
  | [], _, _ => -9
  | x :: l, g, v => if x.2 < g then v else ab_waste l g (v + x.1)
def ab_drop : zSl → zSl
  | [] => []
  | x :: l => if x.1 = 1 then l else (x.1 - 1, x.2) :: l
def ab_ok (l : zSl) : Prop := l.length ≤ 6 ∧ ∀ x ∈ l, 1 ≤ x.1 ∧ x.1 ≤ 9 ∧ 0 ≤ x.2 ∧ x.2 ≤ 9
/-- the class's column: n slices from place o on -/
def cl_of (b g : Nat → Int) : Nat → Nat → zSl
  | _, 0 => []
  | o, n + 1 => (b o, g o) :: cl_of b g (o + 1) n
/-- the reference's column: n slices of two places each from place o on -/
def ml_of (f : Nat → Int) : Nat → Nat → zSl
  | _, 0 => []
  | o, n + 1 => (f o, f (o + 1)) :: ml_of f (o + 2) n
theorem cl_len (b g : Nat → Int) : ∀ (n o : Nat), (cl_of b g o n).length = n
  | 0, _ => rfl
  | n + 1, o => by rw [cl_of, List.length_cons, cl_len b g n]
theorem ml_len (f : Nat → Int) : ∀ (n o : Nat), (ml_of f o n).length = n
  | 0, _ => rfl
  | n + 1, o => by rw [ml_of, List.length_cons, ml_len f n]
theorem ab_left_le {l : zSl} (h : ∀ x ∈ l, 1 ≤ x.1 ∧ x.1 ≤ 9 ∧ 0 ≤ x.2 ∧ x.2 ≤ 9) : (l.length : Int) ≤ ab_left l ∧ ab_left l ≤ 9 * (l.length : Int) := by
  induction l with
  | nil => exact ⟨Int.le_refl _, by decide⟩
  | cons x l ih =>
    have h1 := h x List.mem_cons_self
    have h2 := ih (fun y hy => h y (List.mem_cons_of_mem _ hy))
    rw [ab_left, List.length_cons]
    omega
theorem ab_left_rng {l : zSl} (h : ab_ok l) : 0 ≤ ab_left l ∧ ab_left l ≤ 54 := by
  have h1 := ab_left_le h.2
  have := h.1
  omega
theorem ab_grade_rng {l : zSl} (h : ∀ x ∈ l, 1 ≤ x.1 ∧ x.1 ≤ 9 ∧ 0 ≤ x.2 ∧ x.2 ≤ 9) : ∀ i : Int, ab_grade l i = -9 ∨ (0 ≤ ab_grade l i ∧ ab_grade l i ≤ 9) := by
  induction l with
  | nil => intro i; exact Or.inl rfl
  | cons x l ih =>
    intro i
    rw [ab_grade]
    have h1 := h x List.mem_cons_self
    split
    · exact Or.inr ⟨h1.2.2.1, h1.2.2.2⟩
    · exact ih (fun y hy => h y (List.mem_cons_of_mem _ hy)) _
theorem ab_drop_ok {l : zSl} (h : ab_ok l) : ab_ok (ab_drop l) := by
  cases l with
  | nil => exact h
  | cons x l =>
    have h1 := h.2 x List.mem_cons_self
    have h0 := h.1
    rw [List.length_cons] at h0
    rw [ab_drop]
    split
    · exact ⟨by omega, fun y hy => h.2 y (List.mem_cons_of_mem _ hy)⟩
    · refine ⟨by rw [List.length_cons]; omega, fun y hy => ?_⟩
      rcases List.mem_cons.mp hy with rfl | hy
      · dsimp only; omega
      · exact h.2 y (List.mem_cons_of_mem _ hy)
theorem ab_drop_left {l : zSl} (h : l ≠ []) : ab_left (ab_drop l) = ab_left l - 1 := by
  cases l with
  | nil => exact absurd rfl h
  | cons x l =>
    rw [ab_drop]
    split
    · rw [ab_left]; omega
    · rw [ab_left, ab_left]; dsimp only; omega
-- ===== the class =====
theorem c_leftIn_L (F p : Nat) (bk gr ht : Nat → Int) (k : Int → Int → Option Int) (hp : p < 16) (n : Nat) (hn : n ≤ 6) (hht : ht p = (n : Int)) : ∀ (m N s : Nat) (v : Int), s + m = n → m < N → sh_X0_leftIn_L4 F (p : Int) bk ht k N v (s : Int) = k (v + ab_left (cl_of bk gr (6 * p + s) m)) (n : Int) := by
  intro m
  induction m with
  | zero =>
    intro N s v hs hN
    obtain ⟨N, rfl⟩ : ∃ M, N = M + 1 := ⟨N - 1, by omega⟩
    have : s = n := by omega
    subst this
    simp (disch := omega) only [sh_X0_leftIn_L4, ix_n, hht, zkx_t, zkr_t, if_neg, cl_of, ab_left, Int.add_zero]
  | succ m ih =>
    intro N s v hs hN
    obtain ⟨N, rfl⟩ : ∃ M, N = M + 1 := ⟨N - 1, by omega⟩
    simp (disch := omega) only [sh_X0_leftIn_L4, ix_n, hht, zkx_t, zkr_t, if_pos, ix_6, nc_s]
    rw [ih N (s + 1) _ (by omega) (by omega), cl_of, ab_left, Int.add_assoc]
    rfl
theorem c_leftIn (F p : Nat) (bk gr ht : Nat → Int) (hF : 10 ≤ F) (hp : p < 16) (h0 : 0 ≤ ht p) (h6 : ht p ≤ 6) : sh_X0_leftIn F bk ht (p : Int) = some (ab_left (cl_of bk gr (6 * p) (ht p).toNat)) := by
  unfold sh_X0_leftIn
  have e := c_leftIn_L F p bk gr ht (fun v9 _ => some v9) hp (ht p).toNat (by omega) (by omega) (ht p).toNat F 0 0 (by omega) (by omega)
  rw [Int.zero_add] at e
  exact e
theorem c_gradeOf_L (F p : Nat) (i : Int) (bk gr ht : Nat → Int) (k : Int → Int → Option Int) (hk : ∀ a b, k a b = some (-9)) (hp : p < 16) (n : Nat) (hn : n ≤ 6) (hht : ht p = (n : Int)) (hi : 0 ≤ i ∧ i ≤ 1000) : ∀ (m N s : Nat) (v : Int), s + m = n → m < N → (0 ≤ v ∧ v ≤ 1000 - 9 * m) → (∀ x ∈ cl_of bk gr (6 * p + s) m, 1 ≤ x.1 ∧ x.1 ≤ 9 ∧ 0 ≤ x.2 ∧ x.2 ≤ 9) → sh_X0_gradeOf_L5 F (p : Int) i bk gr ht k N v (s : Int) = some (ab_grade (cl_of bk gr (6 * p + s) m) (i - v)) := by
  intro m
  induction m with
  | zero =>
    intro N s v hs hN hv hx
    obtain ⟨N, rfl⟩ : ∃ M, N = M + 1 := ⟨N - 1, by omega⟩
    have : s = n := by omega
    subst this
    simp (disch := omega) only [sh_X0_gradeOf_L5, ix_n, hht, zkx_t, zkr_t, if_neg, cl_of, ab_grade, hk]
  | succ m ih =>
    intro N s v hs hN hv hx
    obtain ⟨N, rfl⟩ : ∃ M, N = M + 1 := ⟨N - 1, by omega⟩
    have h1 := hx (bk (6 * p + s), gr (6 * p + s)) List.mem_cons_self
    dsimp only at h1
    have ih' := ih N (s + 1) (v + bk (6 * p + s)) (by omega) (by omega) (by omega) (fun x hy => hx x (List.mem_cons_of_mem _ hy))
    simp (disch := omega) only [sh_X0_gradeOf_L5, ix_n, hht, zkx_t, zkr_t, if_pos, ix_6, nc_s]
    rw [ih', cl_of, ab_grade]
    by_cases hc : i < v + bk (6 * p + s)
    · rw [if_pos hc, if_pos (by dsimp only; omega)]
    · rw [if_neg hc, if_neg (by dsimp only; omega)]
      congr 2
      dsimp only
      omega
theorem c_gradeOf (F p : Nat) (i : Int) (bk gr ht : Nat → Int) (hF : 10 ≤ F) (hp : p < 16) (h0 : 0 ≤ ht p) (h6 : ht p ≤ 6) (hi : 0 ≤ i ∧ i ≤ 1000 - 60) (hok : ∀ x ∈ cl_of bk gr (6 * p) (ht p).toNat, 1 ≤ x.1 ∧ x.1 ≤ 9 ∧ 0 ≤ x.2 ∧ x.2 ≤ 9) : sh_X0_gradeOf F bk gr ht (p : Int) i = some (ab_grade (cl_of bk gr (6 * p) (ht p).toNat) i) := by
  unfold sh_X0_gradeOf
  have e := c_gradeOf_L F p i bk gr ht (fun _ _ => some (-9)) (fun _ _ => rfl) hp (ht p).toNat (by omega) (by omega) (by omega) (ht p).toNat F 0 0 (by omega) (by omega) (by omega) hok
  rw [Int.sub_zero] at e
  exact e
theorem c_waste_L (F p : Nat) (g : Int) (bk gr ht : Nat → Int) (k : Int → Int → Option Int) (hk : ∀ a b, k a b = some (-9)) (hp : p < 16) (n : Nat) (hn : n ≤ 6) (hht : ht p = (n : Int)) (hg : 0 ≤ g ∧ g ≤ 1000) : ∀ (m N s : Nat) (v : Int), s + m = n → m < N → (∀ x ∈ cl_of bk gr (6 * p + s) m, 1 ≤ x.1 ∧ x.1 ≤ 9 ∧ 0 ≤ x.2 ∧ x.2 ≤ 9) → sh_X0_bucketsAboveWaste_L5 F (p : Int) g bk gr ht k N v (s : Int) = some (ab_waste (cl_of bk gr (6 * p + s) m) g v) := by
  intro m
  induction m with
  | zero =>
    intro N s v hs hN hx
    obtain ⟨N, rfl⟩ : ∃ M, N = M + 1 := ⟨N - 1, by omega⟩
    have : s = n := by omega
    subst this
    simp (disch := omega) only [sh_X0_bucketsAboveWaste_L5, ix_n, hht, zkx_t, zkr_t, if_neg, cl_of, ab_waste, hk]
  | succ m ih =>
    intro N s v hs hN hx
    obtain ⟨N, rfl⟩ : ∃ M, N = M + 1 := ⟨N - 1, by omega⟩
    have h1 := hx (bk (6 * p + s), gr (6 * p + s)) List.mem_cons_self
    dsimp only at h1
    have ih' := ih N (s + 1) (v + bk (6 * p + s)) (by omega) (by omega) (fun x hy => hx x (List.mem_cons_of_mem _ hy))
    simp (disch := omega) only [sh_X0_bucketsAboveWaste_L5, ix_n, hht, zkx_t, zkr_t, if_pos, ix_6, nc_s]
    rw [ih', cl_of, ab_waste]
    by_cases hc : gr (6 * p + s) < g
    · rw [if_pos hc, if_pos hc]
    · rw [if_neg hc, if_neg hc]
      rfl
theorem c_waste (F p : Nat) (g : Int) (bk gr ht : Nat → Int) (hF : 10 ≤ F) (hp : p < 16) (h0 : 0 ≤ ht p) (h6 : ht p ≤ 6) (hg : 0 ≤ g ∧ g ≤ 1000) (hok : ∀ x ∈ cl_of bk gr (6 * p) (ht p).toNat, 1 ≤ x.1 ∧ x.1 ≤ 9 ∧ 0 ≤ x.2 ∧ x.2 ≤ 9) : sh_X0_bucketsAboveWaste F bk gr ht (p : Int) g = some (ab_waste (cl_of bk gr (6 * p) (ht p).toNat) g 0) := by
  unfold sh_X0_bucketsAboveWaste
  exact c_waste_L F p g bk gr ht (fun _ _ => some (-9)) (fun _ _ => rfl) hp (ht p).toNat (by omega) (by omega) hg (ht p).toNat F 0 0 (by omega) (by omega) hok
-- ===== the reference =====