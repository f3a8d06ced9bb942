/-! THE GRID: neighbours of a point, in a grid of h rows and w columns -/
def gz_dist (w p q : Nat) : Nat := ((p / w : Nat) - (q / w : Nat) : Nat) + ((q / w : Nat) - (p / w : Nat) : Nat) + (((p % w : Nat) - (q % w : Nat) : Nat) + ((q % w : Nat) - (p % w : Nat) : Nat))
def gz_nb (n w p : Nat) : List Nat := (List.range n).filter (fun q => gz_dist w p q == 1)
theorem gz_nb_mem {n w p q : Nat} : q ∈ gz_nb n w p ↔ q < n ∧ gz_dist w p q = 1 := by
  unfold gz_nb
  rw [List.mem_filter, List.mem_range, beq_iff_eq]
theorem gz_len4 : ∀ h : Nat, h < 5 → ∀ w : Nat, w < 5 → 1 ≤ h → 1 ≤ w → ∀ p, p < h * w → (gz_nb (h * w) w p).length ≤ 4 := by decide +kernel
def gz_stepB : Bool := (List.range 5).all fun h => (List.range 5).all fun w => h == 0 || w == 0 || (List.range (h * w)).all fun p => (List.range (h * w)).all fun q => p == q || (List.range (h * w)).any fun o => gz_dist w q o == 1 && gz_dist w p o + 1 == gz_dist w p q
theorem gz_step0 : gz_stepB = true := by decide +kernel
theorem gz_step {h w p q : Nat} (h1 : h < 5) (w1 : w < 5) (h2 : 1 ≤ h) (w2 : 1 ≤ w) (hp : p < h * w) (hq : q < h * w) (hne : p ≠ q) : ∃ o, o < h * w ∧ gz_dist w q o = 1 ∧ gz_dist w p o + 1 = gz_dist w p q := by
  have h0 := gz_step0
  unfold gz_stepB at h0
  have a1 := List.all_eq_true.mp (List.all_eq_true.mp h0 h (List.mem_range.mpr h1)) w (List.mem_range.mpr w1)
  simp only [Bool.or_eq_true, beq_iff_eq] at a1
  have a2 := List.all_eq_true.mp (List.all_eq_true.mp (by rcases a1 with (a1 | a1) | a1; omega; omega; exact a1) p (List.mem_range.mpr hp)) q (List.mem_range.mpr hq)
  simp only [Bool.or_eq_true, beq_iff_eq] at a2
  obtain ⟨o, ho, he⟩ := List.any_eq_true.mp (by rcases a2 with a2 | a2; exact absurd a2 hne; exact a2)
  rw [Bool.and_eq_true, beq_iff_eq, beq_iff_eq] at he
  exact ⟨o, List.mem_range.mp ho, he.1, he.2⟩
theorem gz_sym (w p q : Nat) : gz_dist w p q = gz_dist w q p := by unfold gz_dist; omega
theorem gz_self (w p : Nat) : gz_dist w p p = 0 := by unfold gz_dist; omega
theorem gz_tri (w p q o : Nat) : gz_dist w p o ≤ gz_dist w p q + gz_dist w q o := by unfold gz_dist; omega
theorem gz_le : ∀ w : Nat, w < 5 → ∀ p, p < 16 → ∀ q, q < 16 → gz_dist w p q ≤ 100 := by decide +kernel
/-- the grid's own cells, as the class holds them -/
def gz_ok (h w : Nat) (size : Int) (ro co ne nc : Nat → Int) : Prop := 1 ≤ h ∧ h ≤ 4 ∧ 1 ≤ w ∧ w ≤ 4 ∧ size = ((h * w : Nat) : Int) ∧ (∀ p, p < h * w → ro p = ((p / w : Nat) : Int) ∧ co p = ((p % w : Nat) : Int) ∧ nc p = (((gz_nb (h * w) w p).length : Nat) : Int) ∧ ∀ i (hi : i < (gz_nb (h * w) w p).length), ne (4 * p + i) = (((gz_nb (h * w) w p)[i] : Nat) : Int))
theorem gz_n16 {h w : Nat} (h1 : h ≤ 4) (h2 : w ≤ 4) : h * w ≤ 16 := Nat.mul_le_mul h1 h2
theorem c_distance (F h w p q : Nat) (size : Int) (ro co ne nc : Nat → Int) (G : gz_ok h w size ro co ne nc) (hp : p < h * w) (hq : q < h * w) : sh_X2_distance F ro co (p : Int) (q : Int) = some ((gz_dist w p q : Nat) : Int) := by
  obtain ⟨h1, h2, h3, h4, -, G⟩ := G
  have hn := gz_n16 h2 h4
  have gp := G p hp
  have gq := G q hq
  have b1 : p / w < 16 := Nat.lt_of_le_of_lt (Nat.div_le_self _ _) (by omega)
  have b2 : q / w < 16 := Nat.lt_of_le_of_lt (Nat.div_le_self _ _) (by omega)
  have b3 : p % w < 16 := Nat.lt_of_le_of_lt (Nat.mod_le _ _) (by omega)
  have b4 : q % w < 16 := Nat.lt_of_le_of_lt (Nat.mod_le _ _) (by omega)
  have g1 := gp.1
  have g2 := gp.2.1
  have q1 := gq.1
  have q2 := gq.2.1
  clear gp gq G
  unfold sh_X2_distance gz_dist
  generalize p / w = a at *
  generalize q / w = b at *
  generalize p % w = c at *
  generalize q % w = d at *
  simp (disch := omega) only [ix_n, zkx_t, g1, g2, q1, q2, zkr_t]
  unfold zabs
  split <;> split <;> exact congrArg some (by omega)
/-- the least of some numbers -/
def gz_min (v : Int) (f : Nat → Int) : List Nat → Int
  | [] => v
  | q :: l => gz_min (if f q < v then f q else v) f l
theorem gz_min_rng {f : Nat → Int} {lo hi : Int} : ∀ (l : List Nat) (v : Int), (lo ≤ v ∧ v ≤ hi) → (∀ q ∈ l, lo ≤ f q ∧ f q ≤ hi) → lo ≤ gz_min v f l ∧ gz_min v f l ≤ hi
  | [], v, hv, _ => hv
  | q :: l, v, hv, hf => by
    rw [gz_min]
    refine gz_min_rng l _ ?_ (fun x hx => hf x (List.mem_cons_of_mem _ hx))
    have := hf q List.mem_cons_self
    split <;> omega
theorem gz_min_le {f : Nat → Int} : ∀ (l : List Nat) (v : Int), gz_min v f l ≤ v
  | [], v => Int.le_refl v
  | q :: l, v => by
    rw [gz_min]
    have := gz_min_le l (if f q < v then f q else v) (f := f)
    split at this <;> rename_i h <;> simp only [h, if_true, if_false] <;> omega
theorem gz_min_start {f : Nat → Int} : ∀ (l : List Nat) (u v : Int), zmin u (gz_min v f l) = gz_min (zmin u v) f l
  | [], u, v => rfl
  | q :: l, u, v => by
    rw [gz_min, gz_min, gz_min_start l]
    congr 1
    unfold zmin
    split <;> split <;> (try split) <;> (try split) <;> omega
theorem gz_min_lt {f : Nat → Int} {b : Int} : ∀ (l : List Nat) (v : Int), gz_min v f l < b ↔ v < b ∨ ∃ q ∈ l, f q < b
  | [], v => by simp [gz_min]
  | q :: l, v => by
    rw [gz_min, gz_min_lt l]
    constructor
    · rintro (h | ⟨x, hx, h⟩)
      · split at h
        · exact Or.inr ⟨q, List.mem_cons_self, h⟩
        · exact Or.inl h
      · exact Or.inr ⟨x, List.mem_cons_of_mem _ hx, h⟩
    · rintro (h | ⟨x, hx, h⟩)
      · left; split <;> omega
      · rcases List.mem_cons.mp hx with rfl | hx
        · left; split <;> omega
        · exact Or.inr ⟨x, hx, h⟩
theorem c_room_L (F h w p : Nat) (lim : Int) (size : Int) (ro co ne nc dr : Nat → Int) (k : Int → Int → Option Int) (G : gz_ok h w size ro co ne nc) (hp : p < h * w) (hr : ∀ q, q < h * w → -1000000 ≤ lim + dr q - dr p ∧ lim + dr q - dr p ≤ 1000000) : ∀ (m N i : Nat) (v : Int), i + m = (gz_nb (h * w) w p).length → m < N → (-1000000 ≤ v ∧ v ≤ 2147483647) → sh_X2_room_L7 F (p : Int) 16 lim ne nc dr k N v (i : Int) = k (gz_min v (fun q => lim + dr q - dr p) ((gz_nb (h * w) w p).drop i)) (((gz_nb (h * w) w p).length : Nat) : Int) := by
  have G' := G
  obtain ⟨h1, h2, h3, h4, -, G⟩ := G
  have hn := gz_n16 h2 h4
  have gp := G p hp
  have hl4 := gz_len4 h (by omega) w (by omega) h1 h3 p hp
  intro m
  induction m with
  | zero =>
    intro N i v hi hN hv
    obtain ⟨N, rfl⟩ : ∃ M, N = M + 1 := ⟨N - 1, by omega⟩
    have : i = (gz_nb (h * w) w p).length := by omega
    subst this
    rw [List.drop_length]
    simp (disch := omega) only [sh_X2_room_L7, ix_n, gp.2.2.1, zkx_t, zkr_t, if_neg, gz_min]
  | succ m ih =>
    intro N i v hi hN hv
    obtain ⟨N, rfl⟩ : ∃ M, N = M + 1 := ⟨N - 1, by omega⟩
    have hi' : i < (gz_nb (h * w) w p).length := by omega
    have hne := gp.2.2.2 i hi'
    have hq : (gz_nb (h * w) w p)[i] < h * w := (gz_nb_mem.mp (List.getElem_mem hi')).1
    have hrq := hr _ hq
    rw [List.drop_eq_getElem_cons hi', gz_min]
    generalize (gz_nb (h * w) w p)[i] = q at *
    simp (disch := omega) only [sh_X2_room_L7, ix_n, gp.2.2.1, zkx_t, zkr_t, if_pos, ix_4, hne, nc_s]
    rw [ih N (i + 1) _ (by omega) (by omega) (by unfold zmin; split <;> omega)]
    rfl
theorem c_room (F h w p : Nat) (lim : Int) (size : Int) (ro co ne nc dr : Nat → Int) (hF : 10 ≤ F) (G : gz_ok h w size ro co ne nc) (hp : p < h * w) (hr : ∀ q, q < h * w → -1000000 ≤ lim + dr q - dr p ∧ lim + dr q - dr p ≤ 1000000) : sh_X2_room F ne nc dr 16 (p : Int) lim = some (gz_min 54 (fun q => lim + dr q - dr p) (gz_nb (h * w) w p)) := by
  have hl4 := gz_len4 h (by obtain ⟨h1, h2, h3, h4, -⟩ := G; omega) w (by obtain ⟨h1, h2, h3, h4, -⟩ := G; omega) G.1 G.2.2.1 p hp
  unfold sh_X2_room
  exact c_room_L F h w p lim size ro co ne nc dr (fun v13 _ => some v13) G hp hr (gz_nb (h * w) w p).length F 0 54 (by omega) (by omega) (by decide)
-- ===== the reference's neighbours =====
def gz_b1B : Bool := (List.range 5).all fun w => w == 0 || (List.range 16).all fun p => (List.range 16).all fun q => (decide (((((zdiv (p : Int) (w : Int)) - (zdiv (q : Int) (w : Int))) * ((zdiv (p : Int) (w : Int)) - (zdiv (q : Int) (w : Int)))) + (((zmod (p : Int) (w : Int)) - (zmod (q : Int) (w : Int))) * ((zmod (p : Int) (w : Int)) - (zmod (q : Int) (w : Int))))) = 1) == (gz_dist w p q == 1)) && decide (-2147483648 ≤ ((((zdiv (p : Int) (w : Int)) - (zdiv (q : Int) (w : Int))) * ((zdiv (p : Int) (w : Int)) - (zdiv (q : Int) (w : Int)))) + (((zmod (p : Int) (w : Int)) - (zmod (q : Int) (w : Int))) * ((zmod (p : Int) (w : Int)) - (zmod (q : Int) (w : Int)))))) && decide (((((zdiv (p : Int) (w : Int)) - (zdiv (q : Int) (w : Int))) * ((zdiv (p : Int) (w : Int)) - (zdiv (q : Int) (w : Int)))) + (((zmod (p : Int) (w : Int)) - (zmod (q : Int) (w : Int))) * ((zmod (p : Int) (w : Int)) - (zmod (q : Int) (w : Int))))) ≤ 2147483647)
theorem gz_b10 : gz_b1B = true := by decide +kernel
theorem gz_b1 {w p q : Nat} (h1 : w < 5) (h2 : 1 ≤ w) (hp : p < 16) (hq : q < 16) : (((((zdiv (p : Int) (w : Int)) - (zdiv (q : Int) (w : Int))) * ((zdiv (p : Int) (w : Int)) - (zdiv (q : Int) (w : Int)))) + (((zmod (p : Int) (w : Int)) - (zmod (q : Int) (w : Int))) * ((zmod (p : Int) (w : Int)) - (zmod (q : Int) (w : Int))))) = 1 ↔ gz_dist w p q = 1) ∧ -2147483648 ≤ ((((zdiv (p : Int) (w : Int)) - (zdiv (q : Int) (w : Int))) * ((zdiv (p : Int) (w : Int)) - (zdiv (q : Int) (w : Int)))) + (((zmod (p : Int) (w : Int)) - (zmod (q : Int) (w : Int))) * ((zmod (p : Int) (w : Int)) - (zmod (q : Int) (w : Int))))) ∧ ((((zdiv (p : Int) (w : Int)) - (zdiv (q : Int) (w : Int))) * ((zdiv (p : Int) (w : Int)) - (zdiv (q : Int) (w : Int)))) + (((zmod (p : Int) (w : Int)) - (zmod (q : Int) (w : Int))) * ((zmod (p : Int) (w : Int)) - (zmod (q : Int) (w : Int))))) ≤ 2147483647 := by
  have h0 := gz_b10
  unfold gz_b1B at h0
  have a1 := List.all_eq_true.mp h0 w (List.mem_range.mpr h1)
  simp only [Bool.or_eq_true, beq_iff_eq] at a1
  have a2 := List.all_eq_true.mp (List.all_eq_true.mp (by rcases a1 with a1 | a1; omega; exact a1) p (List.mem_range.mpr hp)) q (List.mem_range.mpr hq)
  simp only [Bool.and_eq_true, decide_eq_true_eq] at a2
  refine ⟨?_, a2.1.2, a2.2⟩
  have e := a2.1.1
  rw [beq_iff_eq] at e
  constructor
  · intro h
    rw [decide_eq_true h] at e
    exact beq_iff_eq.mp e.symm
  · intro h
    rw [h] at e
    exact of_decide_eq_true e
theorem c_has (F h w : Nat) (size p : Int) (ro co ne nc : Nat → Int) (G : gz_ok h w size ro co ne nc) (hp : -2147483648 ≤ p ∧ p ≤ 2147483647) : sh_X2_has F size p = some (if 0 ≤ p ∧ p < ((h * w : Nat) : Int) then 1 else 0) := by
  have hn := gz_n16 G.2.1 G.2.2.2.1
  have hs := G.2.2.2.2.1
  unfold sh_X2_has
  simp (disch := omega) only [zkr_t]
  by_cases h1 : p < 0
  · rw [if_pos h1, if_neg (by omega)]
  · rw [if_neg h1]
    by_cases h2 : p < size
    · rw [if_pos h2, if_pos (by omega)]
    · rw [if_neg h2, if_neg (by omega)]