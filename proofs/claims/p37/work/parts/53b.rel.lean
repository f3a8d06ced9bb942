section RM
variable {F h w o n0 : Nat} {f : Nat → Int} {b : Int} {a : zAb}
end RM
/-- the next point by order: among m points from i on, behind the best so far -/
def ab_nxt (S G : Nat → Int) : Nat → Nat → Int → Int → Int → Int
  | 0, _, best, _, _ => best
  | m + 1, i, best, ms, mg => if ms < S i ∨ (0 < S i ∧ S i = ms ∧ mg < G i) then ab_nxt S G m (i + 1) (i : Int) (S i) (G i) else ab_nxt S G m (i + 1) best ms mg
def ab_next (n w : Nat) (a : zAb) : Int := ab_nxt (ab_slack n w a) (fun p => ab_grade (ab_col a p) 0) n 0 (-9) 0 0
theorem ab_nxt_rng (S G : Nat → Int) : ∀ (m i : Nat) (best ms mg : Int), 0 ≤ ms → (best = -9 ∧ ms = 0 ∨ ∃ p : Nat, p < i ∧ best = (p : Int) ∧ 0 < S p) → (ab_nxt S G m i best ms mg = -9 ∨ ∃ p : Nat, p < i + m ∧ ab_nxt S G m i best ms mg = (p : Int) ∧ 0 < S p)
  | 0, i, best, ms, mg, h0, h => by
    rw [ab_nxt]
    rcases h with h | ⟨p, h1, h2⟩
    · exact Or.inl h.1
    · exact Or.inr ⟨p, by omega, h2⟩
  | m + 1, i, best, ms, mg, h0, h => by
    rw [ab_nxt]
    split
    · rename_i hc
      have hS : 0 < S i := by rcases hc with hc | hc <;> omega
      rcases ab_nxt_rng S G m (i + 1) (i : Int) (S i) (G i) (by omega) (Or.inr ⟨i, by omega, rfl, hS⟩) with h | ⟨p, h1, h2⟩
      · exact Or.inl h
      · exact Or.inr ⟨p, by omega, h2⟩
    · rcases ab_nxt_rng S G m (i + 1) best ms mg h0 (by
        rcases h with h | ⟨p, h1, h2⟩
        · exact Or.inl h
        · exact Or.inr ⟨p, by omega, h2⟩) with h | ⟨p, h1, h2⟩
      · exact Or.inl h
      · exact Or.inr ⟨p, by omega, h2⟩
theorem ab_next_rng (n w : Nat) (a : zAb) : ab_next n w a = -9 ∨ ∃ p : Nat, p < n ∧ ab_next n w a = (p : Int) ∧ 0 < ab_slack n w a p := by
  have := ab_nxt_rng (ab_slack n w a) (fun p => ab_grade (ab_col a p) 0) n 0 (-9) 0 0 (Int.le_refl _) (Or.inl ⟨rfl, rfl⟩)
  rw [Nat.zero_add] at this
  exact this
theorem c_next_L {F h w : Nat} {size : Int} {ro co ne nc : Nat → Int} {bk gr ht dr : Nat → Int} {lim hs bs gs b : Int} {a : zAb} (k : Int → Int → Int → Int → Option Int) (hk : ∀ x y z u, k x y z u = some x) (hF : 20 ≤ F) (G : gz_ok h w size ro co ne nc) (R : Rc (h * w) bk gr ht dr lim hs bs gs a) (W : ab_wf (h * w) w b a) (hb : b ≤ 200000) : ∀ (m N i : Nat) (best ms mg mg' : Int), i + m = h * w → m < N → (0 ≤ ms ∧ ms ≤ 54) → (-9 ≤ mg' ∧ mg' ≤ 9) → (ms = 0 ∨ mg' = mg) → sh_X0_nextOf_L12 F lim hs bk gr ht dr size ne nc k N best ms mg' (i : Int) = some (ab_nxt (ab_slack (h * w) w a) (fun p => ab_grade (ab_col a p) 0) m i best ms mg) := by
  have hn := gz_n16 G.2.1 G.2.2.2.1
  have hsz := G.2.2.2.2.1
  intro m
  induction m with
  | zero =>
    intro N i best ms mg mg' hi hN h1 h2 h3
    obtain ⟨N, rfl⟩ : ∃ M, N = M + 1 := ⟨N - 1, by omega⟩
    simp (disch := omega) only [sh_X0_nextOf_L12, sh_X2_size, Option.bind_some, zkr_t, if_neg, ab_nxt, hk]
  | succ m ih =>
    intro N i best ms mg mg' hi hN h1 h2 h3
    obtain ⟨N, rfl⟩ : ∃ M, N = M + 1 := ⟨N - 1, by omega⟩
    have hip : i < h * w := by omega
    have hS := ab_slack_rng W hip
    have hG : -9 ≤ ab_grade (ab_col a i) 0 ∧ ab_grade (ab_col a i) 0 ≤ 9 := by
      have := ab_grade_rng (W.1 i hip).1.2 0; omega
    have e1 := R.slack hF G W hb hip
    have e2 := R.grade hF W hn hip (i := 0) (by omega)
    rw [ab_nxt]
    simp (disch := omega) only [sh_X0_nextOf_L12, sh_X2_size, Option.bind_some, zkr_t, if_pos, e1, e2, nc_s]
    generalize hSv : ab_slack (h * w) w a i = S at *
    generalize hGv : ab_grade (ab_col a i) 0 = Gv at *
    have A := fun best ms mg mg' => ih N (i + 1) best ms mg mg' (by omega) (by omega)
    try simp only [if_true, if_false]
    repeat' split
    all_goals first | exact A _ _ _ _ (by omega) (by omega) (by omega) | (exfalso; omega)
theorem Rc.next {F h w : Nat} {size : Int} {ro co ne nc : Nat → Int} {bk gr ht dr : Nat → Int} {lim hs bs gs b : Int} {a : zAb} (hF : 20 ≤ F) (G : gz_ok h w size ro co ne nc) (R : Rc (h * w) bk gr ht dr lim hs bs gs a) (W : ab_wf (h * w) w b a) (hb : b ≤ 200000) : sh_X0_nextOf F lim hs bk gr ht dr size ne nc = some (ab_next (h * w) w a) := by
  have hn := gz_n16 G.2.1 G.2.2.2.1
  unfold sh_X0_nextOf ab_next
  exact c_next_L (fun v21 _ _ _ => some v21) (fun _ _ _ _ => rfl) hF G R W hb (h * w) F 0 (-9) 0 0 (-9) (by omega) (by omega) (by decide) (by decide) (Or.inl rfl)