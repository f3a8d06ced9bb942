section RM
variable {F h w o n0 : Nat} {f : Nat → Int} {b : Int} {a : zAb}
theorem Rm.ok (R : Rm (h * w) o f a) (W : ab_wf (h * w) w b a) {p : Nat} (hp : p < h * w) : ∀ x ∈ ml_of f (o + 15 * p + 3) (f (o + 15 * p + 2)).toNat, 1 ≤ x.1 ∧ x.1 ≤ 9 ∧ 0 ≤ x.2 ∧ x.2 ≤ 9 := by
  rw [(R.1 p hp).2.1]; exact (W.1 p hp).1.2
theorem Rm.left (hF : 20 ≤ F) (R : Rm (h * w) o f a) (ho : o + 243 ≤ n0) (hn : h * w ≤ 16) {p : Nat} (hp : p < h * w) : sh_X9_remainingOf F f n0 (o : Int) (p : Int) = some (ab_left (ab_col a p)) := by
  have r := R.1 p hp
  rw [m_left F o p n0 f (by omega) ho (by omega) r.1.1 r.1.2, r.2.1]
theorem Rm.grade (hF : 20 ≤ F) (R : Rm (h * w) o f a) (W : ab_wf (h * w) w b a) (ho : o + 243 ≤ n0) (hn : h * w ≤ 16) {p : Nat} (hp : p < h * w) {i : Int} (hi : 0 ≤ i ∧ i ≤ 900) : sh_X9_gradeOf F f n0 (o : Int) (p : Int) i = some (ab_grade (ab_col a p) i) := by
  have r := R.1 p hp
  rw [m_grade F o p n0 i f (by omega) ho (by omega) r.1.1 r.1.2 hi (R.ok W hp), r.2.1]
theorem Rm.allowed (hF : 20 ≤ F) (hh : 1 ≤ h ∧ h ≤ 4) (hw : 1 ≤ w ∧ w ≤ 4) (R : Rm (h * w) o f a) (W : ab_wf (h * w) w b a) (hb : b ≤ 200000) (ho : o + 243 ≤ n0) {p : Nat} (hp : p < h * w) : sh_X9_allowed F (h : Int) (w : Int) f n0 (o : Int) (p : Int) = some (gz_min 1000000000 (fun q => ab_lim a + ab_dr a q - ab_dr a p) (gz_nb (h * w) w p)) := by
  have rng : ∀ q, q < h * w → 0 ≤ f (o + 15 * q) ∧ f (o + 15 * q) ≤ 200000 := fun q hq => by
    rw [(R.1 q hq).2.2.1]; have := W.1 q hq; omega
  have hl := W.2.2.1
  have hl2 := R.2.1
  rw [m_allowed F h w o p n0 f (by omega) hh hw ho hp (fun q hq => by have := rng q hq; have := rng p hp; omega)]
  congr 1
  refine gz_min_congr _ _ (fun q hq => ?_)
  rw [(R.1 q (gz_nb_mem.mp hq).1).2.2.1, (R.1 p hp).2.2.1, hl2]
theorem Rm.slack (hF : 20 ≤ F) (hh : 1 ≤ h ∧ h ≤ 4) (hw : 1 ≤ w ∧ w ≤ 4) (R : Rm (h * w) o f a) (W : ab_wf (h * w) w b a) (hb : b ≤ 200000) (ho : o + 243 ≤ n0) (hn0 : n0 ≤ 100000) {p : Nat} (hp : p < h * w) : sh_X9_slackOf F (h : Int) (w : Int) f n0 (o : Int) (p : Int) = some (ab_slack (h * w) w a p) := by
  have hn := gz_n16 hh.2 hw.2
  have hl := ab_left_rng (W.1 p hp).1
  have r := R.1 p hp
  unfold sh_X9_slackOf ab_slack
  by_cases hc : ab_hg a p = true
  · have r4 := r.2.2.2
    rw [hc] at r4
    simp (disch := omega) only [ix_r1, r4, if_true, zkr_t, zkx_t, hc]
  · have r4 := r.2.2.2
    simp only [Bool.not_eq_true] at hc
    rw [hc] at r4
    simp (disch := omega) only [ix_r1, r4, if_false, zkr_t, zkx_t, hc, if_neg, R.left hF ho hn hp, R.allowed hF hh hw W hb ho hp, Option.bind_some, Bool.false_eq_true]
    have hr := gz_min_rng (lo := -1000000) (hi := 1000000000) (f := fun q => ab_lim a + ab_dr a q - ab_dr a p) (gz_nb (h * w) w p) 1000000000 (by decide) (fun q hq => by
      have h1 := W.1 q (gz_nb_mem.mp hq).1; have h2 := W.1 p hp; have h3 := W.2.2.1; omega)
    have hm : zmin (ab_left (ab_col a p)) (gz_min 1000000000 (fun q => ab_lim a + ab_dr a q - ab_dr a p) (gz_nb (h * w) w p)) = gz_min (ab_left (ab_col a p)) (fun q => ab_lim a + ab_dr a q - ab_dr a p) (gz_nb (h * w) w p) := by
      rw [gz_min_start]; congr 1; unfold zmin; rw [if_neg (by omega)]
    rw [← hm]
    unfold zmin
    split <;> exact zkr_t (by omega) (by omega)
theorem Rm.ready (hF : 20 ≤ F) (hh : 1 ≤ h ∧ h ≤ 4) (hw : 1 ≤ w ∧ w ≤ 4) (R : Rm (h * w) o f a) (W : ab_wf (h * w) w b a) (hb : b ≤ 200000) (ho : o + 243 ≤ n0) (hn0 : n0 ≤ 100000) {p : Nat} (hp : p < h * w) : sh_X9_isReadyIn F (h : Int) (w : Int) f n0 (o : Int) (p : Int) = some (if 0 < ab_slack (h * w) w a p then 1 else 0) := by
  have hs := ab_slack_rng W hp
  unfold sh_X9_isReadyIn
  rw [R.slack hF hh hw W hb ho hn0 hp, Option.bind_some, zkr_t (by omega) (by omega)]
  split <;> rfl
end RM
/-- the next point by order: among m points from i on, behind the best so far -/
def ab_nxt (S G : Nat → Int) : Nat → Nat → Int → Int → Int → Int
  | 0, _, best, _, _ => best
  | m + 1, i, best, ms, mg => if ms < S i ∨ (0 < S i ∧ S i = ms ∧ mg < G i) then ab_nxt S G m (i + 1) (i : Int) (S i) (G i) else ab_nxt S G m (i + 1) best ms mg
def ab_next (n w : Nat) (a : zAb) : Int := ab_nxt (ab_slack n w a) (fun p => ab_grade (ab_col a p) 0) n 0 (-9) 0 0
theorem ab_nxt_rng (S G : Nat → Int) : ∀ (m i : Nat) (best ms mg : Int), 0 ≤ ms → (best = -9 ∧ ms = 0 ∨ ∃ p : Nat, p < i ∧ best = (p : Int) ∧ 0 < S p) → (ab_nxt S G m i best ms mg = -9 ∨ ∃ p : Nat, p < i + m ∧ ab_nxt S G m i best ms mg = (p : Int) ∧ 0 < S p)
  | 0, i, best, ms, mg, h0, h => by
    rw [ab_nxt]
    rcases h with h | ⟨p, h1, h2⟩
    · exact Or.inl h.1
    · exact Or.inr ⟨p, by omega, h2⟩
  | m + 1, i, best, ms, mg, h0, h => by
    rw [ab_nxt]
    split
    · rename_i hc
      have hS : 0 < S i := by rcases hc with hc | hc <;> omega
      rcases ab_nxt_rng S G m (i + 1) (i : Int) (S i) (G i) (by omega) (Or.inr ⟨i, by omega, rfl, hS⟩) with h | ⟨p, h1, h2⟩
      · exact Or.inl h
      · exact Or.inr ⟨p, by omega, h2⟩
    · rcases ab_nxt_rng S G m (i + 1) best ms mg h0 (by
        rcases h with h | ⟨p, h1, h2⟩
        · exact Or.inl h
        · exact Or.inr ⟨p, by omega, h2⟩) with h | ⟨p, h1, h2⟩
      · exact Or.inl h
      · exact Or.inr ⟨p, by omega, h2⟩
theorem ab_next_rng (n w : Nat) (a : zAb) : ab_next n w a = -9 ∨ ∃ p : Nat, p < n ∧ ab_next n w a = (p : Int) ∧ 0 < ab_slack n w a p := by
  have := ab_nxt_rng (ab_slack n w a) (fun p => ab_grade (ab_col a p) 0) n 0 (-9) 0 0 (Int.le_refl _) (Or.inl ⟨rfl, rfl⟩)
  rw [Nat.zero_add] at this
  exact this
theorem c_next_L {F h w : Nat} {size : Int} {ro co ne nc : Nat → Int} {bk gr ht dr : Nat → Int} {lim hs bs gs b : Int} {a : zAb} (k : Int → Int → Int → Int → Option Int) (hk : ∀ x y z u, k x y z u = some x) (hF : 20 ≤ F) (G : gz_ok h w size ro co ne nc) (R : Rc (h * w) bk gr ht dr lim hs bs gs a) (W : ab_wf (h * w) w b a) (hb : b ≤ 200000) : ∀ (m N i : Nat) (best ms mg mg' : Int), i + m = h * w → m < N → (0 ≤ ms ∧ ms ≤ 54) → (-9 ≤ mg' ∧ mg' ≤ 9) → (ms = 0 ∨ mg' = mg) → sh_X0_nextOf_L12 F lim hs bk gr ht dr size ne nc k N best ms mg' (i : Int) = some (ab_nxt (ab_slack (h * w) w a) (fun p => ab_grade (ab_col a p) 0) m i best ms mg) := by
  have hn := gz_n16 G.2.1 G.2.2.2.1
  have hsz := G.2.2.2.2.1
  intro m
  induction m with
  | zero =>
    intro N i best ms mg mg' hi hN h1 h2 h3
    obtain ⟨N, rfl⟩ : ∃ M, N = M + 1 := ⟨N - 1, by omega⟩
    simp (disch := omega) only [sh_X0_nextOf_L12, sh_X2_size, Option.bind_some, zkr_t, if_neg, ab_nxt, hk]
  | succ m ih =>
    intro N i best ms mg mg' hi hN h1 h2 h3
    obtain ⟨N, rfl⟩ : ∃ M, N = M + 1 := ⟨N - 1, by omega⟩
    have hip : i < h * w := by omega
    have hS := ab_slack_rng W hip
    have hG : -9 ≤ ab_grade (ab_col a i) 0 ∧ ab_grade (ab_col a i) 0 ≤ 9 := by
      have := ab_grade_rng (W.1 i hip).1.2 0; omega
    have e1 := R.slack hF G W hb hip
    have e2 := R.grade hF W hn hip (i := 0) (by omega)
    rw [ab_nxt]
    simp (disch := omega) only [sh_X0_nextOf_L12, sh_X2_size, Option.bind_some, zkr_t, if_pos, e1, e2, nc_s]
    generalize hSv : ab_slack (h * w) w a i = S at *
    generalize hGv : ab_grade (ab_col a i) 0 = Gv at *
    have A := fun best ms mg mg' => ih N (i + 1) best ms mg mg' (by omega) (by omega)
    try simp only [if_true, if_false]
    repeat' split
    all_goals first | exact A _ _ _ _ (by omega) (by omega) (by omega) | (exfalso; omega)
theorem Rc.next {F h w : Nat} {size : Int} {ro co ne nc : Nat → Int} {bk gr ht dr : Nat → Int} {lim hs bs gs b : Int} {a : zAb} (hF : 20 ≤ F) (G : gz_ok h w size ro co ne nc) (R : Rc (h * w) bk gr ht dr lim hs bs gs a) (W : ab_wf (h * w) w b a) (hb : b ≤ 200000) : sh_X0_nextOf F lim hs bk gr ht dr size ne nc = some (ab_next (h * w) w a) := by
  have hn := gz_n16 G.2.1 G.2.2.2.1
  unfold sh_X0_nextOf ab_next
  exact c_next_L (fun v21 _ _ _ => some v21) (fun _ _ _ _ => rfl) hF G R W hb (h * w) F 0 (-9) 0 0 (-9) (by omega) (by omega) (by decide) (by decide) (Or.inl rfl)
theorem m_next_L {F h w n0 : Nat} {f : Nat → Int} {b : Int} {a : zAb} (k : Int → Int → Int → Int → Option Int) (hk : ∀ x y z u, k x y z u = some x) (hF : 20 ≤ F) (hh : 1 ≤ h ∧ h ≤ 4) (hw : 1 ≤ w ∧ w ≤ 4) (R : Rm (h * w) 0 f a) (W : ab_wf (h * w) w b a) (hb : b ≤ 200000) (ho : 243 ≤ n0) (hn0 : n0 ≤ 100000) : ∀ (m N i : Nat) (best ms mg : Int), i + m = h * w → m < N → (0 ≤ ms ∧ ms ≤ 54) → (-9 ≤ mg ∧ mg ≤ 9) → sh_X9_nextOf_L11 F n0 (h : Int) (w : Int) f k N best ms mg (i : Int) = some (ab_nxt (ab_slack (h * w) w a) (fun p => ab_grade (ab_col a p) 0) m i best ms mg) := by
  have hn := gz_n16 hh.2 hw.2
  intro m
  induction m with
  | zero =>
    intro N i best ms mg hi hN h1 h2
    obtain ⟨N, rfl⟩ : ∃ M, N = M + 1 := ⟨N - 1, by omega⟩
    simp (disch := omega) only [sh_X9_nextOf_L11, m_points, Option.bind_some, zkr_t, if_neg, ab_nxt, hk]
  | succ m ih =>
    intro N i best ms mg hi hN h1 h2
    obtain ⟨N, rfl⟩ : ∃ M, N = M + 1 := ⟨N - 1, by omega⟩
    have hip : i < h * w := by omega
    have hS := ab_slack_rng W hip
    have hG : -9 ≤ ab_grade (ab_col a i) 0 ∧ ab_grade (ab_col a i) 0 ≤ 9 := by
      have := ab_grade_rng (W.1 i hip).1.2 0; omega
    have e1 : sh_X9_slackOf F (h : Int) (w : Int) f n0 (0 : Int) (i : Int) = _ := R.slack (o := 0) hF hh hw W hb (by omega) hn0 hip
    have e2 : sh_X9_gradeOf F f n0 (0 : Int) (i : Int) (0 : Int) = _ := R.grade (o := 0) hF W (by omega) hn hip (i := 0) (by omega)
    rw [ab_nxt]
    simp (disch := omega) only [sh_X9_nextOf_L11, m_points, Option.bind_some, zkr_t, if_pos, e1, e2, nc_s]
    generalize hSv : ab_slack (h * w) w a i = S at *
    generalize hGv : ab_grade (ab_col a i) 0 = Gv at *
    have A := fun best ms mg => ih N (i + 1) best ms mg (by omega) (by omega)
    try simp only [if_true, if_false]
    repeat' split
    all_goals first | exact A _ _ _ (by omega) (by omega) | (exfalso; omega)
theorem Rm.next {F h w n0 : Nat} {f : Nat → Int} {b : Int} {a : zAb} (hF : 20 ≤ F) (hh : 1 ≤ h ∧ h ≤ 4) (hw : 1 ≤ w ∧ w ≤ 4) (R : Rm (h * w) 0 f a) (W : ab_wf (h * w) w b a) (hb : b ≤ 200000) (ho : 243 ≤ n0) (hn0 : n0 ≤ 100000) : sh_X9_nextOf F (h : Int) (w : Int) f n0 = some (ab_next (h * w) w a) := by
  have hn := gz_n16 hh.2 hw.2
  unfold sh_X9_nextOf ab_next
  exact m_next_L (fun v21 _ _ _ => some v21) (fun _ _ _ _ => rfl) hF hh hw R W hb ho hn0 (h * w) F 0 (-9) 0 0 (by omega) (by omega) (by decide) (by decide)
