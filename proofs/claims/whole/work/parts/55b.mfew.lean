/-! THE FEWEST BUCKETS, in the reference -/
theorem ix_15 (q : Nat) : (((15 : Int) * (q : Int)) + (0 : Int)).toNat = 15 * q := by omega
theorem ix_151 (q : Nat) : (((15 : Int) * (q : Int)) + (1 : Int)).toNat = 15 * q + 1 := by omega
theorem ix_240 : (240 : Int).toNat = 240 := rfl
theorem Rm.at0 {n : Nat} {f : Nat → Int} {a : zAb} (R : Rm n 0 f a) {q : Nat} (hq : q < n) : f (15 * q) = ab_dr a q ∧ f (15 * q + 1) = (if ab_hg a q then 1 else 0) := by
  have h := R.1 q hq
  rw [Nat.zero_add] at h
  exact ⟨h.2.2.1, h.2.2.2⟩
theorem Rm.lim0 {n : Nat} {f : Nat → Int} {a : zAb} (R : Rm n 0 f a) : f 240 = ab_lim a := by
  have h := R.2.1
  rw [Nat.zero_add] at h
  exact h
def few_I (n w : Nat) (a : zAb) (p : Nat) (k : Int) (v : Nat → Int) : Prop := ∀ q, q < n → ab_dr a q ≤ v q ∧ (v q = ab_dr a q ∨ v q ≤ ab_dr a p + k - ab_lim a * ((gz_dist w p q : Nat) : Int)) ∧ v q ≤ ab_dr a q + k
theorem few_I_up {n w : Nat} {b : Int} {a : zAb} (W : ab_wf n w b a) {p : Nat} {k : Int} {v : Nat → Int} (I : few_I n w a p k v) (hch : ∀ q, q < n → ab_dr a p - ab_lim a * ((gz_dist w p q : Nat) : Int) ≤ ab_dr a q) {q o : Nat} (hq : q < n) (ho : o < n) (hd : gz_dist w q o = 1) (hlt : v o < v q - ab_lim a) : few_I n w a p k (va_up v o (v q - ab_lim a)) := by
  have h1 := I q hq
  have h2 := W.2.1 q o hq ho hd
  have h4 := I o ho
  have h3 : ab_lim a * ((gz_dist w p o : Nat) : Int) ≤ ab_lim a * ((gz_dist w p q : Nat) : Int) + ab_lim a := by
    have t := gz_tri w p q o
    rw [hd] at t
    have := Int.mul_le_mul_of_nonneg_left (c := ab_lim a) (show ((gz_dist w p o : Nat) : Int) ≤ ((gz_dist w p q : Nat) : Int) + 1 by omega) (by have := W.2.2.1; omega)
    rw [Int.mul_add, Int.mul_one] at this
    exact this
  intro j hj
  by_cases e : j = o
  · subst e
    rw [up_s]
    have := hch j hj
    omega
  · rw [up_n _ _ _ e]
    exact I j hj
theorem m_few_67 {F h w : Nat} {f : Nat → Int} {b : Int} {a : zAb} {p : Nat} {kk : Int} (hh : 1 ≤ h ∧ h ≤ 4) (hw : 1 ≤ w ∧ w ≤ 4) (R : Rm (h * w) 0 f a) (W : ab_wf (h * w) w b a) (hb : b ≤ 200000) (hk : 0 ≤ kk ∧ kk ≤ 60) (hch : ∀ q, q < h * w → ab_dr a p - ab_lim a * ((gz_dist w p q : Nat) : Int) ≤ ab_dr a q) (k : Int → Int → (Nat → Int) → Option (Int × (Nat → Int))) {q : Nat} (hq : q < h * w) : ∀ (m N o : Nat) (more : Int) (v : Nat → Int), o + m = h * w → m < N → few_I (h * w) w a p kk v → (more = 0 ∨ more = 1) → ∃ more' v', sh_X9_fewest_L67 F (h : Int) (w : Int) f (q : Int) k N more (o : Int) v = k more' ((h * w : Nat) : Int) v' ∧ few_I (h * w) w a p kk v' ∧ (more' = 0 ∨ more' = 1) ∧ sm_of v (h * w) ≤ sm_of v' (h * w) ∧ (more' = 0 → more = 0 ∧ v' = v ∧ ∀ o', o ≤ o' → o' < h * w → gz_dist w q o' = 1 → v q - ab_lim a ≤ v o') ∧ (more' = 1 → more = 1 ∨ sm_of v (h * w) < sm_of v' (h * w)) ∧ v p ≤ v' p := by
  have hn := gz_n16 hh.2 hw.2
  have hlim := W.2.2.1
  have e240 := R.lim0
  intro m
  induction m with
  | zero =>
    intro N o more v ho hN I hm
    obtain ⟨N, rfl⟩ : ∃ M, N = M + 1 := ⟨N - 1, by omega⟩
    have : o = h * w := by omega
    subst this
    refine ⟨more, v, ?_, I, hm, Int.le_refl _, fun z => ⟨z, rfl, fun o' h1 h2 => by omega⟩, fun z => Or.inl z, Int.le_refl _⟩
    simp (disch := omega) only [sh_X9_fewest_L67, m_points, Option.bind_some, zkr_t, if_neg]
  | succ m ih =>
    intro N o more v ho hN I hm
    obtain ⟨N, rfl⟩ : ∃ M, N = M + 1 := ⟨N - 1, by omega⟩
    have hon : o < h * w := by omega
    have bq := m_beside F w q o hw (by omega) (by omega)
    have vq := I q hq
    have vo := I o hon
    have wq := W.1 q hq
    have wo := W.1 o hon
    by_cases hd : gz_dist w q o = 1
    · rw [if_pos hd] at bq
      by_cases hc : v o < v q - ab_lim a
      · obtain ⟨more', v', x1, x2, x3, x4, x5, x6, x7⟩ := ih N (o + 1) 1 (va_up v o (v q - ab_lim a)) (by omega) (by omega) (few_I_up W I hch hq hon hd hc) (Or.inr rfl)
        have hs := sm_up v o (v q - ab_lim a) (h * w) hon
        refine ⟨more', v', ?_, x2, x3, by omega, fun z => absurd (x5 z).1 (by decide), fun _ => Or.inr (by omega), ?_⟩
        · simp (disch := omega) only [sh_X9_fewest_L67, m_points, Option.bind_some, zkr_t, zkx_t, if_pos, if_neg, bq, ix_n, ix_240, e240, nc_s]
          exact x1
        · refine Int.le_trans ?_ x7
          by_cases e : p = o
          · subst e; rw [up_s]; omega
          · rw [up_n _ _ _ e]; exact Int.le_refl _
      · obtain ⟨more', v', x1, x2, x3, x4, x5, x6, x7⟩ := ih N (o + 1) more v (by omega) (by omega) I hm
        refine ⟨more', v', ?_, x2, x3, x4, fun z => ⟨(x5 z).1, (x5 z).2.1, fun o' h1 h2 h3 => ?_⟩, x6, x7⟩
        · simp (disch := omega) only [sh_X9_fewest_L67, m_points, Option.bind_some, zkr_t, zkx_t, if_pos, if_neg, bq, ix_n, ix_240, e240, nc_s]
          exact x1
        · by_cases e : o' = o
          · subst e; omega
          · exact (x5 z).2.2 o' (by omega) h2 h3
    · rw [if_neg hd] at bq
      obtain ⟨more', v', x1, x2, x3, x4, x5, x6, x7⟩ := ih N (o + 1) more v (by omega) (by omega) I hm
      refine ⟨more', v', ?_, x2, x3, x4, fun z => ⟨(x5 z).1, (x5 z).2.1, fun o' h1 h2 h3 => ?_⟩, x6, x7⟩
      · simp (disch := omega) only [sh_X9_fewest_L67, m_points, Option.bind_some, zkr_t, zkx_t, if_pos, if_neg, bq, nc_s]
        exact x1
      · by_cases e : o' = o
        · subst e; exact absurd h3 hd
        · exact (x5 z).2.2 o' (by omega) h2 h3
theorem m_few_55 {F h w : Nat} {f : Nat → Int} {b : Int} {a : zAb} {p : Nat} {kk : Int} (hF : 5000 ≤ F) (hh : 1 ≤ h ∧ h ≤ 4) (hw : 1 ≤ w ∧ w ≤ 4) (R : Rm (h * w) 0 f a) (W : ab_wf (h * w) w b a) (hb : b ≤ 200000) (hk : 0 ≤ kk ∧ kk ≤ 60) (hch : ∀ q, q < h * w → ab_dr a p - ab_lim a * ((gz_dist w p q : Nat) : Int) ≤ ab_dr a q) (k : Int → Int → (Nat → Int) → Option (Int × (Nat → Int))) : ∀ (m N q : Nat) (more : Int) (v : Nat → Int), q + m = h * w → m < N → few_I (h * w) w a p kk v → (more = 0 ∨ more = 1) → ∃ more' v', sh_X9_fewest_L55 F (h : Int) (w : Int) f k N more (q : Int) v = k more' ((h * w : Nat) : Int) v' ∧ few_I (h * w) w a p kk v' ∧ (more' = 0 ∨ more' = 1) ∧ sm_of v (h * w) ≤ sm_of v' (h * w) ∧ (more' = 0 → more = 0 ∧ v' = v ∧ ∀ q' o', q ≤ q' → q' < h * w → o' < h * w → gz_dist w q' o' = 1 → v q' - ab_lim a ≤ v o') ∧ (more' = 1 → more = 1 ∨ sm_of v (h * w) < sm_of v' (h * w)) ∧ v p ≤ v' p := by
  have hn := gz_n16 hh.2 hw.2
  intro m
  induction m with
  | zero =>
    intro N q more v ho hN I hm
    obtain ⟨N, rfl⟩ : ∃ M, N = M + 1 := ⟨N - 1, by omega⟩
    have : q = h * w := by omega
    subst this
    refine ⟨more, v, ?_, I, hm, Int.le_refl _, fun z => ⟨z, rfl, fun q' o' h1 h2 => by omega⟩, fun z => Or.inl z, Int.le_refl _⟩
    simp (disch := omega) only [sh_X9_fewest_L55, m_points, Option.bind_some, zkr_t, if_neg]
  | succ m ih =>
    intro N q more v ho hN I hm
    obtain ⟨N, rfl⟩ : ∃ M, N = M + 1 := ⟨N - 1, by omega⟩
    have hqn : q < h * w := by omega
    obtain ⟨more1, v1, y1, y2, y3, y4, y5, y6, y7⟩ := m_few_67 (F := F) (p := p) hh hw R W hb hk hch (fun v53 _ (v55 : Nat → Int) => sh_X9_fewest_L55 F (h : Int) (w : Int) f k N v53 ((q : Int) + (1 : Int)) v55) hqn (h * w) F 0 more v (by omega) (by omega) I hm
    obtain ⟨more', v', x1, x2, x3, x4, x5, x6, x7⟩ := ih N (q + 1) more1 v1 (by omega) (by omega) y2 y3
    refine ⟨more', v', ?_, x2, x3, by omega, fun z => ?_, fun z => ?_, Int.le_trans y7 x7⟩
    · simp (disch := omega) only [sh_X9_fewest_L55, m_points, Option.bind_some, zkr_t, if_pos]
      rw [← x1]
      exact y1
    · obtain ⟨z1, z2, z3⟩ := x5 z
      obtain ⟨u1, u2, u3⟩ := y5 z1
      refine ⟨u1, by rw [z2, u2], fun q' o' h1 h2 h3 h4 => ?_⟩
      by_cases e : q' = q
      · subst e; exact u3 o' (by omega) h3 h4
      · rw [u2] at z3; exact z3 q' o' (by omega) h2 h3 h4
    · rcases x6 z with t | t
      · rcases y6 t with t | t
        · exact Or.inl t
        · exact Or.inr (by omega)
      · exact Or.inr (by omega)
theorem m_few_46 {F h w : Nat} {f : Nat → Int} {b : Int} {a : zAb} {p : Nat} {kk : Int} (hF : 5000 ≤ F) (hh : 1 ≤ h ∧ h ≤ 4) (hw : 1 ≤ w ∧ w ≤ 4) (R : Rm (h * w) 0 f a) (W : ab_wf (h * w) w b a) (hb : b ≤ 200000) (hk : 0 ≤ kk ∧ kk ≤ 60) (hch : ∀ q, q < h * w → ab_dr a p - ab_lim a * ((gz_dist w p q : Nat) : Int) ≤ ab_dr a q) (k : Int → (Nat → Int) → Option (Int × (Nat → Int))) : ∀ (m N : Nat) (v : Nat → Int), sm_of (ab_dr a) (h * w) + 960 - sm_of v (h * w) < (m : Int) → m + 1 < N → few_I (h * w) w a p kk v → ∃ v', sh_X9_fewest_L46 F (h : Int) (w : Int) f k N 1 v = k 0 v' ∧ few_I (h * w) w a p kk v' ∧ (∀ q' o', q' < h * w → o' < h * w → gz_dist w q' o' = 1 → v' q' - ab_lim a ≤ v' o') ∧ v p ≤ v' p := by
  have hn := gz_n16 hh.2 hw.2
  intro m
  induction m with
  | zero =>
    intro N v hs hN I
    have h1 := sm_le (v := v) (u := ab_dr a) (k := kk) (h * w) (fun q hq => (I q hq).2.2)
    have h2 : kk * ((h * w : Nat) : Int) ≤ 60 * 16 := Int.mul_le_mul hk.2 (by omega) (by omega) (by omega)
    omega
  | succ m ih =>
    intro N v hs hN I
    obtain ⟨N, rfl⟩ : ∃ M, N = M + 1 := ⟨N - 1, by omega⟩
    obtain ⟨more1, v1, y1, y2, y3, y4, y5, y6, y7⟩ := m_few_55 (F := F) (p := p) hF hh hw R W hb hk hch (fun v56 _ (v58 : Nat → Int) => sh_X9_fewest_L46 F (h : Int) (w : Int) f k N v56 v58) (h * w) F 0 0 v (by omega) (by omega) I (Or.inl rfl)
    have e1 : sh_X9_fewest_L46 F (h : Int) (w : Int) f k (N + 1) 1 v = sh_X9_fewest_L46 F (h : Int) (w : Int) f k N more1 v1 := by
      rw [← y1, sh_X9_fewest_L46, zkr_t (by omega) (by omega), if_neg (by decide)]
      rfl
    rw [e1]
    rcases y3 with t | t
    · obtain ⟨N, rfl⟩ : ∃ M, N = M + 1 := ⟨N - 1, by omega⟩
      subst t
      refine ⟨v1, ?_, y2, ?_, y7⟩
      · rw [sh_X9_fewest_L46, zkr_t (by omega) (by omega), if_pos rfl]
      · have := (y5 rfl).2
        rw [this.1]
        exact fun q' o' h1 h2 h3 => this.2 q' o' (by omega) h1 h2 h3
    · subst t
      rcases y6 rfl with t | t
      · exact absurd t (by decide)
      · obtain ⟨v', x1, x2, x3, x4⟩ := ih N v1 (by omega) (by omega) y2
        exact ⟨v', x1, x2, x3, Int.le_trans y7 x4⟩
theorem m_few_162c {F h w : Nat} {f vv : Nat → Int} {b : Int} {a : zAb} (hF : 20 ≤ F) (hh : 1 ≤ h ∧ h ≤ 4) (hw : 1 ≤ w ∧ w ≤ 4) : ∀ (m N q : Nat) (s : Int), q + m = h * w → m < N → sh_X9_fewest_L162 F (h : Int) (w : Int) f vv (fun v80 v81 _ => zkr v81 (if v81 = 0 then some (-9, vv) else some (v80, vv))) N s 0 (q : Int) = some (-9, vv) := by
  have hn := gz_n16 hh.2 hw.2
  intro m
  induction m with
  | zero =>
    intro N q s hq hN
    obtain ⟨N, rfl⟩ : ∃ M, N = M + 1 := ⟨N - 1, by omega⟩
    simp (disch := omega) only [sh_X9_fewest_L162, m_points, Option.bind_some, zkr_t, if_neg]
    rfl
  | succ m ih =>
    intro N q s hq hN
    obtain ⟨N, rfl⟩ : ∃ M, N = M + 1 := ⟨N - 1, by omega⟩
    simp (disch := omega) only [sh_X9_fewest_L162, m_points, Option.bind_some, zkr_t, zkx_t, if_pos, nc_s]
    exact ih N (q + 1) _ (by omega) (by omega)
theorem m_few_162 {F h w : Nat} {f vv : Nat → Int} {b : Int} {a : zAb} {p : Nat} {kk : Int} (hF : 20 ≤ F) (hh : 1 ≤ h ∧ h ≤ 4) (hw : 1 ≤ w ∧ w ≤ 4) (R : Rm (h * w) 0 f a) (W : ab_wf (h * w) w b a) (hb : b ≤ 200000) (hk : 0 ≤ kk ∧ kk ≤ 60) (hp : p < h * w) (hv : ∀ q, q < h * w → vv q - ab_dr a q = (if 0 < ab_need w a p kk q then ab_need w a p kk q else 0)) : ∀ (m N q : Nat) (s : Int), q + m = h * w → m < N → sh_X9_fewest_L162 F (h : Int) (w : Int) f vv (fun v80 v81 _ => zkr v81 (if v81 = 0 then some (-9, vv) else some (v80, vv))) N s 1 (q : Int) = some (ab_few w a p kk m q s, vv) := by
  have hn := gz_n16 hh.2 hw.2
  intro m
  induction m with
  | zero =>
    intro N q s hq hN
    obtain ⟨N, rfl⟩ : ∃ M, N = M + 1 := ⟨N - 1, by omega⟩
    simp (disch := omega) only [sh_X9_fewest_L162, m_points, Option.bind_some, zkr_t, if_neg, ab_few]
  | succ m ih =>
    intro N q s hq hN
    obtain ⟨N, rfl⟩ : ∃ M, N = M + 1 := ⟨N - 1, by omega⟩
    have hqn : q < h * w := by omega
    have e := hv q hqn
    have a0 := R.at0 hqn
    have nd := ab_need_rng W (by omega) hn hb hk hp hqn
    have hl := ab_left_rng (W.1 q hqn).1
    have er : sh_X9_remainingOf F f 243 (0 : Int) (q : Int) = _ := R.left (o := 0) hF (by omega) hn hqn
    have A := fun s => ih N (q + 1) s (by omega) (by omega)
    have C := fun s => m_few_162c (F := F) (f := f) (vv := vv) (b := b) (a := a) hF hh hw m N (q + 1) s (by omega) (by omega)
    rw [ab_few]
    by_cases c1 : 0 < ab_need w a p kk q
    · rw [if_pos c1] at e ⊢
      simp (disch := omega) only [sh_X9_fewest_L162, m_points, Option.bind_some, zkr_t, zkx_t, if_pos, if_neg, ix_n, ix_15, ix_151, a0.1, e, nc_s, a0.2]
      by_cases c2 : ab_hg a q = true
      · rw [if_pos (Or.inl c2)]
        simp (disch := omega) only [c2, if_true, zkr_t, if_neg]
        exact C _
      · have c2' : ab_hg a q = false := by revert c2; cases ab_hg a q <;> simp
        simp (disch := omega) only [c2', Bool.false_eq_true, if_false, false_or, zkr_t, er, Option.bind_some]
        by_cases c3 : ab_left (ab_col a q) < ab_need w a p kk q
        · rw [if_pos c3]
          simp only [if_pos c3, if_true]
          exact C _
        · rw [if_neg c3]
          simp only [if_neg c3, if_true]
          exact A _
    · rw [if_neg c1] at e ⊢
      simp (disch := omega) only [sh_X9_fewest_L162, m_points, Option.bind_some, zkr_t, zkx_t, if_pos, if_neg, ix_n, ix_15, ix_151, a0.1, e, nc_s]
      rw [Int.add_zero]
      exact A _
theorem m_few_2 {F h w : Nat} {f : Nat → Int} {a : zAb} {p : Nat} {kk : Int} (hh : 1 ≤ h ∧ h ≤ 4) (hw : 1 ≤ w ∧ w ≤ 4) (R : Rm (h * w) 0 f a) (hp : p < h * w) (k : Int → (Nat → Int) → Option (Int × (Nat → Int))) : ∀ (m N q : Nat) (v : Nat → Int), q + m = h * w → m < N → (∀ j, j < q → v j = ab_dr a j + (if j = p then kk else 0)) → ∃ v', sh_X9_fewest_L2 F (p : Int) kk (h : Int) (w : Int) f k N (q : Int) v = k ((h * w : Nat) : Int) v' ∧ ∀ j, j < h * w → v' j = ab_dr a j + (if j = p then kk else 0) := by
  have hn := gz_n16 hh.2 hw.2
  intro m
  induction m with
  | zero =>
    intro N q v hq hN hv
    obtain ⟨N, rfl⟩ : ∃ M, N = M + 1 := ⟨N - 1, by omega⟩
    have : q = h * w := by omega
    subst this
    refine ⟨v, ?_, hv⟩
    simp (disch := omega) only [sh_X9_fewest_L2, m_points, Option.bind_some, zkr_t, if_neg]
  | succ m ih =>
    intro N q v hq hN hv
    obtain ⟨N, rfl⟩ : ∃ M, N = M + 1 := ⟨N - 1, by omega⟩
    have hqn : q < h * w := by omega
    have a0 := R.at0 hqn
    obtain ⟨v', x1, x2⟩ := ih N (q + 1) (va_up v q (ab_dr a q + (if q = p then kk else 0))) (by omega) (by omega) (fun j hj => by
      by_cases e : j = q
      · subst e; rw [up_s]
      · rw [up_n _ _ _ e]; exact hv j (by omega))
    refine ⟨v', ?_, x2⟩
    rw [← x1]
    by_cases e : q = p
    · simp (disch := omega) only [sh_X9_fewest_L2, m_points, Option.bind_some, zkr_t, zkx_t, if_pos, ix_15, ix_n, a0.1, nc_s]
    · simp (disch := omega) only [sh_X9_fewest_L2, m_points, Option.bind_some, zkr_t, zkx_t, if_pos, if_neg, ix_15, ix_n, a0.1, nc_s]
theorem Rm.few {F h w : Nat} {f : Nat → Int} {b : Int} {a : zAb} (hF : 5000 ≤ F) (hh : 1 ≤ h ∧ h ≤ 4) (hw : 1 ≤ w ∧ w ≤ 4) (R : Rm (h * w) 0 f a) (W : ab_wf (h * w) w b a) (hb : b ≤ 200000) {p : Nat} (hp : p < h * w) {kk : Int} (hk : 0 ≤ kk ∧ kk ≤ 60) (v0 : Nat → Int) : ∃ v', sh_X9_fewest F (h : Int) (w : Int) f v0 (p : Int) kk = some (ab_fewest (h * w) w a p kk, v') := by
  have hn := gz_n16 hh.2 hw.2
  have hch : ∀ q, q < h * w → ab_dr a p - ab_lim a * ((gz_dist w p q : Nat) : Int) ≤ ab_dr a q := fun q hq => gd_chain hh hw hp (ab_lim a) (ab_dr a p) (ab_dr a) (Int.le_refl _) (fun q o hq ho hd => by have := W.2.1 q o hq ho hd; omega) _ q hq rfl
  unfold sh_X9_fewest
  obtain ⟨v1, x1, x2⟩ := m_few_2 (F := F) (f := f) (kk := kk) hh hw R hp (fun _ (v15 : Nat → Int) => sh_X9_fewest_L46 F (h : Int) (w : Int) f (fun _ (v60 : Nat → Int) => sh_X9_fewest_L162 F (h : Int) (w : Int) f v60 (fun v80 v81 _ => zkr v81 (if v81 = (0 : Int) then some ((-9 : Int), v60) else some (v80, v60))) F (0 : Int) (1 : Int) (0 : Int)) F (1 : Int) v15) (h * w) F 0 v0 (by omega) (by omega) (fun j hj => absurd hj (Nat.not_lt_zero _))
  have I1 : few_I (h * w) w a p kk v1 := by
    intro q hq
    rw [x2 q hq]
    by_cases e : q = p
    · subst e
      rw [if_pos rfl, gz_self, Int.natCast_zero, Int.mul_zero]
      omega
    · rw [if_neg e]; omega
  have hs : sm_of (ab_dr a) (h * w) ≤ sm_of v1 (h * w) := by
    have := sm_le (v := ab_dr a) (u := v1) (k := 0) (h * w) (fun q hq => by have := (I1 q hq).1; omega)
    omega
  obtain ⟨v2, y1, y2, y3, y4⟩ := m_few_46 hF hh hw R W hb hk hch (fun _ (v60 : Nat → Int) => sh_X9_fewest_L162 F (h : Int) (w : Int) f v60 (fun v80 v81 _ => zkr v81 (if v81 = (0 : Int) then some ((-9 : Int), v60) else some (v80, v60))) F (0 : Int) (1 : Int) (0 : Int)) 1000 F v1 (by omega) (by omega) I1
  have hv : ∀ q, q < h * w → v2 q - ab_dr a q = (if 0 < ab_need w a p kk q then ab_need w a p kk q else 0) := by
    intro q hq
    have c := gd_chain hh hw hp (ab_lim a) (ab_dr a p + kk) v2 (by
      have := x2 p hp
      rw [if_pos rfl] at this
      omega) y3 _ q hq rfl
    have i := y2 q hq
    unfold ab_need
    split <;> omega
  refine ⟨v2, ?_⟩
  have e3 := m_few_162 (F := F) (by omega) hh hw R W hb hk hp hv (h * w) F 0 0 (by omega) (by omega)
  have e4 : sh_X9_fewest_L2 F (p : Int) kk (h : Int) (w : Int) f _ F (0 : Int) v0 = _ := x1
  rw [e4, y1]
  exact e3
