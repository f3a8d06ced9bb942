/-! THE CLASS'S search: what it looks at first -/
theorem fill_L {F n : Nat} {v : Int} (hn : n ≤ 10000) : ∀ (m N i : Nat) (g : Nat → Int), i + m = n → m < N → ∃ g', sh_J7_fill_53178_L5 F n v (fun _ (v10 : Nat → Int) => some v10) N (i : Int) g = some g' ∧ (∀ j, i ≤ j → j < n → g' j = v) ∧ ∀ j, (j < i ∨ n ≤ j) → g' j = g j := by
  intro m
  induction m with
  | zero =>
    intro N i g hi hN
    obtain ⟨N, rfl⟩ : ∃ M, N = M + 1 := ⟨N - 1, by omega⟩
    refine ⟨g, ?_, fun j a b => by omega, fun _ _ => rfl⟩
    simp (disch := omega) only [sh_J7_fill_53178_L5, zkr_t, if_neg]
  | succ m ih =>
    intro N i g hi hN
    obtain ⟨N, rfl⟩ : ∃ M, N = M + 1 := ⟨N - 1, by omega⟩
    obtain ⟨g', x1, x2, x3⟩ := ih N (i + 1) (va_up g i v) (by omega) (by omega)
    refine ⟨g', ?_, fun j a b => ?_, fun j hj => ?_⟩
    · simp (disch := omega) only [sh_J7_fill_53178_L5, zkr_t, zkx_t, if_pos, ix_n, nc_s]
      exact x1
    · by_cases e : j = i
      · subst e; rw [x3 _ (Or.inl (by omega)), up_s]
      · exact x2 j (by omega) b
    · rw [x3 j (by omega), up_n _ _ _ (by omega)]
theorem c_fill {F n : Nat} {v : Int} (hF : 5000 ≤ F) (hn : n ≤ 1000) (g : Nat → Int) : ∃ g', sh_J7_fill_53178 F g n v = some g' ∧ (∀ j, j < n → g' j = v) := by
  obtain ⟨g', x1, x2, x3⟩ := fill_L (F := F) (n := n) (v := v) (by omega) n F 0 g (by omega) (by omega)
  exact ⟨g', x1, fun j hj => x2 j (by omega) hj⟩
theorem la_L {F n w : Nat} {bk gr ht dr : Nat → Int} {lim hs bs gs b : Int} {a : zAb} (hF : 20 ≤ F) (R : Rc n bk gr ht dr lim hs bs gs a) (W : ab_wf n w b a) (hn : n ≤ 16) {p : Nat} (hp : p < n) (k : (Nat → Int) → Option ((Nat → Int) × (Nat → Int) × (Nat → Int))) : ∀ (m N j : Nat) (v : Nat → Int), j + m = 4 → m < N → ∃ v', sh_X6_lookAhead_L20 F (p : Int) hs bk gr ht (fun _ (v18 : Nat → Int) => k v18) N (j : Int) v = k v' ∧ (∀ i, j ≤ i → i < 4 → v' (4 * p + i) = (if ab_hg a p then -9 else ab_grade (ab_col a p) (i : Int))) ∧ ∀ c, (c < 4 * p + j ∨ 4 * p + 4 ≤ c) → v' c = v c := by
  intro m
  induction m with
  | zero =>
    intro N j v hj hN
    obtain ⟨N, rfl⟩ : ∃ M, N = M + 1 := ⟨N - 1, by omega⟩
    refine ⟨v, ?_, fun i h1 h2 => by omega, fun _ _ => rfl⟩
    simp (disch := omega) only [sh_X6_lookAhead_L20, zkr_t, if_neg]
  | succ m ih =>
    intro N j v hj hN
    obtain ⟨N, rfl⟩ : ∃ M, N = M + 1 := ⟨N - 1, by omega⟩
    have r := R.1 p hp
    have e : sh_X0_gradeOf F bk gr ht (p : Int) (j : Int) = some (ab_grade (ab_col a p) (j : Int)) := by
      rw [c_gradeOf F p j bk gr ht (by omega) (by omega) r.1.1 r.1.2 (by omega) (by rw [r.2.1]; exact (W.1 p hp).1.2), r.2.1]
    have eh : sh_X0_hangs F hs (p : Int) = some (if ab_hg a p then 1 else 0) := by
      have h1 := R.2.1
      have h16 : hs.toNat < 2 ^ 16 := Nat.lt_of_lt_of_le h1.2 (Nat.pow_le_pow_right (by decide) hn)
      have := c_hangs F hs.toNat p h16 (by omega)
      rw [show ((hs.toNat : Nat) : Int) = hs by omega, r.2.2.2] at this
      exact this
    obtain ⟨v', x1, x2, x3⟩ := ih N (j + 1) (va_up v (4 * p + j) (if ab_hg a p then -9 else ab_grade (ab_col a p) (j : Int))) (by omega) (by omega)
    refine ⟨v', ?_, fun i h1 h2 => ?_, fun c hc => ?_⟩
    · rw [← x1]
      cases hh : ab_hg a p with
      | true =>
        rw [hh] at eh
        simp (disch := omega) only [sh_X6_lookAhead_L20, zkr_t, zkx_t, if_pos, eh, Option.bind_some, ix_4, nc_s]
        rfl
      | false =>
        rw [hh] at eh
        simp (disch := omega) only [sh_X6_lookAhead_L20, zkr_t, zkx_t, if_pos, eh, Option.bind_some, ix_4, nc_s, e]
        rfl
    · by_cases z : i = j
      · subst z; rw [x3 _ (Or.inl (by omega)), up_s]
      · exact x2 i (by omega) h2
    · rw [x3 c (by omega), up_n _ _ _ (by omega)]
theorem rl_L {F h w : Nat} {size : Int} {ro co ne nc : Nat → Int} {bk gr ht dr : Nat → Int} {lim hs bs gs b : Int} {a : zAb} {β : Type} (hF : 20 ≤ F) (G : gz_ok h w size ro co ne nc) (R : Rc (h * w) bk gr ht dr lim hs bs gs a) (W : ab_wf (h * w) w b a) (k : (Nat → Int) → (Nat → Int) → (Nat → Int) → Option (Int × Int × Int × (Nat → Int) × (Nat → Int) × (Nat → Int) × (Nat → Int) × (Nat → Int) × (Nat → Int))) : ∀ (m N p : Nat) (ah d2 tk : Nat → Int), p + m = h * w → m < N → ∃ ah' d2' tk', sh_X6_run_L35 F size hs bk gr ht dr (fun _ (v22 : Nat → Int) (v23 : Nat → Int) (v24 : Nat → Int) => k v22 v23 v24) N (p : Int) ah d2 tk = k ah' d2' tk' ∧ (∀ q, p ≤ q → q < h * w → (∀ i, i < 4 → ah' (4 * q + i) = (if ab_hg a q then -9 else ab_grade (ab_col a q) (i : Int))) ∧ d2' q = ab_dr a q ∧ tk' q = 0) ∧ (∀ c, c < 4 * p → ah' c = ah c) ∧ (∀ q, q < p → d2' q = d2 q ∧ tk' q = tk q) := by
  have hn := gz_n16 G.2.1 G.2.2.2.1
  have hsz := G.2.2.2.2.1
  intro m
  induction m with
  | zero =>
    intro N p ah d2 tk hp hN
    obtain ⟨N, rfl⟩ : ∃ M, N = M + 1 := ⟨N - 1, by omega⟩
    refine ⟨ah, d2, tk, ?_, fun q h1 h2 => by omega, fun _ _ => rfl, fun _ _ => ⟨rfl, rfl⟩⟩
    simp (disch := omega) only [sh_X6_run_L35, sh_X2_size, Option.bind_some, zkr_t, if_neg]
  | succ m ih =>
    intro N p ah d2 tk hp hN
    obtain ⟨N, rfl⟩ : ∃ M, N = M + 1 := ⟨N - 1, by omega⟩
    have hpn : p < h * w := by omega
    have ed : sh_X0_drawnFrom F dr (p : Int) = some (ab_dr a p) := by
      unfold sh_X0_drawnFrom
      rw [zkx_t (by omega) (by omega), ix_n, (R.1 p hpn).2.2.1]
    obtain ⟨v', y1, y2, y3⟩ := la_L (F := F) hF R W hn hpn (fun v18 => some (v18, va_up d2 p (ab_dr a p), va_up tk p 0)) 4 F 0 ah (by omega) (by omega)
    have el : sh_X6_lookAhead F ah d2 tk hs bk gr ht dr (p : Int) = some (v', va_up d2 p (ab_dr a p), va_up tk p 0) := by
      unfold sh_X6_lookAhead
      rw [ed, Option.bind_some, zkx_t (by omega) (by omega), ix_n]
      exact y1
    obtain ⟨ah', d2', tk', x1, x2, x3, x4⟩ := ih N (p + 1) v' (va_up d2 p (ab_dr a p)) (va_up tk p 0) (by omega) (by omega)
    refine ⟨ah', d2', tk', ?_, fun q h1 h2 => ?_, fun c hc => by rw [x3 c (by omega), y3 c (by omega)], fun q hq => ?_⟩
    · rw [← x1]
      simp (disch := omega) only [sh_X6_run_L35, sh_X2_size, Option.bind_some, zkr_t, if_pos, el, nc_s]
    · by_cases z : q = p
      · subst z
        refine ⟨fun i hi => by rw [x3 _ (by omega), y2 i (by omega) hi], ?_, ?_⟩
        · rw [(x4 q (by omega)).1, up_s]
        · rw [(x4 q (by omega)).2, up_s]
      · exact x2 q (by omega) h2
    · rw [(x4 q (by omega)).1, (x4 q (by omega)).2, up_n _ _ _ (by omega), up_n _ _ _ (by omega)]
      exact ⟨rfl, rfl⟩
theorem bo_23 {F h w s : Nat} {size : Int} {ro co ne nc : Nat → Int} {ah : Nat → Int} {a : zAb} {b : Int} (hF : 20 ≤ F) (G : gz_ok h w size ro co ne nc) (W : ab_wf (h * w) w b a) (A : zAH (h * w) a ah) (hs : s < 4) (k : Int → Int → Option (Nat → Int)) : ∀ (m N p : Nat) (most : Int), p + m = h * w → m < N → (0 ≤ most ∧ most ≤ 9) → ∃ most', sh_X6_boundSteps_L23 F ah size (s : Int) k N most (p : Int) = k most' ((h * w : Nat) : Int) ∧ (0 ≤ most' ∧ most' ≤ 9) ∧ most ≤ most' ∧ ∀ q, p ≤ q → q < h * w → ah (4 * q + s) ≤ most' := by
  have hn := gz_n16 G.2.1 G.2.2.2.1
  have hsz := G.2.2.2.2.1
  intro m
  induction m with
  | zero =>
    intro N p most hp hN h1
    obtain ⟨N, rfl⟩ : ∃ M, N = M + 1 := ⟨N - 1, by omega⟩
    have e : p = h * w := by omega
    subst e
    refine ⟨most, ?_, h1, Int.le_refl _, fun q a b => by omega⟩
    simp (disch := omega) only [sh_X6_boundSteps_L23, sh_X2_size, Option.bind_some, zkr_t, if_neg]
  | succ m ih =>
    intro N p most hp hN h1
    obtain ⟨N, rfl⟩ : ∃ M, N = M + 1 := ⟨N - 1, by omega⟩
    have hpn : p < h * w := by omega
    have ea := A p hpn s hs
    have hg := ab_grade_rng (W.1 p hpn).1.2 (s : Int)
    have hr : -9 ≤ ah (4 * p + s) ∧ ah (4 * p + s) ≤ 9 := by rw [ea]; split <;> omega
    have hz : 0 ≤ zmax most (ah (4 * p + s)) ∧ zmax most (ah (4 * p + s)) ≤ 9 ∧ most ≤ zmax most (ah (4 * p + s)) ∧ ah (4 * p + s) ≤ zmax most (ah (4 * p + s)) := by unfold zmax; split <;> omega
    obtain ⟨most', x1, x2, x3, x4⟩ := ih N (p + 1) (zmax most (ah (4 * p + s))) (by omega) (by omega) ⟨hz.1, hz.2.1⟩
    refine ⟨most', ?_, x2, by omega, fun q a b => ?_⟩
    · rw [← x1]
      simp (disch := omega) only [sh_X6_boundSteps_L23, sh_X2_size, Option.bind_some, zkr_t, zkx_t, if_pos, ix_4, nc_s]
    · by_cases z : q = p
      · subst z; omega
      · exact x4 q (by omega) b
theorem bo_57 {F s : Nat} {most : Int} (hs : s < 4) (k : (Nat → Int) → Option (Nat → Int)) : ∀ (m N i : Nat) (M : Nat → Int), i + m = s + 1 → m < N → ∃ M', sh_X6_boundSteps_L57 F (s : Int) most (fun _ (v35 : Nat → Int) => k v35) N (i : Int) M = k M' ∧ (∀ j, i ≤ j → j ≤ s → M' j = M j + most) ∧ ∀ j, (j < i ∨ s < j) → M' j = M j := by
  intro m
  induction m with
  | zero =>
    intro N i M hi hN
    obtain ⟨N, rfl⟩ : ∃ M, N = M + 1 := ⟨N - 1, by omega⟩
    refine ⟨M, ?_, fun j a b => by omega, fun _ _ => rfl⟩
    rw [sh_X6_boundSteps_L57, zkr_t (by omega) (by omega), zkr_t (by omega) (by omega), if_pos (by omega)]
  | succ m ih =>
    intro N i M hi hN
    obtain ⟨N, rfl⟩ : ∃ M, N = M + 1 := ⟨N - 1, by omega⟩
    obtain ⟨M', x1, x2, x3⟩ := ih N (i + 1) (va_up M i (M i + most)) (by omega) (by omega)
    refine ⟨M', ?_, fun j a b => ?_, fun j hj => ?_⟩
    · rw [← x1]
      simp (disch := omega) only [sh_X6_boundSteps_L57, zkr_t, zkx_t, if_neg, ix_n, nc_s]
    · by_cases z : j = i
      · subst z; rw [x3 _ (Or.inl (by omega)), up_s]
      · rw [x2 j (by omega) b, up_n _ _ _ z]
    · rw [x3 j (by omega), up_n _ _ _ (by omega)]
theorem su_snoc (mu : Nat → Int) : ∀ (m s : Nat), su mu (m + 1) s = su mu m s + mu (s + m)
  | 0, s => by rw [su, su, su, Nat.add_zero]; omega
  | m + 1, s => by
    have h := su_snoc mu m (s + 1)
    rw [su, h, su, show s + 1 + m = s + (m + 1) by omega]
    omega
theorem su_congr {mu nu : Nat → Int} : ∀ (m s : Nat), (∀ k, s ≤ k → k < s + m → mu k = nu k) → su mu m s = su nu m s
  | 0, _, _ => rfl
  | m + 1, s, h => by rw [su, su, h s (Nat.le_refl _) (by omega), su_congr m (s + 1) (fun k a b => h k (by omega) (by omega))]
theorem bo_12 {F h w n : Nat} {size : Int} {ro co ne nc : Nat → Int} {ah : Nat → Int} {a : zAb} {b : Int} (hF : 5000 ≤ F) (G : gz_ok h w size ro co ne nc) (W : ab_wf (h * w) w b a) (A : zAH (h * w) a ah) (hn4 : n ≤ 4) : ∀ (m N s : Nat) (most : Int) (M mu : Nat → Int), s + m = n → m < N → (0 ≤ most ∧ most ≤ 9) → (∀ k, k < s → (0 ≤ mu k ∧ mu k ≤ 9) ∧ ∀ p, p < h * w → ∀ j, j ≤ k → ah (4 * p + j) ≤ mu k) → (∀ p, p < h * w → ∀ j, j < s → ah (4 * p + j) ≤ most) → (∀ f, f < s → M f = su mu (s - f) f) → (∀ f, s ≤ f → f < 4 → M f = 0) → ∃ M' mu', sh_X6_boundSteps_L12 F (n : Int) ah size (fun _ _ (v38 : Nat → Int) => some v38) N most (s : Int) M = some M' ∧ zPM (h * w) n ah M' mu' := by
  have hn := gz_n16 G.2.1 G.2.2.2.1
  intro m
  induction m with
  | zero =>
    intro N s most M mu hs hN h1 h2 h3 h4 h5
    obtain ⟨N, rfl⟩ : ∃ M, N = M + 1 := ⟨N - 1, by omega⟩
    have e : s = n := by omega
    subst e
    refine ⟨M, mu, ?_, h2, h4⟩
    simp (disch := omega) only [sh_X6_boundSteps_L12, zkr_t, if_neg]
  | succ m ih =>
    intro N s most M mu hs hN h1 h2 h3 h4 h5
    obtain ⟨N, rfl⟩ : ∃ M, N = M + 1 := ⟨N - 1, by omega⟩
    obtain ⟨most', x1, x2, x3, x4⟩ := bo_23 (F := F) (by omega) G W A (s := s) (by omega) (fun v24 _ => sh_X6_boundSteps_L57 F (s : Int) v24 (fun _ (v35 : Nat → Int) => sh_X6_boundSteps_L12 F (n : Int) ah size (fun _ _ (v38 : Nat → Int) => some v38) N v24 ((s : Int) + (1 : Int)) v35) F (0 : Int) M) (h * w) F 0 most (by omega) (by omega) h1
    obtain ⟨M1, y1, y2, y3⟩ := bo_57 (F := F) (s := s) (most := most') (by omega) (fun v35 => sh_X6_boundSteps_L12 F (n : Int) ah size (fun _ _ (v38 : Nat → Int) => some v38) N most' ((s : Int) + (1 : Int)) v35) (s + 1) F 0 M (by omega) (by omega)
    obtain ⟨M', mu', z1, z2⟩ := ih N (s + 1) most' M1 (va_up mu s most') (by omega) (by omega) x2 (fun k hk => by
        by_cases e : k = s
        · subst e
          rw [up_s]
          refine ⟨x2, fun p hp j hj => ?_⟩
          by_cases ej : j = k
          · subst ej; exact x4 p (by omega) hp
          · have := h3 p hp j (by omega); omega
        · rw [up_n _ _ _ e]; exact h2 k (by omega)) (fun p hp j hj => by
        by_cases ej : j = s
        · subst ej; exact x4 p (by omega) hp
        · have := h3 p hp j (by omega); omega) (fun f hf => by
        rw [y2 f (by omega) (by omega), show s + 1 - f = (s - f) + 1 by omega, su_snoc, show f + (s - f) = s by omega, up_s]
        by_cases e : f = s
        · subst e
          rw [h5 f (by omega) (by omega), show f - f = 0 by omega, su]
        · rw [h4 f (by omega), su_congr (mu := mu) (nu := va_up mu s most') (s - f) f (fun k a b => by rw [up_n _ _ _ (show k ≠ s by omega)])]) (fun f a c => by rw [y3 f (by omega), h5 f (by omega) c])
    refine ⟨M', mu', ?_, z2⟩
    rw [← z1]
    rw [sh_X6_boundSteps_L12, zkr_t (by omega) (by omega), zkr_t (by omega) (by omega), if_pos (by omega)]
    exact Eq.trans x1 y1
theorem Rc.best {F h w : Nat} {size : Int} {ro co ne nc : Nat → Int} {bk gr ht dr : Nat → Int} {lim hs bs gs b : Int} {a : zAb} (hF : 10000 ≤ F) (G : gz_ok h w size ro co ne nc) (R : Rc (h * w) bk gr ht dr lim hs bs gs a) (W : ab_wf (h * w) w b a) (hb : b ≤ 199900) {n : Nat} (hn : 1 ≤ n ∧ n ≤ 4) (ah0 d0 tk0 M0 ta0 be0 : Nat → Int) : ∃ ah d2 tk M ta be, sh_X6_run F ah0 d0 tk0 M0 ta0 be0 size ne nc lim hs bk gr ht dr (n : Int) = some ((n : Int), lim, (bs_0 (h * w) w n a).1, ah, d2, tk, M, ta, be) ∧ ∀ j, j < n → be j = (bs_0 (h * w) w n a).2 j := by
  have hn16 := gz_n16 G.2.1 G.2.2.2.1
  obtain ⟨be1, f1, f2⟩ := c_fill (F := F) (n := 4) (v := -9) (by omega) (by omega) be0
  obtain ⟨M1, g1, g2⟩ := c_fill (F := F) (n := 4) (v := 0) (by omega) (by omega) M0
  have ez : zmin (n : Int) (4 : Int) = (n : Int) := by unfold zmin; split <;> omega
  obtain ⟨ah, d2, tk, x1, x2, x3, x4⟩ := rl_L (F := F) (β := Int) (by omega) G R W (fun v22 v23 v24 => (sh_X6_boundSteps F (zmin (n : Int) (4 : Int)) v22 M0 size).bind (fun (q25 : Nat → Int) => (sh_X6_extend F 6 (zmin (n : Int) (4 : Int)) lim (-9) v22 v23 v24 q25 ta0 be1 size ne nc 0 0).bind (fun (q27 : Int × (Nat → Int) × (Nat → Int) × (Nat → Int) × (Nat → Int)) => some ((zmin (n : Int) (4 : Int)), lim, q27.1, v22, q27.2.1, q27.2.2.1, q25, q27.2.2.2.1, q27.2.2.2.2)))) (h * w) F 0 ah0 d0 tk0 (by omega) (by omega)
  have A : zAH (h * w) a ah := fun p hp j hj => (x2 p (by omega) hp).1 j hj
  obtain ⟨M, mu, m1, m2⟩ := bo_12 (F := F) (by omega) G W A hn.2 n F 0 0 M1 (fun _ => 0) (by omega) (by omega) (by decide) (fun k hk => absurd hk (Nat.not_lt_zero _)) (fun p hp j hj => absurd hj (Nat.not_lt_zero _)) (fun f hf => absurd hf (Nat.not_lt_zero _)) (fun f _ hf => g2 f hf)
  have eb : sh_X6_boundSteps F (n : Int) ah M0 size = some M := by
    unfold sh_X6_boundSteps
    rw [g1, Option.bind_some]
    exact m1
  have X : zXS (h * w) a a (fun _ => 0) d2 tk := ⟨fun p hp i => by rw [Nat.add_zero], fun _ _ => rfl, rfl, fun p hp => ⟨(x2 p (by omega) hp).2.1, (x2 p (by omega) hp).2.2⟩⟩
  obtain ⟨ta, be, y1, y2, y3⟩ := ex_all (F := F) (by omega) G hn.2 A m2 R.2.2.1 n 6 0 0 b (fun _ => -9) ta0 be1 d2 tk a (fun _ => 0) ((-9 : Int), fun _ => (-9 : Int)) (by omega) (by omega) X (fun _ _ => Nat.le_refl _) W (by omega) (by omega) ⟨by decide, by decide⟩ (fun j hj => absurd hj (Nat.not_lt_zero _)) (fun j hj => f2 j (by omega))
  refine ⟨ah, d2, tk, M, ta, be, ?_, y3⟩
  have y1' : sh_X6_extend F 6 (n : Int) lim (-9) ah d2 tk M ta0 be1 size ne nc (0 : Int) 0 = some ((bs_0 (h * w) w n a).1, d2, tk, ta, be) := y1
  unfold sh_X6_run sh_X0_limit
  rw [zkr_t (by omega) (by omega), Option.bind_some, f1, Option.bind_some]
  refine Eq.trans x1 ?_
  rw [ez, eb, Option.bind_some, y1', Option.bind_some]
