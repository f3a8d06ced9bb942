/-! CALLS that ask with two numbers -/
theorem rr_in {F : Nat} {x lo hi : Int} (hl : -1000 ≤ lo ∧ lo ≤ 1000) (hh : -1000 ≤ hi ∧ hi ≤ 1000) (h : lo ≤ x ∧ x ≤ hi) : sh_X8_requireRange F x lo hi = some 0 := by
  unfold sh_X8_requireRange
  rw [zkr_t (by omega) (by omega), zkr_t (by omega) (by omega), if_neg (by omega), zkr_t (by omega) (by omega), if_neg (by omega)]
theorem rr_out {F : Nat} {x lo hi : Int} (hl : -1000 ≤ lo ∧ lo ≤ 1000) (hh : -1000 ≤ hi ∧ hi ≤ 1000) (hx : -2147483648 ≤ x ∧ x ≤ 2147483647) (h : ¬ (lo ≤ x ∧ x ≤ hi)) : sh_X8_requireRange F x lo hi = some 2 := by
  unfold sh_X8_requireRange
  rw [zkr_t (by omega) (by omega), zkr_t (by omega) (by omega)]
  by_cases c : x < lo
  · rw [if_pos c]
  · rw [if_neg c, zkr_t (by omega) (by omega), if_pos (by omega)]
theorem m_most_L {F h w : Nat} {f : Nat → Int} {b y : Int} {a : zAb} (hF : 5000 ≤ F) (hh : 1 ≤ h ∧ h ≤ 4) (hw : 1 ≤ w ∧ w ≤ 4) (R : Rm (h * w) 0 f a) (W : ab_wf (h * w) w b a) (hb : b ≤ 200000) {p : Nat} (hp : p < h * w) : ∀ (m N k : Nat) (v : Nat → Int), k + m = 54 → m < N → ∃ v', sh_X9_mostFrom_L24_2 F (p : Int) (h : Int) (w : Int) f (fun v28 (v29 : Nat → Int) => some (v28, y, v29)) N (k : Int) v = some (ab_most (h * w) w a p m k, y, v') := by
  have hn := gz_n16 hh.2 hw.2
  intro m
  induction m with
  | zero =>
    intro N k v hk hN
    obtain ⟨N, rfl⟩ : ∃ M, N = M + 1 := ⟨N - 1, by omega⟩
    have e : k = 54 := by omega
    subst e
    obtain ⟨v', u⟩ := R.few hF hh hw W hb hp (kk := 55) (by decide) v
    refine ⟨v', ?_⟩
    have u' : sh_X9_fewest F (h : Int) (w : Int) f v (p : Int) (((54 : Nat) : Int) + (1 : Int)) = _ := u
    rw [sh_X9_mostFrom_L24_2, u', Option.bind_some, ab_fewest55 W hp]
    rfl
  | succ m ih =>
    intro N k v hk hN
    obtain ⟨N, rfl⟩ : ∃ M, N = M + 1 := ⟨N - 1, by omega⟩
    obtain ⟨v', u⟩ := R.few hF hh hw W hb hp (kk := ((k + 1 : Nat) : Int)) (by omega) v
    have rg := ab_fewest_rng W (by omega) hn hp (k := ((k + 1 : Nat) : Int))
    rw [sh_X9_mostFrom_L24_2, nc_s, u, Option.bind_some, ab_most]
    dsimp only
    rw [zkr_t (by omega) (by omega)]
    by_cases c : ab_fewest (h * w) w a p ((k + 1 : Nat) : Int) = -9
    · rw [if_pos c, if_pos c]
      exact ⟨v', rfl⟩
    · rw [if_neg c, if_neg c]
      exact ih N (k + 1) v' (by omega) (by omega)
theorem ab_most_rng (n w : Nat) (a : zAb) (p : Nat) : ∀ (m k : Nat), 0 ≤ ab_most n w a p m k ∧ ab_most n w a p m k ≤ (k + m : Nat)
  | 0, k => by rw [ab_most]; omega
  | m + 1, k => by
    rw [ab_most]
    split
    · omega
    · have := ab_most_rng n w a p m (k + 1); omega
theorem ab_waste_rng (g : Int) : ∀ (l : zSl) (v : Int), (∀ x ∈ l, 1 ≤ x.1 ∧ x.1 ≤ 9 ∧ 0 ≤ x.2 ∧ x.2 ≤ 9) → 0 ≤ v → -9 ≤ ab_waste l g v ∧ ab_waste l g v ≤ v + ab_left l
  | [], v, _, hv => by rw [ab_waste, ab_left]; omega
  | x :: l, v, h, hv => by
    have h1 := h x List.mem_cons_self
    have h2 := ab_left_le (l := l) (fun y hy => h y (List.mem_cons_of_mem _ hy))
    rw [ab_waste, ab_left]
    split
    · omega
    · have := ab_waste_rng g l (v + x.1) (fun y hy => h y (List.mem_cons_of_mem _ hy)) (by omega); omega
section CASES
variable {F h w : Nat} {size : Int} {ro co ne nc : Nat → Int} {bk gr ht dr now : Nat → Int} {lim hs bs gs b : Int} {a : zAb} {x : Nat → Int} {n i : Nat}
theorem k_gradeAhead (hF : 20000 ≤ F) (G : gz_ok h w size ro co ne nc) (R : Rc (h * w) bk gr ht dr lim hs bs gs a) (M : Rm (h * w) 0 now a) (W : ab_wf (h * w) w b a) (hb : b ≤ 100000) (hx : xs_ok x) (hi : i + 4 ≤ n) (hn : n ≤ 2048) (out : Nat → Int) : ∃ rf out', sh_L_case9 F x n (i : Int) size bk gr ht (h : Int) (w : Int) now out = some (rf, out') := by
  have hn16 := gz_n16 G.2.1 G.2.2.2.1
  have hh : 1 ≤ h ∧ h ≤ 4 := ⟨G.1, G.2.1⟩
  have hw : 1 ≤ w ∧ w ≤ 4 := ⟨G.2.2.1, G.2.2.2.1⟩
  have hx1 := hx (i + 1)
  have hx2 := hx (i + 2)
  unfold sh_L_case9 sh_L_gradeAhead sh_X8_gradeAhead sh_X9_gradeAhead sh_X9_thrown
  simp (disch := omega) only [zkx_t, ix_i1, ix_i2]
  generalize x (i + 1) = y at *
  generalize x (i + 2) = z at *
  have mi := m_in F z 0 99 (by omega) (by decide) (by decide)
  rcases pt_cases (h := h) (w := w) y with ⟨p, rfl, hp⟩ | hp
  · have w1 := W.1 p hp
    by_cases hz : 0 ≤ z ∧ z ≤ 99
    · rw [if_pos hz] at mi
      have rr := rr_in (F := F) (x := z) (lo := 0) (hi := 99) (by decide) (by decide) hz
      have e1 := R.grade (F := F) (by omega) W hn16 hp (i := z) (by omega)
      have e2 : sh_X9_gradeOf F now 243 (0 : Int) (p : Int) z = _ := M.grade (F := F) (o := 0) (by omega) W (by omega) hn16 hp (i := z) (by omega)
      have hg := ab_grade_rng w1.1.2 z
      simp (disch := omega) only [rp_in G hp, ip_in hh hw hp, mi, rr, Option.bind_some, rf_0, zkr_t, zkl_t, zkx_t, zkc_t, if_true, if_pos, if_neg, ix_o, up_s, e1, e2]
      first | exact ⟨_, _, rfl⟩ | (rw [if_pos trivial]; exact ⟨_, _, rfl⟩)
    · rw [if_neg hz] at mi
      have rr := rr_out (F := F) (x := z) (lo := 0) (hi := 99) (by decide) (by decide) hx2 hz
      simp (disch := omega) only [rp_in G hp, ip_in hh hw hp, mi, rr, Option.bind_some, rf_2, zkr_t, zkl_t, zkx_t, if_true, if_pos, if_neg]
      first | exact ⟨_, _, rfl⟩ | (rw [if_pos trivial]; exact ⟨_, _, rfl⟩)
  · simp (disch := omega) only [rp_out G hx1 hp, ip_out hh hw hx1 hp, Option.bind_some, rf_1, zkr_t, zkl_t, zkx_t, if_true, if_pos, if_neg]
    exact ⟨_, _, rfl⟩
theorem k_bucketsToWaste (hF : 20000 ≤ F) (G : gz_ok h w size ro co ne nc) (R : Rc (h * w) bk gr ht dr lim hs bs gs a) (M : Rm (h * w) 0 now a) (W : ab_wf (h * w) w b a) (hb : b ≤ 100000) (hx : xs_ok x) (hi : i + 4 ≤ n) (hn : n ≤ 2048) (out : Nat → Int) : ∃ rf out', sh_L_case25 F x n (i : Int) size bk gr ht (h : Int) (w : Int) now out = some (rf, out') := by
  have hn16 := gz_n16 G.2.1 G.2.2.2.1
  have hh : 1 ≤ h ∧ h ≤ 4 := ⟨G.1, G.2.1⟩
  have hw : 1 ≤ w ∧ w ≤ 4 := ⟨G.2.2.1, G.2.2.2.1⟩
  have hx1 := hx (i + 1)
  have hx2 := hx (i + 2)
  unfold sh_L_case25 sh_L_bucketsToWaste sh_X8_bucketsToWaste sh_X9_bucketsToWaste sh_X9_thrown
  simp (disch := omega) only [zkx_t, ix_i1, ix_i2]
  generalize x (i + 1) = y at *
  generalize x (i + 2) = z at *
  have mi := m_in F z 1 9 (by omega) (by decide) (by decide)
  rcases pt_cases (h := h) (w := w) y with ⟨p, rfl, hp⟩ | hp
  · have w1 := W.1 p hp
    by_cases hz : 1 ≤ z ∧ z ≤ 9
    · rw [if_pos hz] at mi
      have rr := rr_in (F := F) (x := z) (lo := 1) (hi := 9) (by decide) (by decide) hz
      have e1 := R.waste (F := F) (by omega) W hn16 hp (g := z) (by omega)
      have hl := ab_left_rng w1.1
      have hw2 := ab_waste_rng z (ab_col a p) 0 w1.1.2 (by decide)
      have e0 : sh_X9_remainingOf F now 243 (0 : Int) (p : Int) = _ := M.left (F := F) (o := 0) (by omega) (by omega) hn16 hp
      have e2 := m_waste_L (F := F) (x := 0) (by omega) hn16 M W hp (g := z) (by omega) ((0 : Int), (0 : Int)) rfl (ab_left (ab_col a p)).toNat F 0 (by omega) (by decide) (by omega)
      rw [ab_fw_waste (ab_grade (ab_col a p)) z (ab_col a p) 0 w1.1.2 (fun j hj => by rw [Int.zero_add])] at e2
      simp (disch := omega) only [rp_in G hp, ip_in hh hw hp, mi, rr, Option.bind_some, rf_0, zkr_t, zkl_t, zkx_t, zkc_t, if_true, if_pos, if_neg, ix_o, up_s, e1, e0, e2]
      first | exact ⟨_, _, rfl⟩ | (rw [if_pos trivial]; exact ⟨_, _, rfl⟩)
    · rw [if_neg hz] at mi
      have rr := rr_out (F := F) (x := z) (lo := 1) (hi := 9) (by decide) (by decide) hx2 hz
      simp (disch := omega) only [rp_in G hp, ip_in hh hw hp, mi, rr, Option.bind_some, rf_2, zkr_t, zkl_t, zkx_t, if_true, if_pos, if_neg]
      first | exact ⟨_, _, rfl⟩ | (rw [if_pos trivial]; exact ⟨_, _, rfl⟩)
  · simp (disch := omega) only [rp_out G hx1 hp, ip_out hh hw hx1 hp, Option.bind_some, rf_1, zkr_t, zkl_t, zkx_t, if_true, if_pos, if_neg]
    exact ⟨_, _, rfl⟩
theorem k_bucketsFor (hF : 20000 ≤ F) (G : gz_ok h w size ro co ne nc) (R : Rc (h * w) bk gr ht dr lim hs bs gs a) (M : Rm (h * w) 0 now a) (W : ab_wf (h * w) w b a) (hb : b ≤ 100000) (hx : xs_ok x) (hi : i + 4 ≤ n) (hn : n ≤ 2048) (out : Nat → Int) (wa : Nat → Int) : ∃ rf wa' out', sh_L_case26 F x n (i : Int) size ro co lim hs bk ht dr (h : Int) (w : Int) now wa out = some (rf, wa', out') := by
  have hn16 := gz_n16 G.2.1 G.2.2.2.1
  have hh : 1 ≤ h ∧ h ≤ 4 := ⟨G.1, G.2.1⟩
  have hw : 1 ≤ w ∧ w ≤ 4 := ⟨G.2.2.1, G.2.2.2.1⟩
  have hx1 := hx (i + 1)
  have hx2 := hx (i + 2)
  unfold sh_L_case26 sh_L_bucketsFor sh_X8_bucketsFor sh_X9_bucketsFor sh_X9_thrown
  simp (disch := omega) only [zkx_t, ix_i1, ix_i2]
  generalize x (i + 1) = y at *
  generalize x (i + 2) = z at *
  have mi := m_in F z 1 54 (by omega) (by decide) (by decide)
  rcases pt_cases (h := h) (w := w) y with ⟨p, rfl, hp⟩ | hp
  · have w1 := W.1 p hp
    by_cases hz : 1 ≤ z ∧ z ≤ 54
    · rw [if_pos hz] at mi
      have rr := rr_in (F := F) (x := z) (lo := 1) (hi := 54) (by decide) (by decide) hz
      have e1 := R.few (F := F) (by omega) G W (by omega) hp (k := z) (by omega)
      obtain ⟨v', e2⟩ := M.few (F := F) (by omega) hh hw W (by omega) hp (kk := z) (by omega) wa
      have hg := ab_fewest_rng W (by omega) hn16 hp (k := z)
      simp (disch := omega) only [rp_in G hp, ip_in hh hw hp, mi, rr, Option.bind_some, rf_0, zkr_t, zkl_t, zkx_t, zkc_t, if_true, if_pos, if_neg, ix_o, up_s, e1, e2]
      first | exact ⟨_, _, _, rfl⟩ | (rw [if_pos trivial]; exact ⟨_, _, _, rfl⟩)
    · rw [if_neg hz] at mi
      have rr := rr_out (F := F) (x := z) (lo := 1) (hi := 54) (by decide) (by decide) hx2 hz
      simp (disch := omega) only [rp_in G hp, ip_in hh hw hp, mi, rr, Option.bind_some, rf_2, zkr_t, zkl_t, zkx_t, if_true, if_pos, if_neg]
      first | exact ⟨_, _, _, rfl⟩ | (rw [if_pos trivial]; exact ⟨_, _, _, rfl⟩)
  · simp (disch := omega) only [rp_out G hx1 hp, ip_out hh hw hx1 hp, Option.bind_some, rf_1, zkr_t, zkl_t, zkx_t, if_true, if_pos, if_neg]
    exact ⟨_, _, _, rfl⟩
theorem k_mostFrom (hF : 20000 ≤ F) (G : gz_ok h w size ro co ne nc) (R : Rc (h * w) bk gr ht dr lim hs bs gs a) (M : Rm (h * w) 0 now a) (W : ab_wf (h * w) w b a) (hb : b ≤ 100000) (hx : xs_ok x) (hi : i + 4 ≤ n) (hn : n ≤ 2048) (out wa : Nat → Int) : ∃ rf wa' out', sh_L_case27 F x n (i : Int) size ro co lim hs bk ht dr (h : Int) (w : Int) now wa out = some (rf, wa', out') := by
  have hn16 := gz_n16 G.2.1 G.2.2.2.1
  have hh : 1 ≤ h ∧ h ≤ 4 := ⟨G.1, G.2.1⟩
  have hw : 1 ≤ w ∧ w ≤ 4 := ⟨G.2.2.1, G.2.2.2.1⟩
  have hx1 := hx (i + 1)
  unfold sh_L_case27 sh_L_mostFrom sh_X8_mostFrom sh_X9_mostFrom sh_X9_thrown
  simp (disch := omega) only [zkx_t, ix_i1]
  generalize x (i + 1) = y at *
  rcases pt_cases (h := h) (w := w) y with ⟨p, rfl, hp⟩ | hp
  · have w1 := W.1 p hp
    have e1 := R.most (F := F) (by omega) G W (by omega) hp
    obtain ⟨v', e2⟩ := m_most_L (F := F) (y := 0) (by omega) hh hw M W (by omega) hp 54 F 0 wa (by omega) (by omega)
    have e2' : sh_X9_mostFrom_L24_2 F (p : Int) (h : Int) (w : Int) now (fun v28 (v29 : Nat → Int) => some (v28, 0, v29)) F (0 : Int) wa = _ := e2
    have hg := ab_most_rng (h * w) w a p 54 0
    simp (disch := omega) only [rp_in G hp, ip_in hh hw hp, Option.bind_some, rf_0, zkr_t, zkl_t, zkx_t, zkc_t, if_true, if_pos, if_neg, ix_o, up_s, e1, e2']
    first | exact ⟨_, _, _, rfl⟩ | (rw [if_pos trivial]; exact ⟨_, _, _, rfl⟩)
  · simp (disch := omega) only [rp_out G hx1 hp, ip_out hh hw hx1 hp, Option.bind_some, rf_1, zkr_t, zkl_t, zkx_t, if_true, if_pos, if_neg]
    exact ⟨_, _, _, rfl⟩
end CASES
