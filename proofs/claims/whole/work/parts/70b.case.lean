/-! CALLS that only ask -/
section CASES
variable {F h w : Nat} {size : Int} {ro co ne nc : Nat → Int} {bk gr ht dr now : Nat → Int} {lim hs bs gs b : Int} {a : zAb} {x : Nat → Int} {n i : Nat}
theorem k_remaining (hF : 20000 ≤ F) (G : gz_ok h w size ro co ne nc) (R : Rc (h * w) bk gr ht dr lim hs bs gs a) (M : Rm (h * w) 0 now a) (W : ab_wf (h * w) w b a) (hb : b ≤ 100000) (hx : xs_ok x) (hi : i + 4 ≤ n) (hn : n ≤ 2048) (out : Nat → Int) : ∃ rf out', sh_L_case7 F x n (i : Int) size bk ht (h : Int) (w : Int) now out = some (rf, out') := by
  have hn16 := gz_n16 G.2.1 G.2.2.2.1
  have hh : 1 ≤ h ∧ h ≤ 4 := ⟨G.1, G.2.1⟩
  have hw : 1 ≤ w ∧ w ≤ 4 := ⟨G.2.2.1, G.2.2.2.1⟩
  have hx1 := hx (i + 1)
  unfold sh_L_case7 sh_L_remaining sh_X8_remaining sh_X9_remaining sh_X9_thrown
  simp (disch := omega) only [zkx_t, ix_i1]
  generalize x (i + 1) = y at *
  rcases pt_cases (h := h) (w := w) y with ⟨p, rfl, hp⟩ | hp
  · have w1 := W.1 p hp
    have e1 := R.left (F := F) (by omega) hn16 hp
    have e2 : sh_X9_remainingOf F now 243 (0 : Int) (p : Int) = _ := M.left (F := F) (o := 0) (by omega) (by omega) hn16 hp
    have hl := ab_left_rng w1.1
    simp (disch := omega) only [rp_in G hp, ip_in hh hw hp, Option.bind_some, rf_0, zkr_t, zkl_t, zkx_t, zkc_t, if_true, if_pos, if_neg, ix_o, up_s, e1, e2]
    first | exact ⟨_, _, rfl⟩ | (rw [if_pos trivial]; exact ⟨_, _, rfl⟩)
  · simp (disch := omega) only [rp_out G hx1 hp, ip_out hh hw hx1 hp, Option.bind_some, rf_1, zkr_t, zkl_t, zkx_t, if_true, if_pos, if_neg]
    exact ⟨_, _, rfl⟩
theorem k_sliceCount (hF : 20000 ≤ F) (G : gz_ok h w size ro co ne nc) (R : Rc (h * w) bk gr ht dr lim hs bs gs a) (M : Rm (h * w) 0 now a) (W : ab_wf (h * w) w b a) (hb : b ≤ 100000) (hx : xs_ok x) (hi : i + 4 ≤ n) (hn : n ≤ 2048) (out : Nat → Int) : ∃ rf out', sh_L_case8 F x n (i : Int) size ht (h : Int) (w : Int) now out = some (rf, out') := by
  have hn16 := gz_n16 G.2.1 G.2.2.2.1
  have hh : 1 ≤ h ∧ h ≤ 4 := ⟨G.1, G.2.1⟩
  have hw : 1 ≤ w ∧ w ≤ 4 := ⟨G.2.2.1, G.2.2.2.1⟩
  have hx1 := hx (i + 1)
  unfold sh_L_case8 sh_L_sliceCount sh_X8_sliceCount sh_X9_sliceCount sh_X0_height sh_X9_thrown
  simp (disch := omega) only [zkx_t, ix_i1]
  generalize x (i + 1) = y at *
  rcases pt_cases (h := h) (w := w) y with ⟨p, rfl, hp⟩ | hp
  · have w1 := W.1 p hp
    have r := R.1 p hp
    have m := M.1 p hp
    rw [Nat.zero_add] at m
    have l1 := congrArg List.length r.2.1
    have l2 := congrArg List.length m.2.1
    rw [cl_len] at l1
    rw [ml_len] at l2
    have e2 : now (15 * p + 2) = ht p := by omega
    have i2 : (((15 : Int) * (p : Int)) + (2 : Int)).toNat = 15 * p + 2 := by omega
    have r1 := r.1
    simp (disch := omega) only [rp_in G hp, ip_in hh hw hp, Option.bind_some, rf_0, zkr_t, zkl_t, zkx_t, zkc_t, if_true, if_pos, if_neg, ix_o, up_s, ix_n, i2, e2]
    first | exact ⟨_, _, rfl⟩ | (rw [if_pos trivial]; exact ⟨_, _, rfl⟩)
  · simp (disch := omega) only [rp_out G hx1 hp, ip_out hh hw hx1 hp, Option.bind_some, rf_1, zkr_t, zkl_t, zkx_t, if_true, if_pos, if_neg]
    exact ⟨_, _, rfl⟩
theorem k_isHung (hF : 20000 ≤ F) (G : gz_ok h w size ro co ne nc) (R : Rc (h * w) bk gr ht dr lim hs bs gs a) (M : Rm (h * w) 0 now a) (W : ab_wf (h * w) w b a) (hb : b ≤ 100000) (hx : xs_ok x) (hi : i + 4 ≤ n) (hn : n ≤ 2048) (out : Nat → Int) : ∃ rf out', sh_L_case10 F x n (i : Int) size hs (h : Int) (w : Int) now out = some (rf, out') := by
  have hn16 := gz_n16 G.2.1 G.2.2.2.1
  have hh : 1 ≤ h ∧ h ≤ 4 := ⟨G.1, G.2.1⟩
  have hw : 1 ≤ w ∧ w ≤ 4 := ⟨G.2.2.1, G.2.2.2.1⟩
  have hx1 := hx (i + 1)
  unfold sh_L_case10 sh_L_isHung sh_X8_isHung sh_X9_isHung sh_X9_thrown
  simp (disch := omega) only [zkx_t, ix_i1]
  generalize x (i + 1) = y at *
  rcases pt_cases (h := h) (w := w) y with ⟨p, rfl, hp⟩ | hp
  · have w1 := W.1 p hp
    have e1 := R.hangs (F := F) hn16 hp
    have e2 := (M.at0 hp).2
    cases hg : ab_hg a p
    all_goals rw [hg] at e1 e2
    all_goals simp only [Bool.false_eq_true, if_false, if_true] at e1 e2
    all_goals clear hg
    all_goals simp (disch := omega) only [rp_in G hp, ip_in hh hw hp, Option.bind_some, rf_0, zkr_t, zkl_t, zkx_t, zkc_t, if_true, if_pos, if_neg, ix_o, up_s, ix_151, e1, e2]
    all_goals first | exact ⟨_, _, rfl⟩ | (rw [if_pos trivial]; exact ⟨_, _, rfl⟩)
  · simp (disch := omega) only [rp_out G hx1 hp, ip_out hh hw hx1 hp, Option.bind_some, rf_1, zkr_t, zkl_t, zkx_t, if_true, if_pos, if_neg]
    exact ⟨_, _, rfl⟩
theorem k_isReady (hF : 20000 ≤ F) (G : gz_ok h w size ro co ne nc) (R : Rc (h * w) bk gr ht dr lim hs bs gs a) (M : Rm (h * w) 0 now a) (W : ab_wf (h * w) w b a) (hb : b ≤ 100000) (hx : xs_ok x) (hi : i + 4 ≤ n) (hn : n ≤ 2048) (out : Nat → Int) : ∃ rf out', sh_L_case20 F x n (i : Int) size ne nc lim hs bk ht dr (h : Int) (w : Int) now out = some (rf, out') := by
  have hn16 := gz_n16 G.2.1 G.2.2.2.1
  have hh : 1 ≤ h ∧ h ≤ 4 := ⟨G.1, G.2.1⟩
  have hw : 1 ≤ w ∧ w ≤ 4 := ⟨G.2.2.1, G.2.2.2.1⟩
  have hx1 := hx (i + 1)
  unfold sh_L_case20 sh_L_isReady sh_X8_isReady sh_X9_isReady sh_X9_thrown
  simp (disch := omega) only [zkx_t, ix_i1]
  generalize x (i + 1) = y at *
  rcases pt_cases (h := h) (w := w) y with ⟨p, rfl, hp⟩ | hp
  · have w1 := W.1 p hp
    have e1 := R.ready (F := F) (by omega) G W (by omega) hp
    have e2 : sh_X9_isReadyIn F (h : Int) (w : Int) now 243 (0 : Int) (p : Int) = _ := M.ready (F := F) (o := 0) (n0 := 243) (by omega) hh hw W (by omega) (by omega) (by omega) hp
    by_cases hg : 0 < ab_slack (h * w) w a p
    · rw [if_pos hg] at e1 e2
      simp (disch := omega) only [rp_in G hp, ip_in hh hw hp, Option.bind_some, rf_0, zkr_t, zkl_t, zkx_t, zkc_t, if_true, if_pos, if_neg, ix_o, up_s, e1, e2]
      first | exact ⟨_, _, rfl⟩ | (rw [if_pos trivial]; exact ⟨_, _, rfl⟩)
    rw [if_neg hg] at e1 e2
    simp (disch := omega) only [rp_in G hp, ip_in hh hw hp, Option.bind_some, rf_0, zkr_t, zkl_t, zkx_t, zkc_t, if_true, if_pos, if_neg, ix_o, up_s, e1, e2]
    first | exact ⟨_, _, rfl⟩ | (rw [if_pos trivial]; exact ⟨_, _, rfl⟩)
  · simp (disch := omega) only [rp_out G hx1 hp, ip_out hh hw hx1 hp, Option.bind_some, rf_1, zkr_t, zkl_t, zkx_t, if_true, if_pos, if_neg]
    exact ⟨_, _, rfl⟩
theorem k_blockers (hF : 20000 ≤ F) (G : gz_ok h w size ro co ne nc) (R : Rc (h * w) bk gr ht dr lim hs bs gs a) (M : Rm (h * w) 0 now a) (W : ab_wf (h * w) w b a) (hb : b ≤ 100000) (hx : xs_ok x) (hi : i + 4 ≤ n) (hn : n ≤ 2048) (out : Nat → Int) : ∃ rf out', sh_L_case21 F x n (i : Int) size ne nc lim dr (h : Int) (w : Int) now out = some (rf, out') := by
  have hn16 := gz_n16 G.2.1 G.2.2.2.1
  have hh : 1 ≤ h ∧ h ≤ 4 := ⟨G.1, G.2.1⟩
  have hw : 1 ≤ w ∧ w ≤ 4 := ⟨G.2.2.1, G.2.2.2.1⟩
  have hx1 := hx (i + 1)
  unfold sh_L_case21 sh_L_blockers sh_X8_blockers sh_X9_blockers sh_X9_thrown
  simp (disch := omega) only [zkx_t, ix_i1]
  generalize x (i + 1) = y at *
  rcases pt_cases (h := h) (w := w) y with ⟨p, rfl, hp⟩ | hp
  · have w1 := W.1 p hp
    have e1 := R.blockers (F := F) (by omega) G W (by omega) hp
    have e2 := m_blk_L (F := F) hh hw M W (by omega) hp 0 (h * w) F 0 0 (by omega) (by omega) (by decide)
    have e2' : sh_X9_blockers_L26_2 F (p : Int) (h : Int) (w : Int) now (fun v42 _ => some (v42, 0)) F (0 : Int) (0 : Int) = some (ab_blockers (h * w) w a p, 0) := by
      unfold ab_blockers gz_nb
      rw [List.range_eq_range']
      exact e2
    have hl : 0 ≤ ab_blockers (h * w) w a p ∧ ab_blockers (h * w) w a p < 65536 := by
      unfold ab_blockers
      have := ab_blk_lt (ab_bc a p) (gz_nb (h * w) w p) 0 (fun q hq => by have := (gz_nb_mem.mp hq).1; omega) (by decide)
      omega
    simp (disch := omega) only [rp_in G hp, ip_in hh hw hp, Option.bind_some, rf_0, zkr_t, zkl_t, zkx_t, zkc_t, if_true, if_pos, if_neg, ix_o, up_s, e1, e2']
    first | exact ⟨_, _, rfl⟩ | (rw [if_pos trivial]; exact ⟨_, _, rfl⟩)
  · simp (disch := omega) only [rp_out G hx1 hp, ip_out hh hw hx1 hp, Option.bind_some, rf_1, zkr_t, zkl_t, zkx_t, if_true, if_pos, if_neg]
    exact ⟨_, _, rfl⟩
theorem k_slack (hF : 20000 ≤ F) (G : gz_ok h w size ro co ne nc) (R : Rc (h * w) bk gr ht dr lim hs bs gs a) (M : Rm (h * w) 0 now a) (W : ab_wf (h * w) w b a) (hb : b ≤ 100000) (hx : xs_ok x) (hi : i + 4 ≤ n) (hn : n ≤ 2048) (out : Nat → Int) : ∃ rf out', sh_L_case22 F x n (i : Int) size ne nc lim hs bk ht dr (h : Int) (w : Int) now out = some (rf, out') := by
  have hn16 := gz_n16 G.2.1 G.2.2.2.1
  have hh : 1 ≤ h ∧ h ≤ 4 := ⟨G.1, G.2.1⟩
  have hw : 1 ≤ w ∧ w ≤ 4 := ⟨G.2.2.1, G.2.2.2.1⟩
  have hx1 := hx (i + 1)
  unfold sh_L_case22 sh_L_slack sh_X8_slack sh_X9_slack sh_X9_thrown
  simp (disch := omega) only [zkx_t, ix_i1]
  generalize x (i + 1) = y at *
  rcases pt_cases (h := h) (w := w) y with ⟨p, rfl, hp⟩ | hp
  · have w1 := W.1 p hp
    have e1 := R.slack (F := F) (by omega) G W (by omega) hp
    have e2 : sh_X9_slackOf F (h : Int) (w : Int) now 243 (0 : Int) (p : Int) = _ := M.slack (F := F) (o := 0) (n0 := 243) (by omega) hh hw W (by omega) (by omega) (by omega) hp
    have hl := ab_slack_rng W hp
    simp (disch := omega) only [rp_in G hp, ip_in hh hw hp, Option.bind_some, rf_0, zkr_t, zkl_t, zkx_t, zkc_t, if_true, if_pos, if_neg, ix_o, up_s, e1, e2]
    first | exact ⟨_, _, rfl⟩ | (rw [if_pos trivial]; exact ⟨_, _, rfl⟩)
  · simp (disch := omega) only [rp_out G hx1 hp, ip_out hh hw hx1 hp, Option.bind_some, rf_1, zkr_t, zkl_t, zkx_t, if_true, if_pos, if_neg]
    exact ⟨_, _, rfl⟩
theorem k_pointCount (hF : 20000 ≤ F) (G : gz_ok h w size ro co ne nc) (R : Rc (h * w) bk gr ht dr lim hs bs gs a) (M : Rm (h * w) 0 now a) (W : ab_wf (h * w) w b a) (hb : b ≤ 100000) : ∃ rf, sh_L_case4 F size (h : Int) (w : Int) = some rf := by
  have hn16 := gz_n16 G.2.1 G.2.2.2.1
  have hh : 1 ≤ h ∧ h ≤ 4 := ⟨G.1, G.2.1⟩
  have hw : 1 ≤ w ∧ w ≤ 4 := ⟨G.2.2.1, G.2.2.2.1⟩
  have hs2 := G.2.2.2.2.1
  unfold sh_L_case4 sh_X8_pointCount sh_X9_pointCount sh_X2_size
  simp (disch := omega) only [Option.bind_some, zkr_t, if_true, if_pos, m_points, hs2]
  exact ⟨_, rfl⟩
theorem k_bound (hF : 20000 ≤ F) (G : gz_ok h w size ro co ne nc) (R : Rc (h * w) bk gr ht dr lim hs bs gs a) (M : Rm (h * w) 0 now a) (W : ab_wf (h * w) w b a) (hb : b ≤ 100000) : ∃ rf, sh_L_case5 F lim now = some rf := by
  have hn16 := gz_n16 G.2.1 G.2.2.2.1
  have hh : 1 ≤ h ∧ h ≤ 4 := ⟨G.1, G.2.1⟩
  have hw : 1 ≤ w ∧ w ≤ 4 := ⟨G.2.2.1, G.2.2.2.1⟩
  have e1 := R.2.2.1
  have e2 := M.lim0
  have w1 := W.2.2.1
  unfold sh_L_case5 sh_X8_bound sh_X9_bound sh_X0_limit
  simp (disch := omega) only [Option.bind_some, zkr_t, if_true, if_pos, e1, e2, ix_240]
  exact ⟨_, rfl⟩
theorem k_totalBuckets (hF : 20000 ≤ F) (G : gz_ok h w size ro co ne nc) (R : Rc (h * w) bk gr ht dr lim hs bs gs a) (M : Rm (h * w) 0 now a) (W : ab_wf (h * w) w b a) (hb : b ≤ 100000) : ∃ rf, sh_L_case11 F bs now = some rf := by
  have hn16 := gz_n16 G.2.1 G.2.2.2.1
  have hh : 1 ≤ h ∧ h ≤ 4 := ⟨G.1, G.2.1⟩
  have hw : 1 ≤ w ∧ w ≤ 4 := ⟨G.2.2.1, G.2.2.2.1⟩
  have e1 := R.2.2.2.1
  have e2 : now (241 : Int).toNat = ab_bs a := by have := M.2.2.1; rw [Nat.zero_add] at this; exact this
  have w1 := W.2.2.2.1
  unfold sh_L_case11 sh_X8_totalBuckets sh_X9_totalBuckets sh_X0_bucketSum
  simp (disch := omega) only [Option.bind_some, zkr_t, if_true, if_pos, e1, e2]
  exact ⟨_, rfl⟩
theorem k_totalGrade (hF : 20000 ≤ F) (G : gz_ok h w size ro co ne nc) (R : Rc (h * w) bk gr ht dr lim hs bs gs a) (M : Rm (h * w) 0 now a) (W : ab_wf (h * w) w b a) (hb : b ≤ 100000) : ∃ rf, sh_L_case12 F gs now = some rf := by
  have hn16 := gz_n16 G.2.1 G.2.2.2.1
  have hh : 1 ≤ h ∧ h ≤ 4 := ⟨G.1, G.2.1⟩
  have hw : 1 ≤ w ∧ w ≤ 4 := ⟨G.2.2.1, G.2.2.2.1⟩
  have e1 := R.2.2.2.2
  have e2 : now (242 : Int).toNat = ab_gs a := by have := M.2.2.2; rw [Nat.zero_add] at this; exact this
  have w1 := W.2.2.2.2
  unfold sh_L_case12 sh_X8_totalGrade sh_X9_totalGrade sh_X0_gradeSum
  simp (disch := omega) only [Option.bind_some, zkr_t, if_true, if_pos, e1, e2]
  exact ⟨_, rfl⟩
theorem k_nextByOrder (hF : 20000 ≤ F) (G : gz_ok h w size ro co ne nc) (R : Rc (h * w) bk gr ht dr lim hs bs gs a) (M : Rm (h * w) 0 now a) (W : ab_wf (h * w) w b a) (hb : b ≤ 100000) : ∃ rf, sh_L_case23 F size ne nc lim hs bk gr ht dr (h : Int) (w : Int) now = some rf := by
  have hn16 := gz_n16 G.2.1 G.2.2.2.1
  have hh : 1 ≤ h ∧ h ≤ 4 := ⟨G.1, G.2.1⟩
  have hw : 1 ≤ w ∧ w ≤ 4 := ⟨G.2.2.1, G.2.2.2.1⟩
  have e1 := R.next (F := F) (by omega) G W (by omega)
  have e2 := M.next (F := F) (n0 := 243) (by omega) hh hw W (by omega) (by omega) (by omega)
  have rg : -9 ≤ ab_next (h * w) w a ∧ ab_next (h * w) w a ≤ 16 := by rcases ab_next_rng (h * w) w a with z | ⟨p, z1, z2, -⟩ <;> omega
  unfold sh_L_case23 sh_X8_nextByOrder sh_X9_nextByOrder
  simp (disch := omega) only [Option.bind_some, zkr_t, if_true, if_pos, e1, e2]
  exact ⟨_, rfl⟩
end CASES
