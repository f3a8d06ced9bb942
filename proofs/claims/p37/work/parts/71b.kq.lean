/-! MORE OF WHAT THE CLASS ANSWERS -/
theorem c_simn_L {F h w P : Nat} {size : Int} {ro co ne nc : Nat → Int} {lim gs0 : Int} (hF : 5000 ≤ F) (G : gz_ok h w size ro co ne nc) (hP : P ≤ 100) (q3 : Int × Int × Int × Int × (Nat → Int) × (Nat → Int) × (Nat → Int) × (Nat → Int)) (hq : q3.1 = lim) : ∀ (m N i : Nat) (x : Int) (bk gr ht dr : Nat → Int) (hs bs gs b : Int) (a : zAb), Rc (h * w) bk gr ht dr lim hs bs gs a → ab_wf (h * w) w b a → b + m ≤ 200000 → i + m = P → m < N → ∃ hs' bs' gs' bk' gr' ht' dr', sh_X8_simulate_n_L24 F (P : Int) size ne nc q3 (fun _ _ v31 v32 v33 (v34 : Nat → Int) (v35 : Nat → Int) (v36 : Nat → Int) (v37 : Nat → Int) => (sh_X0_gradeSum F v33).bind (fun (q38 : Int) => (sh_X0_gradeSum F gs0).bind (fun (q40 : Int) => some ((q38 - q40), q3.1, v31, v32, v33, v34, v35, v36, v37)))) N x (i : Int) hs bs gs bk gr ht dr = some (ab_gs (ab_sim (h * w) w m x a) - gs0, lim, hs', bs', gs', bk', gr', ht', dr') := by
  subst hq
  intro m
  induction m with
  | zero =>
    intro N i x bk gr ht dr hs bs gs b a R W hb hi hN
    obtain ⟨N, rfl⟩ : ∃ M, N = M + 1 := ⟨N - 1, by omega⟩
    simp (disch := omega) only [sh_X8_simulate_n_L24, sh_X0_gradeSum, Option.bind_some, zkr_t, if_neg, ab_sim]
    rw [R.2.2.2.2]
    exact ⟨_, _, _, _, _, _, _, rfl⟩
  | succ m ih =>
    intro N i x bk gr ht dr hs bs gs b a R W hb hi hN
    obtain ⟨N, rfl⟩ : ∃ M, N = M + 1 := ⟨N - 1, by omega⟩
    obtain ⟨r, hr, hr2⟩ := lu_rng (lc_nx x)
    obtain ⟨hs1, bs1, gs1, bk1, gr1, ht1, dr1, u1, u2⟩ := c_rnd hF G R W (by omega) hr2
    have hr' : zlushr ((x * (6364136223846793005 : Int)) + (1442695040888963407 : Int)) (33 : Int) = (r : Int) := hr
    rw [sh_X8_simulate_n_L24, zkr_t (by omega) (by omega), zkr_t (by omega) (by omega), if_pos (by omega), hr', u1, Option.bind_some, ab_sim, hr, Int.toNat_natCast, nc_s]
    exact ih N (i + 1) (lc_nx x) bk1 gr1 ht1 dr1 hs1 bs1 gs1 (b + 1) _ u2 (ab_rnd_wf W r) (by omega) (by omega) (by omega)
theorem kq_ahead_n {size : Int} {ro co ne nc : Nat → Int} {lim hs bs gs : Int} {bk gr ht dr : Nat → Int} {tl : Int} {sg : Nat → Int} {ol ct : Int} {fl : Nat → Int} {P : Nat → zCv} {A : zO} (O : oREL size ro co ne nc lim hs bs gs bk gr ht dr tl sg ol ct fl P A) (p1 : Int) (f_p0_copy_buckets : Nat → Int) (f_p0_copy_grades : Nat → Int) (f_p0_copy_heights : Nat → Int) (f_p0_copy_drawn : Nat → Int) (h : zOK 90000 A ∧ 0 ≤ p1 ∧ p1 ≤ 99) : ∃ res : Int × Int × Int × Int × Int × (Nat → Int) × (Nat → Int) × (Nat → Int) × (Nat → Int), sh_L_ahead_n 20000 size ne nc lim hs bs gs bk gr ht dr f_p0_copy_buckets f_p0_copy_grades f_p0_copy_heights f_p0_copy_drawn p1 = some res ∧ res.1 = v_ahead A p1 ∧ i32 (v_ahead A p1) := by
  obtain ⟨G0, R0, HH, SS, TT⟩ := O
  have G : gz_ok (oh A) (ow A) size ro co ne nc := G0
  have R : Rc (oh A * ow A) bk gr ht dr lim hs bs gs (oa A) := R0
  have W : ab_wf (oh A * ow A) (ow A) 90000 (oa A) := h.1.2.2.1
  have hn16 : oh A * ow A ≤ 16 := gz_n16 G.2.1 G.2.2.2.1
  have hw45 : ow A < 5 := by have := G.2.2.2.1; omega
  have h2 := h.2
  obtain ⟨Q, rfl⟩ : ∃ Q : Nat, p1 = (Q : Int) := ⟨p1.toNat, by omega⟩
  have hg := ab_go_rng Q 90000 (oa A) W
  obtain ⟨bs', gs', bk', gr', ht', dr', u1, u2⟩ := (R.become (bk2 := f_p0_copy_buckets) (gr2 := f_p0_copy_grades) (ht2 := f_p0_copy_heights) (dr2 := f_p0_copy_drawn) hn16).go (F := 20000) (by omega) G W Q (by omega) (by omega)
  have e1 := u2.next (F := 20000) (by omega) G hg.2 (by omega)
  have rg : -9 ≤ ab_next (oh A * ow A) (ow A) (ab_go (oh A * ow A) (ow A) Q (oa A)).2 ∧ ab_next (oh A * ow A) (ow A) (ab_go (oh A * ow A) (ow A) Q (oa A)).2 ≤ 16 := by rcases ab_next_rng (oh A * ow A) (ow A) (ab_go (oh A * ow A) (ow A) Q (oa A)).2 with z | ⟨p, z1, z2, -⟩ <;> omega
  unfold v_ahead
  rw [Int.toNat_natCast]
  refine ⟨?_, ?_, ?_, ?_⟩
  rotate_left
  · unfold sh_L_ahead_n sh_X8_orderAhead_n sh_X0_become
    rw [rrn_in (F := 20000) (x := (Q : Int)) (lo := 0) (hi := 99) (by decide) (by decide) h2, Option.bind_some, Option.bind_some]
    dsimp only
    rw [show (0 : Int).toNat = 0 from rfl, show (96 : Int).toNat = 96 from rfl, show (16 : Int).toNat = 16 from rfl]
    rw [u1, Option.bind_some]
    dsimp only
    rw [e1, Option.bind_some]
    rfl
  · rfl
  · exact ⟨Int.le_trans (show (-2147483648 : Int) ≤ -9 by decide) rg.1, Int.le_trans rg.2 (show (16 : Int) ≤ 2147483647 by decide)⟩
theorem kq_ahead_t {size : Int} {ro co ne nc : Nat → Int} {lim hs bs gs : Int} {bk gr ht dr : Nat → Int} {tl : Int} {sg : Nat → Int} {ol ct : Int} {fl : Nat → Int} {P : Nat → zCv} {A : zO} (O : oREL size ro co ne nc lim hs bs gs bk gr ht dr tl sg ol ct fl P A) (p1 : Int) (c_p0_copy_limit : Int) (c_p0_copy_hungSet : Int) (c_p0_copy_bucketSum : Int) (c_p0_copy_gradeSum : Int) (f_p0_copy_buckets : Nat → Int) (f_p0_copy_grades : Nat → Int) (f_p0_copy_heights : Nat → Int) (f_p0_copy_drawn : Nat → Int) (h : zOK 90000 A ∧ i32 p1 ∧ ¬ (0 ≤ p1 ∧ p1 ≤ 99)) : ∃ res : Int × Int × Int × Int × Int × (Nat → Int) × (Nat → Int) × (Nat → Int) × (Nat → Int), sh_L_ahead 20000 size ne nc lim hs bs gs bk gr ht dr c_p0_copy_limit c_p0_copy_hungSet c_p0_copy_bucketSum c_p0_copy_gradeSum f_p0_copy_buckets f_p0_copy_grades f_p0_copy_heights f_p0_copy_drawn p1 = some res ∧ res.1 = (-102) ∧ i32 ((-102)) := by
  obtain ⟨G0, R0, HH, SS, TT⟩ := O
  have G : gz_ok (oh A) (ow A) size ro co ne nc := G0
  have R : Rc (oh A * ow A) bk gr ht dr lim hs bs gs (oa A) := R0
  have W : ab_wf (oh A * ow A) (ow A) 90000 (oa A) := h.1.2.2.1
  have hn16 : oh A * ow A ≤ 16 := gz_n16 G.2.1 G.2.2.2.1
  have hw45 : ow A < 5 := by have := G.2.2.2.1; omega
  refine ⟨?_, ?_, ?_, ?_⟩
  rotate_left
  · unfold sh_L_ahead sh_X8_orderAhead
    skip
    rw [rr_out (F := 20000) (x := p1) (lo := 0) (hi := 99) (by decide) (by decide) h.2.1 h.2.2, Option.bind_some, if_neg (by decide), Option.bind_some]
    rfl
  · rfl
  · exact ⟨by decide, by decide⟩
theorem kq_origins_n {size : Int} {ro co ne nc : Nat → Int} {lim hs bs gs : Int} {bk gr ht dr : Nat → Int} {tl : Int} {sg : Nat → Int} {ol ct : Int} {fl : Nat → Int} {P : Nat → zCv} {A : zO} (O : oREL size ro co ne nc lim hs bs gs bk gr ht dr tl sg ol ct fl P A) (p1 : Int) (p2 : Int) (c_p0_pattern_count : Int) (f_p0_pattern_values : Nat → Int) (h : zOK 90000 A ∧ (1 ≤ p1 ∧ p1 ≤ 9) ∧ 0 ≤ p2 ∧ p2.toNat < 10 ^ p1.toNat ∧ p2 ≤ 2147483647) : ∃ res : Int × Int × (Nat → Int), sh_L_origins_n 20000 size bk gr ht c_p0_pattern_count f_p0_pattern_values p1 p2 = some res ∧ res.1 = v_org A p1 p2 ∧ i32 (v_org A p1 p2) := by
  obtain ⟨G0, R0, HH, SS, TT⟩ := O
  have G : gz_ok (oh A) (ow A) size ro co ne nc := G0
  have R : Rc (oh A * ow A) bk gr ht dr lim hs bs gs (oa A) := R0
  have W : ab_wf (oh A * ow A) (ow A) 90000 (oa A) := h.1.2.2.1
  have hn16 : oh A * ow A ≤ 16 := gz_n16 G.2.1 G.2.2.2.1
  have hw45 : ow A < 5 := by have := G.2.2.2.1; omega
  have hn := h.2.1
  have hz := h.2.2
  obtain ⟨m, rfl⟩ : ∃ m : Nat, p1 = (m : Int) := ⟨p1.toNat, by omega⟩
  obtain ⟨z, rfl⟩ : ∃ z : Nat, p2 = (z : Int) := ⟨p2.toNat, by omega⟩
  rw [Int.toNat_natCast, Int.toNat_natCast] at hz
  obtain ⟨c', v', s1, s2⟩ := c_split (F := 20000) (B := 10) (n := m) (by omega) (by decide) (by omega) c_p0_pattern_count f_p0_pattern_values (x := (z : Int)) (by omega)
  have s1' : sh_X3_split 20000 c_p0_pattern_count f_p0_pattern_values (z : Int) (m : Int) (10 : Int) = _ := s1
  rw [Int.toNat_natCast, if_pos ⟨hz.1, hz.2.1⟩] at s1'
  rw [Int.toNat_natCast] at s2
  obtain ⟨s3, s4⟩ := s2 hz.1
  subst s3
  have hd : ∀ t, t < m → v' t = og_d z m t := s4
  have hv : ∀ t, t < m → 0 ≤ v' t ∧ v' t ≤ 9 := fun t ht => by rw [hd t ht]; unfold og_d; omega
  have e1 := R.org (F := 20000) (by omega) G W (m0 := m) (by omega) hv
  rw [ab_org_congr hd] at e1
  have hl : 0 ≤ ab_org (oh A * ow A) (oa A) (og_d z m) m ∧ ab_org (oh A * ow A) (oa A) (og_d z m) m < 65536 := by
    unfold ab_org
    have := ab_blk_lt (fun p => ab_beg (oa A) (og_d z m) p m 0) (List.range' 0 (oh A * ow A)) 0 (fun q hq => by rw [← List.range_eq_range'] at hq; have := List.mem_range.mp hq; omega) (by decide)
    omega
  unfold v_org
  rw [Int.toNat_natCast, Int.toNat_natCast]
  refine ⟨(ab_org (oh A * ow A) (oa A) (og_d z m) m, (m : Int), v'), ?_, rfl, by unfold i32; show _ ≤ ab_org (oh A * ow A) (oa A) (og_d z m) m ∧ ab_org (oh A * ow A) (oa A) (og_d z m) m ≤ _; omega⟩
  unfold sh_L_origins_n sh_X8_origins_n
  rw [rrn_in (F := 20000) (x := (m : Int)) (lo := 1) (hi := 9) (by decide) (by decide) hn, Option.bind_some, zkr_t (by omega) (by omega), s1', Option.bind_some]
  dsimp only
  rw [zkr_t (by decide) (by decide), if_neg (by decide), e1, Option.bind_some, Option.bind_some]
theorem kq_origins_t {size : Int} {ro co ne nc : Nat → Int} {lim hs bs gs : Int} {bk gr ht dr : Nat → Int} {tl : Int} {sg : Nat → Int} {ol ct : Int} {fl : Nat → Int} {P : Nat → zCv} {A : zO} (O : oREL size ro co ne nc lim hs bs gs bk gr ht dr tl sg ol ct fl P A) (p1 : Int) (p2 : Int) (c_p0_pattern_count : Int) (f_p0_pattern_values : Nat → Int) (h : zOK 90000 A ∧ i32 p1 ∧ i32 p2 ∧ ¬ ((1 ≤ p1 ∧ p1 ≤ 9) ∧ 0 ≤ p2 ∧ p2.toNat < 10 ^ p1.toNat)) : ∃ res : Int × Int × (Nat → Int), sh_L_origins 20000 size bk gr ht c_p0_pattern_count f_p0_pattern_values p1 p2 = some res ∧ res.1 = (-102) ∧ i32 ((-102)) := by
  obtain ⟨G0, R0, HH, SS, TT⟩ := O
  have G : gz_ok (oh A) (ow A) size ro co ne nc := G0
  have R : Rc (oh A * ow A) bk gr ht dr lim hs bs gs (oa A) := R0
  have W : ab_wf (oh A * ow A) (ow A) 90000 (oa A) := h.1.2.2.1
  have hn16 : oh A * ow A ≤ 16 := gz_n16 G.2.1 G.2.2.2.1
  have hw45 : ow A < 5 := by have := G.2.2.2.1; omega
  by_cases hn : 1 ≤ p1 ∧ p1 ≤ 9
  · have hr := h.2.2.1
    unfold i32 at hr
    obtain ⟨m, rfl⟩ : ∃ m : Nat, p1 = (m : Int) := ⟨p1.toNat, by omega⟩
    obtain ⟨c', v', s1, s2⟩ := c_split (F := 20000) (B := 10) (n := m) (by omega) (by decide) (by omega) c_p0_pattern_count f_p0_pattern_values (x := p2) (by omega)
    have s1' : sh_X3_split 20000 c_p0_pattern_count f_p0_pattern_values p2 (m : Int) (10 : Int) = _ := s1
    rw [if_neg (fun z => h.2.2.2 ⟨hn, by rw [Int.toNat_natCast]; exact z⟩)] at s1'
    refine ⟨?_, ?_, ?_, ?_⟩
    rotate_left
    · unfold sh_L_origins sh_X8_origins
      rw [rr_in (F := 20000) (x := (m : Int)) (lo := 1) (hi := 9) (by decide) (by decide) hn, Option.bind_some, if_pos rfl]
      rw [zkr_t hr.1 hr.2]
      rw [s1', Option.bind_some]
      dsimp only
      rw [zkr_t (by decide) (by decide), if_pos rfl, Option.bind_some]
      rfl
    · rfl
    · exact ⟨by decide, by decide⟩
  · refine ⟨?_, ?_, ?_, ?_⟩
    rotate_left
    · unfold sh_L_origins sh_X8_origins
      rw [rr_out (F := 20000) (x := p1) (lo := 1) (hi := 9) (by decide) (by decide) h.2.1 hn, Option.bind_some, if_neg (by decide), Option.bind_some]
      rfl
    · rfl
    · exact ⟨by decide, by decide⟩
theorem kq_script_n {size : Int} {ro co ne nc : Nat → Int} {lim hs bs gs : Int} {bk gr ht dr : Nat → Int} {tl : Int} {sg : Nat → Int} {ol ct : Int} {fl : Nat → Int} {P : Nat → zCv} {A : zO} (O : oREL size ro co ne nc lim hs bs gs bk gr ht dr tl sg ol ct fl P A) (p1 : Int) (p2 : Int) (f_p0_copy_buckets : Nat → Int) (f_p0_copy_grades : Nat → Int) (f_p0_copy_heights : Nat → Int) (f_p0_copy_drawn : Nat → Int) (c_p0_commands_count : Int) (f_p0_commands_values : Nat → Int) (h : zOK 90000 A ∧ (1 ≤ p1 ∧ p1 ≤ 4) ∧ 0 ≤ p2 ∧ p2.toNat < 10000 ^ p1.toNat) : ∃ res : Int × Int × Int × Int × Int × (Nat → Int) × (Nat → Int) × (Nat → Int) × (Nat → Int) × Int × (Nat → Int), sh_L_script_n 20000 size ne nc lim hs bs gs bk gr ht dr f_p0_copy_buckets f_p0_copy_grades f_p0_copy_heights f_p0_copy_drawn c_p0_commands_count f_p0_commands_values p1 p2 = some res ∧ res.1 = v_scr A p1 p2 ∧ i32 (v_scr A p1 p2) := by
  obtain ⟨G0, R0, HH, SS, TT⟩ := O
  have G : gz_ok (oh A) (ow A) size ro co ne nc := G0
  have R : Rc (oh A * ow A) bk gr ht dr lim hs bs gs (oa A) := R0
  have W : ab_wf (oh A * ow A) (ow A) 90000 (oa A) := h.1.2.2.1
  have hn16 : oh A * ow A ≤ 16 := gz_n16 G.2.1 G.2.2.2.1
  have hw45 : ow A < 5 := by have := G.2.2.2.1; omega
  have hn := h.2.1
  have hz := h.2.2
  obtain ⟨m, rfl⟩ : ∃ m : Nat, p1 = (m : Int) := ⟨p1.toNat, by omega⟩
  obtain ⟨z, rfl⟩ : ∃ z : Nat, p2 = (z : Int) := ⟨p2.toNat, by omega⟩
  rw [Int.toNat_natCast, Int.toNat_natCast] at hz
  have ht0 := ten_le (n := 4 * m) (by omega)
  rw [p4] at ht0
  obtain ⟨c', v', s1, s2⟩ := c_split (F := 20000) (B := 10000) (n := m) (by omega) (by decide) (by omega) c_p0_commands_count f_p0_commands_values (x := (z : Int)) (by omega)
  have s1' : sh_X3_split 20000 c_p0_commands_count f_p0_commands_values (z : Int) (m : Int) (10000 : Int) = _ := s1
  rw [Int.toNat_natCast, if_pos ⟨hz.1, hz.2⟩] at s1'
  rw [Int.toNat_natCast] at s2
  obtain ⟨s3, s4⟩ := s2 hz.1
  subst s3
  obtain ⟨hs', bs', gs', bk', gr', ht', dr', u1⟩ := c_scr_L (F := 20000) (x := z) (n0 := m) (by omega) G (by omega) s4 m 20000 0 _ _ _ _ hs bs gs 90000 (oa A) (R.become (bk2 := f_p0_copy_buckets) (gr2 := f_p0_copy_grades) (ht2 := f_p0_copy_heights) (dr2 := f_p0_copy_drawn) hn16) W (by omega) (by omega) (by omega)
  have u1' : sh_X5_firstFailure 20000 size ne nc lim hs bs gs (va_cpy bk f_p0_copy_buckets 0 0 96) (va_cpy gr f_p0_copy_grades 0 0 96) (va_cpy ht f_p0_copy_heights 0 0 16) (va_cpy dr f_p0_copy_drawn 0 0 16) (m : Int) v' = _ := u1
  have rg := ab_scr_rng (n := oh A * ow A) (w := ow A) (x := z) (n0 := m) m 0 (oa A) (by omega)
  unfold v_scr
  rw [Int.toNat_natCast, Int.toNat_natCast]
  refine ⟨?_, ?_, ?_, ?_⟩
  rotate_left
  · unfold sh_L_script_n sh_X8_runScript_n sh_X0_become
    rw [rrn_in (F := 20000) (x := (m : Int)) (lo := 1) (hi := 4) (by decide) (by decide) hn, Option.bind_some, s1', Option.bind_some]
    dsimp only
    rw [zkr_t (by decide) (by decide), if_neg (by decide), Option.bind_some]
    dsimp only
    rw [show (0 : Int).toNat = 0 from rfl, show (96 : Int).toNat = 96 from rfl, show (16 : Int).toNat = 16 from rfl]
    rw [u1', Option.bind_some, Option.bind_some]
  · rfl
  · exact ⟨by have := rg.1; show _ ≤ ab_scr (oh A * ow A) _ _ _ _ _ _; omega, by have := rg.2; show ab_scr (oh A * ow A) _ _ _ _ _ _ ≤ _; omega⟩
theorem kq_script_t {size : Int} {ro co ne nc : Nat → Int} {lim hs bs gs : Int} {bk gr ht dr : Nat → Int} {tl : Int} {sg : Nat → Int} {ol ct : Int} {fl : Nat → Int} {P : Nat → zCv} {A : zO} (O : oREL size ro co ne nc lim hs bs gs bk gr ht dr tl sg ol ct fl P A) (p1 : Int) (p2 : Int) (c_p0_copy_limit : Int) (c_p0_copy_hungSet : Int) (c_p0_copy_bucketSum : Int) (c_p0_copy_gradeSum : Int) (f_p0_copy_buckets : Nat → Int) (f_p0_copy_grades : Nat → Int) (f_p0_copy_heights : Nat → Int) (f_p0_copy_drawn : Nat → Int) (c_p0_commands_count : Int) (f_p0_commands_values : Nat → Int) (h : zOK 90000 A ∧ i32 p1 ∧ (-9223372036854775808 ≤ p2 ∧ p2 ≤ 9223372036854775807) ∧ ¬ ((1 ≤ p1 ∧ p1 ≤ 4) ∧ 0 ≤ p2 ∧ p2.toNat < 10000 ^ p1.toNat)) : ∃ res : Int × Int × Int × Int × Int × (Nat → Int) × (Nat → Int) × (Nat → Int) × (Nat → Int) × Int × (Nat → Int), sh_L_script 20000 size ne nc lim hs bs gs bk gr ht dr c_p0_copy_limit c_p0_copy_hungSet c_p0_copy_bucketSum c_p0_copy_gradeSum f_p0_copy_buckets f_p0_copy_grades f_p0_copy_heights f_p0_copy_drawn c_p0_commands_count f_p0_commands_values p1 p2 = some res ∧ res.1 = (-102) ∧ i32 ((-102)) := by
  obtain ⟨G0, R0, HH, SS, TT⟩ := O
  have G : gz_ok (oh A) (ow A) size ro co ne nc := G0
  have R : Rc (oh A * ow A) bk gr ht dr lim hs bs gs (oa A) := R0
  have W : ab_wf (oh A * ow A) (ow A) 90000 (oa A) := h.1.2.2.1
  have hn16 : oh A * ow A ≤ 16 := gz_n16 G.2.1 G.2.2.2.1
  have hw45 : ow A < 5 := by have := G.2.2.2.1; omega
  by_cases hn : 1 ≤ p1 ∧ p1 ≤ 4
  · have hr := h.2.2.1
    skip
    obtain ⟨m, rfl⟩ : ∃ m : Nat, p1 = (m : Int) := ⟨p1.toNat, by omega⟩
    obtain ⟨c', v', s1, s2⟩ := c_split (F := 20000) (B := 10000) (n := m) (by omega) (by decide) (by omega) c_p0_commands_count f_p0_commands_values (x := p2) (by omega)
    have s1' : sh_X3_split 20000 c_p0_commands_count f_p0_commands_values p2 (m : Int) (10000 : Int) = _ := s1
    rw [if_neg (fun z => h.2.2.2 ⟨hn, by rw [Int.toNat_natCast]; exact z⟩)] at s1'
    refine ⟨?_, ?_, ?_, ?_⟩
    rotate_left
    · unfold sh_L_script sh_X8_runScript
      rw [rr_in (F := 20000) (x := (m : Int)) (lo := 1) (hi := 4) (by decide) (by decide) hn, Option.bind_some, if_pos rfl]
      skip
      rw [s1', Option.bind_some]
      dsimp only
      rw [zkr_t (by decide) (by decide), if_pos rfl, Option.bind_some]
      rfl
    · rfl
    · exact ⟨by decide, by decide⟩
  · refine ⟨?_, ?_, ?_, ?_⟩
    rotate_left
    · unfold sh_L_script sh_X8_runScript
      rw [rr_out (F := 20000) (x := p1) (lo := 1) (hi := 4) (by decide) (by decide) h.2.1 hn, Option.bind_some, if_neg (by decide), Option.bind_some]
      rfl
    · rfl
    · exact ⟨by decide, by decide⟩
theorem kq_simulate_n {size : Int} {ro co ne nc : Nat → Int} {lim hs bs gs : Int} {bk gr ht dr : Nat → Int} {tl : Int} {sg : Nat → Int} {ol ct : Int} {fl : Nat → Int} {P : Nat → zCv} {A : zO} (O : oREL size ro co ne nc lim hs bs gs bk gr ht dr tl sg ol ct fl P A) (p1 : Int) (p2 : Int) (f_p0_copy_buckets : Nat → Int) (f_p0_copy_grades : Nat → Int) (f_p0_copy_heights : Nat → Int) (f_p0_copy_drawn : Nat → Int) (h : zOK 90000 A ∧ i32 p1 ∧ 1 ≤ p2 ∧ p2 ≤ 100) : ∃ res : Int × Int × Int × Int × Int × (Nat → Int) × (Nat → Int) × (Nat → Int) × (Nat → Int), sh_L_simulate_n 20000 size ne nc lim hs bs gs bk gr ht dr f_p0_copy_buckets f_p0_copy_grades f_p0_copy_heights f_p0_copy_drawn p1 p2 = some res ∧ res.1 = v_sim A (p1 * 4294967311) p2 ∧ i32 (v_sim A (p1 * 4294967311) p2) := by
  obtain ⟨G0, R0, HH, SS, TT⟩ := O
  have G : gz_ok (oh A) (ow A) size ro co ne nc := G0
  have R : Rc (oh A * ow A) bk gr ht dr lim hs bs gs (oa A) := R0
  have W : ab_wf (oh A * ow A) (ow A) 90000 (oa A) := h.1.2.2.1
  have hn16 : oh A * ow A ≤ 16 := gz_n16 G.2.1 G.2.2.2.1
  have hw45 : ow A < 5 := by have := G.2.2.2.1; omega
  have h2 := h.2.2
  have hr := h.2.1
  obtain ⟨Q, rfl⟩ : ∃ Q : Nat, p2 = (Q : Int) := ⟨p2.toNat, by omega⟩
  have wg := W.2.2.2.2
  have wg2 := (ab_sim_wf Q (p1 * 4294967311) 90000 (oa A) W).2.2.2.2
  have egs := R.2.2.2.2
  obtain ⟨hs', bs', gs', bk', gr', ht', dr', u1⟩ := c_simn_L (F := 20000) (gs0 := gs) (by omega) G (by omega : Q ≤ 100) (lim, hs, bs, gs, va_cpy bk f_p0_copy_buckets 0 0 96, va_cpy gr f_p0_copy_grades 0 0 96, va_cpy ht f_p0_copy_heights 0 0 16, va_cpy dr f_p0_copy_drawn 0 0 16) rfl Q 20000 0 (p1 * 4294967311) _ _ _ _ hs bs gs 90000 (oa A) (R.become (bk2 := f_p0_copy_buckets) (gr2 := f_p0_copy_grades) (ht2 := f_p0_copy_heights) (dr2 := f_p0_copy_drawn) hn16) W (by omega) (by omega) (by omega)
  rw [egs, show ((0 : Nat) : Int) = 0 from rfl] at u1
  dsimp only at u1
  unfold v_sim
  rw [Int.toNat_natCast]
  have hv : ab_gs (ab_sim (onn A) (ow A) Q (p1 * 4294967311) (oa A)) - ab_gs (oa A) = ab_gs (ab_sim (oh A * ow A) (ow A) Q (p1 * 4294967311) (oa A)) - ab_gs (oa A) := rfl
  rw [hv]
  refine ⟨?_, ?_, ?_, by unfold i32; omega⟩
  rotate_left
  · unfold sh_L_simulate_n sh_X8_simulate_n sh_X0_become
    rw [zkr_t hr.1 hr.2, rrn_in (F := 20000) (x := (Q : Int)) (lo := 1) (hi := 100) (by decide) (by decide) h2, Option.bind_some, Option.bind_some]
    dsimp only
    rw [show (0 : Int).toNat = 0 from rfl, show (96 : Int).toNat = 96 from rfl, show (16 : Int).toNat = 16 from rfl]
    rw [egs, u1, Option.bind_some]
  · rfl
theorem kq_simulate_t {size : Int} {ro co ne nc : Nat → Int} {lim hs bs gs : Int} {bk gr ht dr : Nat → Int} {tl : Int} {sg : Nat → Int} {ol ct : Int} {fl : Nat → Int} {P : Nat → zCv} {A : zO} (O : oREL size ro co ne nc lim hs bs gs bk gr ht dr tl sg ol ct fl P A) (p1 : Int) (p2 : Int) (c_p0_copy_limit : Int) (c_p0_copy_hungSet : Int) (c_p0_copy_bucketSum : Int) (c_p0_copy_gradeSum : Int) (f_p0_copy_buckets : Nat → Int) (f_p0_copy_grades : Nat → Int) (f_p0_copy_heights : Nat → Int) (f_p0_copy_drawn : Nat → Int) (h : zOK 90000 A ∧ i32 p1 ∧ i32 p2 ∧ ¬ (1 ≤ p2 ∧ p2 ≤ 100)) : ∃ res : Int × Int × Int × Int × Int × (Nat → Int) × (Nat → Int) × (Nat → Int) × (Nat → Int), sh_L_simulate 20000 size ne nc lim hs bs gs bk gr ht dr c_p0_copy_limit c_p0_copy_hungSet c_p0_copy_bucketSum c_p0_copy_gradeSum f_p0_copy_buckets f_p0_copy_grades f_p0_copy_heights f_p0_copy_drawn p1 p2 = some res ∧ res.1 = (-102) ∧ i32 ((-102)) := by
  obtain ⟨G0, R0, HH, SS, TT⟩ := O
  have G : gz_ok (oh A) (ow A) size ro co ne nc := G0
  have R : Rc (oh A * ow A) bk gr ht dr lim hs bs gs (oa A) := R0
  have W : ab_wf (oh A * ow A) (ow A) 90000 (oa A) := h.1.2.2.1
  have hn16 : oh A * ow A ≤ 16 := gz_n16 G.2.1 G.2.2.2.1
  have hw45 : ow A < 5 := by have := G.2.2.2.1; omega
  refine ⟨?_, ?_, ?_, ?_⟩
  rotate_left
  · unfold sh_L_simulate sh_X8_simulate
    rw [zkr_t h.2.1.1 h.2.1.2]
    rw [rr_out (F := 20000) (x := p2) (lo := 1) (hi := 100) (by decide) (by decide) h.2.2.1 h.2.2.2, Option.bind_some, if_neg (by decide), Option.bind_some]
    rfl
  · rfl
  · exact ⟨by decide, by decide⟩
theorem kq_best_n {size : Int} {ro co ne nc : Nat → Int} {lim hs bs gs : Int} {bk gr ht dr : Nat → Int} {tl : Int} {sg : Nat → Int} {ol ct : Int} {fl : Nat → Int} {P : Nat → zCv} {A : zO} (O : oREL size ro co ne nc lim hs bs gs bk gr ht dr tl sg ol ct fl P A) (p1 : Int) (p2 : Int) (f_p0_search_ahead : Nat → Int) (f_p0_search_drawn : Nat → Int) (f_p0_search_taken : Nat → Int) (f_p0_search_mostFromStep : Nat → Int) (f_p0_search_trial : Nat → Int) (f_p0_search_best : Nat → Int) (h : zOK 90000 A ∧ (1 ≤ p1 ∧ p1 ≤ 4) ∧ 0 ≤ p2 ∧ p2 ≤ p1) : ∃ res : Int × Int × Int × Int × (Nat → Int) × (Nat → Int) × (Nat → Int) × (Nat → Int) × (Nat → Int) × (Nat → Int), sh_L_best_n 20000 size ne nc lim hs bk gr ht dr f_p0_search_ahead f_p0_search_drawn f_p0_search_taken f_p0_search_mostFromStep f_p0_search_trial f_p0_search_best p1 p2 = some res ∧ res.1 = v_best A p1 p2 ∧ i32 (v_best A p1 p2) := by
  obtain ⟨G0, R0, HH, SS, TT⟩ := O
  have G : gz_ok (oh A) (ow A) size ro co ne nc := G0
  have R : Rc (oh A * ow A) bk gr ht dr lim hs bs gs (oa A) := R0
  have W : ab_wf (oh A * ow A) (ow A) 90000 (oa A) := h.1.2.2.1
  have hn16 : oh A * ow A ≤ 16 := gz_n16 G.2.1 G.2.2.2.1
  have hw45 : ow A < 5 := by have := G.2.2.2.1; omega
  have hn := h.2.1
  have hz := h.2.2
  obtain ⟨m, rfl⟩ : ∃ m : Nat, p1 = (m : Int) := ⟨p1.toNat, by omega⟩
  obtain ⟨k, rfl⟩ : ∃ k : Nat, p2 = (k : Int) := ⟨p2.toNat, by omega⟩
  obtain ⟨ah, d2', tk, MM, ta, be, u1, u2⟩ := R.best (F := 20000) (by omega) G W (by omega) (n := m) (by omega) f_p0_search_ahead f_p0_search_drawn f_p0_search_taken f_p0_search_mostFromStep f_p0_search_trial f_p0_search_best
  have ok := bs_rng (n := oh A * ow A) (w := ow A) m 0 0 90000 (fun _ => -9) (oa A) (-9, fun _ => -9) W (by decide) (by omega) ⟨by decide, by decide⟩
  have qq := bs_qq (n := oh A * ow A) (w := ow A) (N := 16) hn16 m 0 0 90000 (fun _ => -9) (oa A) (-9, fun _ => -9) W (by decide) (fun _ => ⟨by decide, by decide⟩) ⟨fun _ _ => rfl, fun _ => ⟨show (-9 : Int) ≤ -9 by decide, show (-9 : Int) ≤ ((16 : Nat) : Int) by decide⟩⟩
  have ok' : -9 ≤ (bs_0 (oh A * ow A) (ow A) m (oa A)).1 ∧ (bs_0 (oh A * ow A) (ow A) m (oa A)).1 ≤ 100 := ok
  have qq' : bs_q 16 (bs_0 (oh A * ow A) (ow A) m (oa A)) := qq
  unfold v_best
  rw [Int.toNat_natCast, Int.toNat_natCast]
  show ∃ res, _ ∧ _ = (if (k : Int) = (m : Int) then (bs_0 (oh A * ow A) (ow A) m (oa A)).1 else (bs_0 (oh A * ow A) (ow A) m (oa A)).2 k) ∧ i32 (if (k : Int) = (m : Int) then (bs_0 (oh A * ow A) (ow A) m (oa A)).1 else (bs_0 (oh A * ow A) (ow A) m (oa A)).2 k)
  generalize bs_0 (oh A * ow A) (ow A) m (oa A) = B at *
  have qk := qq'.2 k
  by_cases ck : k = m
  · subst ck
    rw [if_pos rfl]
    refine ⟨?_, ?_, ?_, by unfold i32; omega⟩
    rotate_left
    · unfold sh_L_best_n sh_X8_bestSequence_n sh_X6_sum
      rw [rrn_in (F := 20000) (x := (k : Int)) (lo := 1) (hi := 4) (by decide) (by decide) hn, Option.bind_some, rrn_in (F := 20000) (x := (k : Int)) (lo := 0) (hi := (k : Int)) (by decide) (by omega) hz, Option.bind_some, u1, Option.bind_some]
      dsimp only
      rw [zkr_t (by omega) (by omega), if_pos rfl, Option.bind_some, zkr_t (by omega) (by omega), Option.bind_some]
    · rfl
  · have eb := u2 k (by omega)
    rw [if_neg (by omega)]
    refine ⟨?_, ?_, ?_, by unfold i32; omega⟩
    rotate_left
    · unfold sh_L_best_n sh_X8_bestSequence_n sh_X6_point
      rw [rrn_in (F := 20000) (x := (m : Int)) (lo := 1) (hi := 4) (by decide) (by decide) hn, Option.bind_some, rrn_in (F := 20000) (x := (k : Int)) (lo := 0) (hi := (m : Int)) (by decide) (by omega) hz, Option.bind_some, u1, Option.bind_some]
      dsimp only
      rw [zkr_t (by omega) (by omega), zkr_t (by omega) (by omega), if_neg (by omega)]
      simp (disch := omega) only [zkr_t, if_pos, zkx_t, ix_n, Option.bind_some, eb]
      rfl
    · rfl
theorem kq_best_t {size : Int} {ro co ne nc : Nat → Int} {lim hs bs gs : Int} {bk gr ht dr : Nat → Int} {tl : Int} {sg : Nat → Int} {ol ct : Int} {fl : Nat → Int} {P : Nat → zCv} {A : zO} (O : oREL size ro co ne nc lim hs bs gs bk gr ht dr tl sg ol ct fl P A) (p1 : Int) (p2 : Int) (c_p0_search_length : Int) (c_p0_search_limit : Int) (c_p0_search_bestSum : Int) (f_p0_search_ahead : Nat → Int) (f_p0_search_drawn : Nat → Int) (f_p0_search_taken : Nat → Int) (f_p0_search_mostFromStep : Nat → Int) (f_p0_search_trial : Nat → Int) (f_p0_search_best : Nat → Int) (h : zOK 90000 A ∧ i32 p1 ∧ i32 p2 ∧ ¬ ((1 ≤ p1 ∧ p1 ≤ 4) ∧ 0 ≤ p2 ∧ p2 ≤ p1)) : ∃ res : Int × Int × Int × Int × (Nat → Int) × (Nat → Int) × (Nat → Int) × (Nat → Int) × (Nat → Int) × (Nat → Int), sh_L_best 20000 size ne nc lim hs bk gr ht dr c_p0_search_length c_p0_search_limit c_p0_search_bestSum f_p0_search_ahead f_p0_search_drawn f_p0_search_taken f_p0_search_mostFromStep f_p0_search_trial f_p0_search_best p1 p2 = some res ∧ res.1 = (-102) ∧ i32 ((-102)) := by
  obtain ⟨G0, R0, HH, SS, TT⟩ := O
  have G : gz_ok (oh A) (ow A) size ro co ne nc := G0
  have R : Rc (oh A * ow A) bk gr ht dr lim hs bs gs (oa A) := R0
  have W : ab_wf (oh A * ow A) (ow A) 90000 (oa A) := h.1.2.2.1
  have hn16 : oh A * ow A ≤ 16 := gz_n16 G.2.1 G.2.2.2.1
  have hw45 : ow A < 5 := by have := G.2.2.2.1; omega
  by_cases hn : 1 ≤ p1 ∧ p1 ≤ 4
  · refine ⟨?_, ?_, ?_, ?_⟩
    rotate_left
    · unfold sh_L_best sh_X8_bestSequence
      rw [rr_in (F := 20000) (x := p1) (lo := 1) (hi := 4) (by decide) (by decide) hn, Option.bind_some, if_pos rfl, rr_out (F := 20000) (x := p2) (lo := 0) (hi := p1) (by decide) (by omega) h.2.2.1 (fun z => h.2.2.2 ⟨hn, z⟩), Option.bind_some, if_neg (by decide), Option.bind_some]
      rfl
    · rfl
    · exact ⟨by decide, by decide⟩
  · refine ⟨?_, ?_, ?_, ?_⟩
    rotate_left
    · unfold sh_L_best sh_X8_bestSequence
      rw [rr_out (F := 20000) (x := p1) (lo := 1) (hi := 4) (by decide) (by decide) h.2.1 hn, Option.bind_some, if_neg (by decide), Option.bind_some]
      rfl
    · rfl
    · exact ⟨by decide, by decide⟩
