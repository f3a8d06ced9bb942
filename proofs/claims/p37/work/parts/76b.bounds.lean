/-! THE LAW'S METHODS OVER THE OBJECT: bounds -/
theorem ab_grade_end : ∀ (l : zSl) (i : Int), (∀ x ∈ l, 1 ≤ x.1 ∧ x.1 ≤ 9 ∧ 0 ≤ x.2 ∧ x.2 ≤ 9) → 0 ≤ i → (ab_grade l i = -9 ↔ ab_left l ≤ i)
  | [], i, _, hi => by rw [ab_grade, ab_left]; exact ⟨fun _ => hi, fun _ => rfl⟩
  | x :: l, i, h, hi => by
    have h1 := h x List.mem_cons_self
    have h2 := ab_left_le (l := l) (fun y hy => h y (List.mem_cons_of_mem _ hy))
    rw [ab_grade, ab_left]
    by_cases c : i < x.1
    · rw [if_pos c]; omega
    · rw [if_neg c, ab_grade_end l (i - x.1) (fun y hy => h y (List.mem_cons_of_mem _ hy)) (by omega)]; omega
theorem beside_eq {F w p q : Nat} (h1 : w < 5) (h2 : 1 ≤ w) (hp : p < 16) (hq : q < 16) : sh_L_areBeside F (w : Int) (p : Int) (q : Int) = some (if gz_dist w p q = 1 then 1 else 0) := by
  have g := gz_b1 h1 h2 hp hq
  have hw : ¬ ((w : Nat) : Int) = 0 := by omega
  unfold sh_L_areBeside
  rw [zkr_t (by omega) (by omega), zkr_t (by omega) (by omega), zkc_t hw, zkr_t (by omega) (by omega), zkc_t hw, zkc_t hw, zkc_t hw, zkr_t g.2.1 g.2.2]
  by_cases c : gz_dist w p q = 1
  · rw [if_pos (g.1.mpr c), if_pos c]
  · rw [if_neg (fun z => c (g.1.mp z)), if_neg c]
theorem ab_nxt_mg (S G : Nat → Int) : ∀ (m i : Nat) (best mg mg' : Int), ab_nxt S G m i best 0 mg = ab_nxt S G m i best 0 mg'
  | 0, _, _, _, _ => rfl
  | m + 1, i, best, mg, mg' => by
    rw [ab_nxt, ab_nxt]
    by_cases c : 0 < S i
    · rw [if_pos (Or.inl c), if_pos (Or.inl c)]
    · rw [if_neg (by omega), if_neg (by omega)]
      exact ab_nxt_mg S G m (i + 1) best mg mg'
section BD
variable {A : zO}
theorem bd_in (W : zOK 90000 A) {F p : Nat} (hp : p < onn A) (k : Int → Int → Int → Option Int) : ∀ (m q N s : Nat) (v : Int), q + m = onn A → m < N → s < 2 ^ 16 → (-1000000 ≤ v ∧ v ≤ 1000000) → sh_L_bounds_L48 F A ((ow A : Nat) : Int) ((onn A : Nat) : Int) (p : Int) k N (s : Int) v (q : Int) = k ((ab_blk (ab_bc (oa A) p) ((List.range' q m).filter (fun q => gz_dist (ow A) p q == 1)) s : Nat) : Int) (gz_min v (fun q => ab_lim (oa A) + ab_dr (oa A) q - ab_dr (oa A) p) ((List.range' q m).filter (fun q => gz_dist (ow A) p q == 1))) ((onn A : Nat) : Int) := by
  have hn := W.n16
  have hw := W.2.1
  have wl := W.wf.2.2.1
  intro m
  induction m with
  | zero =>
    intro q N s v hq hN hs hv
    obtain ⟨N, rfl⟩ : ∃ M, N = M + 1 := ⟨N - 1, by omega⟩
    have : q = onn A := by omega
    subst this
    rw [sh_L_bounds_L48, zkr_t (by omega) (by omega), zkr_t (by omega) (by omega), if_neg (by omega)]
    rfl
  | succ m ih =>
    intro q N s v hq hN hs hv
    obtain ⟨N, rfl⟩ : ∃ M, N = M + 1 := ⟨N - 1, by omega⟩
    have hqn : q < onn A := by omega
    have w1 := W.wf.1 p hp
    have w2 := W.wf.1 q hqn
    have e1 : kn_drawn A (p : Int) = some (ab_dr (oa A) p) := by unfold kn_drawn; rw [kx_t ⟨W, isP_nat hp⟩, Int.toNat_natCast]
    have e2 : kn_drawn A (q : Int) = some (ab_dr (oa A) q) := by unfold kn_drawn; rw [kx_t ⟨W, isP_nat hqn⟩, Int.toNat_natCast]
    have e3 : kd_bound A = some (ab_lim (oa A)) := by unfold kd_bound; rw [kx_t W]
    rw [List.range'_succ, List.filter_cons, sh_L_bounds_L48, zkr_t (by omega) (by omega), zkr_t (by omega) (by omega), if_pos (by omega), beside_eq (by omega) (by omega) (by omega) (by omega), Option.bind_some]
    by_cases c : gz_dist (ow A) p q = 1
    · have hd := W.wf.2.1 p q hp hqn c
      have cb : (gz_dist (ow A) p q == 1) = true := by rw [c]; rfl
      rw [if_pos c, zkr_t (by decide) (by decide), if_neg (by decide), e3, Option.bind_some, e1, Option.bind_some, e2, Option.bind_some, zkr_t (by omega) (by omega), if_neg (by omega), zkr_t (by omega) (by omega), if_pos cb, nc_s, ab_blk, gz_min]
      have er : ((ab_lim (oa A) - ab_dr (oa A) p) + ab_dr (oa A) q) = ab_lim (oa A) + ab_dr (oa A) q - ab_dr (oa A) p := by omega
      rw [er]
      have hs2 : zor (s : Int) (if ab_lim (oa A) + ab_dr (oa A) q - ab_dr (oa A) p = (0 : Int) then zshl (1 : Int) (q : Int) else (0 : Int)) = (((if ab_bc (oa A) p q then s ||| 2 ^ q else s) : Nat) : Int) := by
        by_cases z : ab_lim (oa A) + ab_dr (oa A) q - ab_dr (oa A) p = 0
        · have : ab_bc (oa A) p q = true := decide_eq_true (by omega)
          rw [if_pos z, this, if_pos rfl, (bi_set hs (by omega)).1]
        · have : ab_bc (oa A) p q = false := decide_eq_false (by omega)
          rw [if_neg z, this, if_neg (by decide), bi_set0 hs]
      rw [hs2]
      refine ih (q + 1) N _ _ (by omega) (by omega) ?_ ?_
      · split
        · exact (bi_set hs (by omega)).2
        · exact hs
      · split <;> omega
    · have cb : ¬ (gz_dist (ow A) p q == 1) = true := by rw [beq_iff_eq]; exact c
      rw [if_neg c, zkr_t (by decide) (by decide), if_pos rfl, if_neg cb, nc_s]
      exact ih (q + 1) N s v (by omega) (by omega) hs hv
theorem bd_out (W : zOK 90000 A) {F : Nat} (hF : 100 ≤ F) (K : Int → Option Int) : ∀ (m p N : Nat) (best ms mg mg' : Int), p + m = onn A → m < N → (0 ≤ ms ∧ ms ≤ 54) → (-9 ≤ mg ∧ mg ≤ 9) → (ms = 0 ∨ mg = mg') → sh_L_bounds_L20 F A ((ow A : Nat) : Int) ((onn A : Nat) : Int) (fun v84 _ _ _ => K v84) N best ms mg (p : Int) = K (ab_nxt (ab_slack (onn A) (ow A) (oa A)) (fun p => ab_grade (ab_col (oa A) p) 0) m p best ms mg') := by
  have hn := W.n16
  intro m
  induction m with
  | zero =>
    intro p N best ms mg mg' hp hN hms hmg hm
    obtain ⟨N, rfl⟩ : ∃ M, N = M + 1 := ⟨N - 1, by omega⟩
    rw [sh_L_bounds_L20, zkr_t (by omega) (by omega), zkr_t (by omega) (by omega), if_neg (by omega)]
    rfl
  | succ m ih =>
    intro p N best ms mg mg' hp hN hms hmg hm
    obtain ⟨N, rfl⟩ : ∃ M, N = M + 1 := ⟨N - 1, by omega⟩
    have hpn : p < onn A := by omega
    have ip := isP_nat hpn
    have w1 := W.wf.1 p hpn
    have hl := ab_left_rng w1.1
    have hsl := ab_slack_rng W.wf hpn
    have hg0 := ab_grade_rng w1.1.2 0
    have hge := ab_grade_end (ab_col (oa A) p) 0 w1.1.2 (by decide)
    have hgl := ab_grade_end (ab_col (oa A) p) (ab_left (ab_col (oa A) p)) w1.1.2 hl.1
    have hlp := ab_left_pos w1.1
    have e1 : kn_remaining A (p : Int) = some (ab_left (ab_col (oa A) p)) := by unfold kn_remaining; rw [kx_t ⟨W, ip⟩, Int.toNat_natCast]
    have e2 : kn_hung A (p : Int) = some (if ab_hg (oa A) p then 1 else 0) := by unfold kn_hung; rw [kx_t ⟨W, ip⟩, Int.toNat_natCast]
    have e3 : kn_slices A (p : Int) = some (((ab_col (oa A) p).length : Nat) : Int) := by unfold kn_slices; rw [kx_t ⟨W, ip⟩, Int.toNat_natCast]
    have e4 : kn_blockers A (p : Int) = some ((ab_blk (ab_bc (oa A) p) ((List.range' 0 (onn A)).filter (fun q => gz_dist (ow A) p q == 1)) 0 : Nat) : Int) := by
      unfold kn_blockers v_blockers
      rw [kx_t ⟨W, ip⟩, Int.toNat_natCast, ← List.range_eq_range']
      rfl
    have e5 : kn_slack A (p : Int) = some (ab_slack (onn A) (ow A) (oa A) p) := by unfold kn_slack v_slack; rw [kx_t ⟨W, ip⟩, Int.toNat_natCast]
    have e6 : kn_ready A (p : Int) = some (if 0 < ab_slack (onn A) (ow A) (oa A) p then 1 else 0) := by unfold kn_ready v_ready v_slack; rw [kx_t ⟨W, ip⟩, Int.toNat_natCast]
    have e7 : ∀ i : Int, 0 ≤ i → i ≤ 99 → kn_grade A (p : Int) i = some (ab_grade (ab_col (oa A) p) i) := fun i h1 h2 => by unfold kn_grade; rw [kx_t ⟨W, ip, h1, h2⟩, Int.toNat_natCast]
    have eby : (if (if ab_hg (oa A) p = true then (1 : Int) else 0) = (1 : Int) then (0 : Int) else gz_min (ab_left (ab_col (oa A) p)) (fun q => ab_lim (oa A) + ab_dr (oa A) q - ab_dr (oa A) p) ((List.range' 0 (onn A)).filter (fun q => gz_dist (ow A) p q == 1))) = ab_slack (onn A) (ow A) (oa A) p := by
      unfold ab_slack gz_nb
      rw [List.range_eq_range']
      cases ab_hg (oa A) p
      · rfl
      · rfl
    have hin := fun k => bd_in W (F := F) hpn k (onn A) 0 F 0 (ab_left (ab_col (oa A) p)) (by omega) (by omega) (by decide) (by omega)
    rw [show ((0 : Nat) : Int) = (0 : Int) from rfl] at hin
    have hb : ((0 : Int) ≤ ((ab_blk (ab_bc (oa A) p) ((List.range' 0 (onn A)).filter (fun q => gz_dist (ow A) p q == 1)) 0 : Nat) : Int)) ∧ ((ab_blk (ab_bc (oa A) p) ((List.range' 0 (onn A)).filter (fun q => gz_dist (ow A) p q == 1)) 0 : Nat) : Int) < 65536 := by
      have := ab_blk_lt (ab_bc (oa A) p) ((List.range' 0 (onn A)).filter (fun q => gz_dist (ow A) p q == 1)) 0 (fun q hq => by have := List.mem_range'_1.mp (List.mem_filter.mp hq).1; omega) (by decide)
      omega
    rw [sh_L_bounds_L20, zkr_t (by omega) (by omega), zkr_t (by omega) (by omega), if_pos (by omega), e1, Option.bind_some, hin]
    try dsimp only
    rw [e2, Option.bind_some, e7 0 (by decide) (by decide), Option.bind_some, e4, Option.bind_some, zkr_t (by omega) (by omega), if_pos rfl, e5, Option.bind_some, eby, zkr_t (by omega) (by omega), if_pos rfl, e6, Option.bind_some]
    have step : ∀ g : Int, g = ab_grade (ab_col (oa A) p) 0 → (if ms < ab_slack (onn A) (ow A) (oa A) p then sh_L_bounds_L20 F A ((ow A : Nat) : Int) ((onn A : Nat) : Int) (fun v84 _ _ _ => K v84) N (p : Int) (ab_slack (onn A) (ow A) (oa A) p) g ((p : Int) + (1 : Int)) else if (0 : Int) < ab_slack (onn A) (ow A) (oa A) p then if ab_slack (onn A) (ow A) (oa A) p = ms then zkr mg (if mg < g then sh_L_bounds_L20 F A ((ow A : Nat) : Int) ((onn A : Nat) : Int) (fun v84 _ _ _ => K v84) N (p : Int) (ab_slack (onn A) (ow A) (oa A) p) g ((p : Int) + (1 : Int)) else sh_L_bounds_L20 F A ((ow A : Nat) : Int) ((onn A : Nat) : Int) (fun v84 _ _ _ => K v84) N best ms mg ((p : Int) + (1 : Int))) else sh_L_bounds_L20 F A ((ow A : Nat) : Int) ((onn A : Nat) : Int) (fun v84 _ _ _ => K v84) N best ms mg ((p : Int) + (1 : Int)) else sh_L_bounds_L20 F A ((ow A : Nat) : Int) ((onn A : Nat) : Int) (fun v84 _ _ _ => K v84) N best ms mg ((p : Int) + (1 : Int))) = K (ab_nxt (ab_slack (onn A) (ow A) (oa A)) (fun p => ab_grade (ab_col (oa A) p) 0) (m + 1) p best ms mg') := by
      rintro g rfl
      rw [nc_s, ab_nxt]
      have new := ih (p + 1) N (p : Int) (ab_slack (onn A) (ow A) (oa A) p) (ab_grade (ab_col (oa A) p) 0) (ab_grade (ab_col (oa A) p) 0) (by omega) (by omega) hsl (by omega) (Or.inr rfl)
      have old := ih (p + 1) N best ms mg mg' (by omega) (by omega) hms hmg hm
      by_cases c1 : ms < ab_slack (onn A) (ow A) (oa A) p
      · rw [if_pos c1, if_pos (Or.inl c1), new]
      · rw [if_neg c1]
        by_cases c2 : 0 < ab_slack (onn A) (ow A) (oa A) p
        · rw [if_pos c2]
          by_cases c3 : ab_slack (onn A) (ow A) (oa A) p = ms
          · have em : mg = mg' := by rcases hm with h | h <;> omega
            rw [if_pos c3, zkr_t (by omega) (by omega)]
            by_cases c4 : mg < ab_grade (ab_col (oa A) p) 0
            · rw [if_pos c4, if_pos (Or.inr ⟨c2, c3, by rw [← em]; exact c4⟩), new]
            · rw [if_neg c4, if_neg (fun z => by rcases z with z | z; exact c1 z; exact c4 (by rw [em]; exact z.2.2)), old]
          · rw [if_neg c3, if_neg (fun z => by rcases z with z | z; exact c1 z; exact c3 z.2.1), old]
        · rw [if_neg c2, if_neg (fun z => by rcases z with z | z; exact c1 z; exact c2 z.1), old]
    have r1 : (if (if 0 < ab_slack (onn A) (ow A) (oa A) p then (1 : Int) else 0) = (1 : Int) then (1 : Int) else (0 : Int)) = (if (0 : Int) < ab_slack (onn A) (ow A) (oa A) p then (1 : Int) else (0 : Int)) := by
      by_cases z : 0 < ab_slack (onn A) (ow A) (oa A) p
      · rw [if_pos z]; rfl
      · rw [if_neg z]; rfl
    rw [if_pos r1]
    by_cases c0 : ab_left (ab_col (oa A) p) = 0
    · have g9 : ab_grade (ab_col (oa A) p) 0 = -9 := hge.mpr (by omega)
      have hnil := hlp.mp c0
      have hlen : (ab_col (oa A) p).length = 0 := by rw [hnil]; rfl
      rw [c0, g9, if_pos rfl, if_pos rfl, if_pos rfl, e3, Option.bind_some, hlen]
      rw [if_neg (show ¬ (0 : Int) < ((0 : Nat) : Int) by decide), if_neg (show ¬ (0 : Int) < 0 by decide), if_pos rfl, if_pos rfl, e7 0 (by decide) (by decide), Option.bind_some, g9, if_pos rfl, zkr_t (by omega) (by omega)]
      exact step (-9) g9.symm
    · have g9 : ¬ ab_grade (ab_col (oa A) p) 0 = -9 := fun z => c0 (by have := hge.mp z; omega)
      have hpos : 0 < (ab_col (oa A) p).length := List.length_pos_iff.mpr (fun z => c0 (hlp.mpr z))
      have gm := ab_grade_end (ab_col (oa A) p) (ab_left (ab_col (oa A) p) - 1) w1.1.2 (by omega)
      rw [if_neg g9, if_neg c0, if_pos rfl, e3, Option.bind_some, if_pos (show (0 : Int) < (((ab_col (oa A) p).length : Nat) : Int) by omega), if_pos (show (0 : Int) < ab_left (ab_col (oa A) p) by omega), if_pos rfl, if_neg c0, e7 _ (by omega) (by omega), Option.bind_some, if_neg (fun z => by have := gm.mp z; omega), e7 _ (by omega) (by omega), Option.bind_some, if_pos (hgl.mpr (by omega)), zkr_t (by omega) (by omega)]
      exact step _ rfl
theorem bounds_ok (W : zOK 90000 A) {F : Nat} (hF : 100 ≤ F) : sh_L_bounds F A ((ow A : Nat) : Int) = some 1 := by
  have hn := W.n16
  have e0 : kd_pointCount A = some ((onn A : Nat) : Int) := by unfold kd_pointCount; rw [kx_t W]
  have e1 : kd_nextByOrder A = some (v_next A) := by unfold kd_nextByOrder; rw [kx_t W]
  have e2 : kn_ahead A 0 = some (v_next A) := by
    unfold kn_ahead
    rw [kx_t ⟨W, by decide, by decide⟩]
    rfl
  have rg : -9 ≤ v_next A ∧ v_next A ≤ 16 := by
    unfold v_next
    rcases ab_next_rng (onn A) (ow A) (oa A) with z | ⟨p, z1, z2, -⟩ <;> omega
  have L := bd_out W hF (fun v84 => (kd_nextByOrder A).bind (fun (q90 : Int) => zkr v84 (if q90 = v84 then (kn_ahead A (0 : Int)).bind (fun (q94 : Int) => if q94 = v84 then some ((1 : Int)) else none) else none))) (onn A) 0 F (-9) 0 (-1) 0 (by omega) (by omega) (by decide) (by decide) (Or.inl rfl)
  rw [show ((0 : Nat) : Int) = (0 : Int) from rfl] at L
  have en : ab_nxt (ab_slack (onn A) (ow A) (oa A)) (fun p => ab_grade (ab_col (oa A) p) 0) (onn A) 0 (-9) 0 0 = v_next A := rfl
  unfold sh_L_bounds
  rw [e0, Option.bind_some]
  refine L.trans ?_
  rw [en, e1, Option.bind_some, zkr_t (by omega) (by omega), if_pos rfl, e2, Option.bind_some, if_pos rfl]
end BD
