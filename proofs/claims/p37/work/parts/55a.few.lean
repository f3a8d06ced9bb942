/-! THE FEWEST BUCKETS -/
theorem gd_chain {h w p : Nat} (hh : 1 ≤ h ∧ h ≤ 4) (hw : 1 ≤ w ∧ w ≤ 4) (hp : p < h * w) (lim c : Int) (v : Nat → Int) (h0 : c ≤ v p) (hs : ∀ q o, q < h * w → o < h * w → gz_dist w q o = 1 → v q - lim ≤ v o) : ∀ (d q : Nat), q < h * w → gz_dist w p q = d → c - lim * (d : Int) ≤ v q := by
  intro d
  induction d with
  | zero =>
    intro q hq hd
    by_cases e : p = q
    · subst e; simp only [Int.natCast_zero, Int.mul_zero]; omega
    · obtain ⟨o, -, -, h3⟩ := gz_step (by omega) (by omega) hh.1 hw.1 hp hq e
      omega
  | succ d ih =>
    intro q hq hd
    by_cases e : p = q
    · subst e; rw [gz_self] at hd; omega
    · obtain ⟨o, h1, h2, h3⟩ := gz_step (by omega) (by omega) hh.1 hw.1 hp hq e
      have a1 := ih o h1 (by omega)
      have a2 := hs o q h1 hq (by rw [gz_sym]; exact h2)
      rw [show ((d + 1 : Nat) : Int) = (d : Int) + 1 from rfl, Int.mul_add, Int.mul_one]
      omega
def sm_of (v : Nat → Int) : Nat → Int
  | 0 => 0
  | n + 1 => sm_of v n + v n
theorem sm_up (v : Nat → Int) (o : Nat) (x : Int) : ∀ n, o < n → sm_of (va_up v o x) n = sm_of v n + (x - v o)
  | 0, h => absurd h (Nat.not_lt_zero _)
  | n + 1, h => by
    have key : ∀ m, m ≤ o → sm_of (va_up v o x) m = sm_of v m := by
      intro m
      induction m with
      | zero => intro _; rfl
      | succ m ih => intro hm; rw [sm_of, sm_of, ih (by omega), up_n _ _ _ (by omega)]
    rw [sm_of, sm_of]
    by_cases e : o = n
    · subst e; rw [key o (Nat.le_refl _), up_s]; omega
    · rw [sm_up v o x n (by omega), up_n _ _ _ (by omega)]; omega
theorem sm_le {v u : Nat → Int} {k : Int} : ∀ n, (∀ q, q < n → v q ≤ u q + k) → sm_of v n ≤ sm_of u n + k * (n : Int)
  | 0, _ => by rw [sm_of, sm_of]; simp
  | n + 1, h => by
    have h1 := sm_le n (fun q hq => h q (by omega))
    have h2 := h n (by omega)
    rw [sm_of, sm_of, show ((n + 1 : Nat) : Int) = (n : Int) + 1 from rfl, Int.mul_add, Int.mul_one]
    omega
def ab_need (w : Nat) (a : zAb) (p : Nat) (k : Int) (q : Nat) : Int := ab_dr a p + k - ab_lim a * ((gz_dist w p q : Nat) : Int) - ab_dr a q
def ab_few (w : Nat) (a : zAb) (p : Nat) (k : Int) : Nat → Nat → Int → Int
  | 0, _, s => s
  | m + 1, q, s => if 0 < ab_need w a p k q then (if ab_hg a q = true ∨ ab_left (ab_col a q) < ab_need w a p k q then -9 else ab_few w a p k m (q + 1) (s + ab_need w a p k q)) else ab_few w a p k m (q + 1) s
def ab_fewest (n w : Nat) (a : zAb) (p : Nat) (k : Int) : Int := ab_few w a p k n 0 0
theorem gd_le {n w : Nat} {b : Int} {a : zAb} (W : ab_wf n w b a) (hw : w < 5) (hn : n ≤ 16) {p q : Nat} (hp : p < n) (hq : q < n) : 0 ≤ ab_lim a * ((gz_dist w p q : Nat) : Int) ∧ ab_lim a * ((gz_dist w p q : Nat) : Int) ≤ 900 := by
  have h1 := gz_le w hw p (by omega) q (by omega)
  have h2 := W.2.2.1
  exact ⟨Int.mul_nonneg (by omega) (by omega), Int.le_trans (Int.mul_le_mul (c := 9) (d := 100) h2.2 (by omega) (by omega) (by omega)) (by decide)⟩
theorem ab_need_rng {n w : Nat} {b : Int} {a : zAb} (W : ab_wf n w b a) (hw : w < 5) (hn : n ≤ 16) (hb : b ≤ 200000) {p q : Nat} {k : Int} (hk : 0 ≤ k ∧ k ≤ 60) (hp : p < n) (hq : q < n) : -400000 ≤ ab_need w a p k q ∧ ab_need w a p k q ≤ 400000 := by
  have h1 := gd_le W hw hn hp hq
  have h2 := W.1 p hp
  have h3 := W.1 q hq
  unfold ab_need
  omega
theorem ab_few_rng {n w : Nat} {b : Int} {a : zAb} (W : ab_wf n w b a) (hw : w < 5) (hn : n ≤ 16) {p : Nat} {k : Int} (hp : p < n) : ∀ (m q : Nat) (s : Int), q + m = n → (0 ≤ s ∧ s ≤ 60 * q) → -9 ≤ ab_few w a p k m q s ∧ ab_few w a p k m q s ≤ 960
  | 0, q, s, h, hs => by rw [ab_few]; omega
  | m + 1, q, s, h, hs => by
    rw [ab_few]
    have hl := ab_left_rng (W.1 q (by omega)).1
    split
    · split
      · exact ⟨by decide, by decide⟩
      · rename_i h1 h2
        have : ab_need w a p k q ≤ 54 := by
          by_cases c : ab_left (ab_col a q) < ab_need w a p k q
          · exact absurd (Or.inr c) h2
          · omega
        exact ab_few_rng W hw hn hp m (q + 1) _ (by omega) (by omega)
    · exact ab_few_rng W hw hn hp m (q + 1) _ (by omega) (by omega)
theorem ab_fewest_rng {n w : Nat} {b : Int} {a : zAb} (W : ab_wf n w b a) (hw : w < 5) (hn : n ≤ 16) {p : Nat} {k : Int} (hp : p < n) : -9 ≤ ab_fewest n w a p k ∧ ab_fewest n w a p k ≤ 960 := ab_few_rng W hw hn hp n 0 0 (by omega) (by decide)
theorem c_few_L {F h w : Nat} {size : Int} {ro co ne nc : Nat → Int} {bk gr ht dr : Nat → Int} {lim hs bs gs b : Int} {a : zAb} (hF : 20 ≤ F) (G : gz_ok h w size ro co ne nc) (R : Rc (h * w) bk gr ht dr lim hs bs gs a) (W : ab_wf (h * w) w b a) (hb : b ≤ 200000) {p : Nat} (hp : p < h * w) {k : Int} (hk : 0 ≤ k ∧ k ≤ 60) : ∀ (m N q : Nat) (s : Int), q + m = h * w → m < N → sh_X0_fewestFor_L6 F (p : Int) k lim hs bk ht dr size ro co (fun v20 _ => some v20) N s (q : Int) = some (ab_few w a p k m q s) := by
  have hn := gz_n16 G.2.1 G.2.2.2.1
  have hsz := G.2.2.2.2.1
  intro m
  induction m with
  | zero =>
    intro N q s hq hN
    obtain ⟨N, rfl⟩ : ∃ M, N = M + 1 := ⟨N - 1, by omega⟩
    simp (disch := omega) only [sh_X0_fewestFor_L6, sh_X2_size, Option.bind_some, zkr_t, if_neg, ab_few]
  | succ m ih =>
    intro N q s hq hN
    obtain ⟨N, rfl⟩ : ∃ M, N = M + 1 := ⟨N - 1, by omega⟩
    have hqn : q < h * w := by omega
    have e1 := c_distance F h w p q size ro co ne nc G hp hqn
    have e2 := R.left (F := F) hF hn hqn
    have e3 := R.hangs (F := F) hn hqn
    have hl := ab_left_rng (W.1 q hqn).1
    have hnd := ab_need_rng W (by have := G.2.2.2.1; omega) hn hb hk hp hqn
    have en : dr p + k - lim * ((gz_dist w p q : Nat) : Int) - dr q = ab_need w a p k q := by
      unfold ab_need
      rw [(R.1 p hp).2.2.1, (R.1 q hqn).2.2.1, R.2.2.1]
    simp (disch := omega) only [sh_X0_fewestFor_L6, sh_X2_size, Option.bind_some, zkr_t, zkx_t, if_pos, e1, ix_n, en, nc_s]
    rw [ab_few]
    have A := fun s => ih N (q + 1) s (by omega) (by omega)
    by_cases c1 : 0 < ab_need w a p k q
    · rw [if_pos c1, if_pos c1, e3, Option.bind_some]
      by_cases c2 : ab_hg a q = true
      · rw [if_pos (Or.inl c2), if_pos c2]
        simp (disch := omega) only [zkr_t, if_neg]
      · rw [if_neg c2, e2, Option.bind_some, zkr_t (by omega) (by omega), zkr_t (by omega) (by omega), if_pos rfl]
        by_cases c3 : ab_left (ab_col a q) < ab_need w a p k q
        · rw [if_pos c3, if_pos (Or.inr c3)]
        · rw [if_neg c3, if_neg (fun z => z.elim c2 c3)]
          exact A _
    · rw [if_neg c1, if_neg c1]
      exact A _
theorem Rc.few {F h w : Nat} {size : Int} {ro co ne nc : Nat → Int} {bk gr ht dr : Nat → Int} {lim hs bs gs b : Int} {a : zAb} (hF : 5000 ≤ F) (G : gz_ok h w size ro co ne nc) (R : Rc (h * w) bk gr ht dr lim hs bs gs a) (W : ab_wf (h * w) w b a) (hb : b ≤ 200000) {p : Nat} (hp : p < h * w) {k : Int} (hk : 0 ≤ k ∧ k ≤ 60) : sh_X0_fewestFor F lim hs bk ht dr size ro co (p : Int) k = some (ab_fewest (h * w) w a p k) := by
  have hn := gz_n16 G.2.1 G.2.2.2.1
  unfold sh_X0_fewestFor ab_fewest
  exact c_few_L (by omega) G R W hb hp hk (h * w) F 0 0 (by omega) (by omega)
def ab_most (n w : Nat) (a : zAb) (p : Nat) : Nat → Nat → Int
  | 0, k => (k : Int)
  | m + 1, k => if ab_fewest n w a p ((k + 1 : Nat) : Int) = -9 then (k : Int) else ab_most n w a p m (k + 1)
theorem c_most_L {F h w : Nat} {size : Int} {ro co ne nc : Nat → Int} {bk gr ht dr : Nat → Int} {lim hs bs gs b : Int} {a : zAb} (hF : 5000 ≤ F) (G : gz_ok h w size ro co ne nc) (R : Rc (h * w) bk gr ht dr lim hs bs gs a) (W : ab_wf (h * w) w b a) (hb : b ≤ 200000) {p : Nat} (hp : p < h * w) : ∀ (m N k : Nat), k + m = 54 → m < N → sh_X0_mostFeasible_L2 F (p : Int) lim hs bk ht dr size ro co (fun _ => some 54) N ((k + 1 : Nat) : Int) = some (ab_most (h * w) w a p m k) := by
  have hn := gz_n16 G.2.1 G.2.2.2.1
  intro m
  induction m with
  | zero =>
    intro N k hk hN
    obtain ⟨N, rfl⟩ : ∃ M, N = M + 1 := ⟨N - 1, by omega⟩
    simp (disch := omega) only [sh_X0_mostFeasible_L2, zkr_t, if_pos, ab_most]
    refine congrArg some ?_
    omega
  | succ m ih =>
    intro N k hk hN
    obtain ⟨N, rfl⟩ : ∃ M, N = M + 1 := ⟨N - 1, by omega⟩
    have e := R.few hF G W hb hp (k := ((k + 1 : Nat) : Int)) (by omega)
    have rg := ab_fewest_rng W (by have := G.2.2.2.1; omega) hn hp (k := ((k + 1 : Nat) : Int))
    rw [sh_X0_mostFeasible_L2, zkr_t (by omega) (by omega), if_neg (by omega), e, Option.bind_some, zkr_t (by omega) (by omega), ab_most]
    by_cases c : ab_fewest (h * w) w a p ((k + 1 : Nat) : Int) = -9
    · rw [if_pos c, if_pos c]
      refine congrArg some ?_
      omega
    · rw [if_neg c, if_neg c]
      exact ih N (k + 1) (by omega) (by omega)
theorem Rc.most {F h w : Nat} {size : Int} {ro co ne nc : Nat → Int} {bk gr ht dr : Nat → Int} {lim hs bs gs b : Int} {a : zAb} (hF : 5000 ≤ F) (G : gz_ok h w size ro co ne nc) (R : Rc (h * w) bk gr ht dr lim hs bs gs a) (W : ab_wf (h * w) w b a) (hb : b ≤ 200000) {p : Nat} (hp : p < h * w) : sh_X0_mostFeasible F lim hs bk ht dr size ro co (p : Int) = some (ab_most (h * w) w a p 54 0) := by
  unfold sh_X0_mostFeasible
  exact c_most_L hF G R W hb hp 54 F 0 (by omega) (by omega)
theorem ab_few55 {n w : Nat} {b : Int} {a : zAb} (W : ab_wf n w b a) {p : Nat} (hp : p < n) : ∀ (m q : Nat) (s : Int), q + m = n → q ≤ p → ab_few w a p 55 m q s = -9
  | 0, q, s, h, hq => by omega
  | m + 1, q, s, h, hq => by
    rw [ab_few]
    by_cases e : q = p
    · subst e
      have hl := ab_left_rng (W.1 q hp).1
      have : ab_need w a q 55 q = 55 := by unfold ab_need; rw [gz_self, Int.natCast_zero, Int.mul_zero]; omega
      rw [this, if_pos (by decide), if_pos (Or.inr (by omega))]
    · split
      · split
        · rfl
        · exact ab_few55 W hp m (q + 1) _ (by omega) (by omega)
      · exact ab_few55 W hp m (q + 1) _ (by omega) (by omega)
theorem ab_fewest55 {n w : Nat} {b : Int} {a : zAb} (W : ab_wf n w b a) {p : Nat} (hp : p < n) : ab_fewest n w a p 55 = -9 := ab_few55 W hp n 0 0 (by omega) (by omega)
