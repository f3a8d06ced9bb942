/-! A NEW BOUND; the points that block; buckets to waste -/
def ab_fitp (n w : Nat) (a : zAb) (b : Int) (p : Nat) : Bool := (gz_nb n w p).all (fun q => decide (ab_dr a p - ab_dr a q ≤ b))
def ab_fits (n w : Nat) (a : zAb) (b : Int) : Bool := (List.range' 0 n).all (ab_fitp n w a b)
theorem c_fits_L {F h w : Nat} {size : Int} {ro co ne nc : Nat → Int} {bk gr ht dr : Nat → Int} {lim hs bs gs b l2 : Int} {a : zAb} (hF : 20 ≤ F) (G : gz_ok h w size ro co ne nc) (R : Rc (h * w) bk gr ht dr lim hs bs gs a) (W : ab_wf (h * w) w b a) (hb : b ≤ 200000) (hl : 0 ≤ l2 ∧ l2 ≤ 9) : ∀ (m N p : Nat), p + m = h * w → m < N → sh_X0_fits_L2 F l2 dr size ne nc (fun _ => some 1) N (p : Int) = some (if (List.range' p m).all (ab_fitp (h * w) w a l2) then 1 else 0) := by
  have hn := gz_n16 G.2.1 G.2.2.2.1
  have hsz := G.2.2.2.2.1
  intro m
  induction m with
  | zero =>
    intro N p hp hN
    obtain ⟨N, rfl⟩ : ∃ M, N = M + 1 := ⟨N - 1, by omega⟩
    simp (disch := omega) only [sh_X0_fits_L2, sh_X2_size, Option.bind_some, zkr_t, if_neg, List.range'_zero, List.all_nil, if_true]
  | succ m ih =>
    intro N p hp hN
    obtain ⟨N, rfl⟩ : ∃ M, N = M + 1 := ⟨N - 1, by omega⟩
    have hpn : p < h * w := by omega
    have e := R.room (F := F) hF G W hb hpn hl
    have hr := gz_min_rng (lo := -1000000) (hi := 2147483647) (f := fun q => l2 + ab_dr a q - ab_dr a p) (gz_nb (h * w) w p) 54 (by decide) (fun q hq => by
      have h1 := W.1 q (gz_nb_mem.mp hq).1; have h2 := W.1 p hpn; omega)
    have i := ih N (p + 1) (by omega) (by omega)
    rw [List.range'_succ, List.all_cons]
    simp (disch := omega) only [sh_X0_fits_L2, sh_X2_size, Option.bind_some, zkr_t, if_pos, e, nc_s]
    have key := gz_min_lt (b := 0) (f := fun q => l2 + ab_dr a q - ab_dr a p) (gz_nb (h * w) w p) 54
    by_cases c : gz_min 54 (fun q => l2 + ab_dr a q - ab_dr a p) (gz_nb (h * w) w p) < 0
    · rw [if_pos c]
      rcases key.mp c with z | ⟨q, hq, z⟩
      · exact absurd z (by decide)
      · have : ab_fitp (h * w) w a l2 p = false := by
          unfold ab_fitp
          rw [List.all_eq_false]
          exact ⟨q, hq, by rw [decide_eq_true_eq]; omega⟩
        rw [this, Bool.false_and, if_neg (by decide)]
    · rw [if_neg c]
      have : ab_fitp (h * w) w a l2 p = true := by
        unfold ab_fitp
        rw [List.all_eq_true]
        intro q hq
        rw [decide_eq_true_eq]
        by_cases z : l2 + ab_dr a q - ab_dr a p < 0
        · exact absurd (key.mpr (Or.inr ⟨q, hq, z⟩)) c
        · omega
      rw [this, Bool.true_and]
      exact i
theorem Rc.fits {F h w : Nat} {size : Int} {ro co ne nc : Nat → Int} {bk gr ht dr : Nat → Int} {lim hs bs gs b l2 : Int} {a : zAb} (hF : 20 ≤ F) (G : gz_ok h w size ro co ne nc) (R : Rc (h * w) bk gr ht dr lim hs bs gs a) (W : ab_wf (h * w) w b a) (hb : b ≤ 200000) (hl : 0 ≤ l2 ∧ l2 ≤ 9) : sh_X0_fits F dr size ne nc l2 = some (if ab_fits (h * w) w a l2 then 1 else 0) := by
  have hn := gz_n16 G.2.1 G.2.2.2.1
  unfold sh_X0_fits ab_fits
  exact c_fits_L hF G R W hb hl (h * w) F 0 (by omega) (by omega)
def ab_blk (c : Nat → Bool) : List Nat → Nat → Nat
  | [], s => s
  | q :: l, s => ab_blk c l (if c q then s ||| 2 ^ q else s)
theorem ab_blk_lt (c : Nat → Bool) : ∀ (l : List Nat) (s : Nat), (∀ q ∈ l, q < 16) → s < 2 ^ 16 → ab_blk c l s < 2 ^ 16
  | [], _, _, hs => hs
  | q :: l, s, hl, hs => by
    rw [ab_blk]
    refine ab_blk_lt c l _ (fun x hx => hl x (List.mem_cons_of_mem _ hx)) ?_
    split
    · exact Nat.or_lt_two_pow hs (Nat.pow_lt_pow_right (by decide) (hl q List.mem_cons_self))
    · exact hs
def ab_bc (a : zAb) (p q : Nat) : Bool := decide (ab_lim a < ab_dr a p + 1 - ab_dr a q)
def ab_blockers (n w : Nat) (a : zAb) (p : Nat) : Int := ((ab_blk (ab_bc a p) (gz_nb n w p) 0 : Nat) : Int)
theorem bi_set {s q : Nat} (hs : s < 2 ^ 16) (hq : q < 16) : zor (s : Int) (zshl (1 : Int) (q : Int)) = ((s ||| 2 ^ q : Nat) : Int) ∧ s ||| 2 ^ q < 2 ^ 16 := by
  rw [bi_shl q hq, bi_or (Nat.lt_trans hs (by decide)) (bi_p31 hq)]
  exact ⟨rfl, Nat.or_lt_two_pow hs (Nat.pow_lt_pow_right (by decide) hq)⟩
theorem bi_set0 {s : Nat} (hs : s < 2 ^ 16) : zor (s : Int) (0 : Int) = (s : Int) := by
  have h : zor (s : Int) ((0 : Nat) : Int) = ((s ||| 0 : Nat) : Int) := bi_or (Nat.lt_trans hs (by decide)) (by decide)
  rw [Nat.or_zero] at h
  exact h
theorem c_blk_L {F h w : Nat} {size : Int} {ro co ne nc : Nat → Int} {bk gr ht dr : Nat → Int} {lim hs bs gs b : Int} {a : zAb} (G : gz_ok h w size ro co ne nc) (R : Rc (h * w) bk gr ht dr lim hs bs gs a) (W : ab_wf (h * w) w b a) (hb : b ≤ 200000) {p : Nat} (hp : p < h * w) : ∀ (m N i s : Nat), i + m = (gz_nb (h * w) w p).length → m < N → s < 2 ^ 16 → sh_X0_blockersOf_L5 F (p : Int) lim dr ne nc (fun v15 _ => some v15) N (s : Int) (i : Int) = some ((ab_blk (ab_bc a p) ((gz_nb (h * w) w p).drop i) s : Nat) : Int) := by
  have G' := G
  obtain ⟨h1, h2, h3, h4, -, G⟩ := G
  have hn := gz_n16 h2 h4
  have gp := G p hp
  have hl4 := gz_len4 h (by omega) w (by omega) h1 h3 p hp
  have hlim := W.2.2.1
  intro m
  induction m with
  | zero =>
    intro N i s hi hN hs
    obtain ⟨N, rfl⟩ : ∃ M, N = M + 1 := ⟨N - 1, by omega⟩
    have : i = (gz_nb (h * w) w p).length := by omega
    subst this
    rw [List.drop_length]
    simp (disch := omega) only [sh_X0_blockersOf_L5, sh_X2_degree, Option.bind_some, ix_n, gp.2.2.1, zkx_t, zkr_t, if_neg, ab_blk]
  | succ m ih =>
    intro N i s hi hN hs
    obtain ⟨N, rfl⟩ : ∃ M, N = M + 1 := ⟨N - 1, by omega⟩
    have hi' : i < (gz_nb (h * w) w p).length := by omega
    have hne := gp.2.2.2 i hi'
    have hq : (gz_nb (h * w) w p)[i] < h * w := (gz_nb_mem.mp (List.getElem_mem hi')).1
    rw [List.drop_eq_getElem_cons hi', ab_blk]
    generalize (gz_nb (h * w) w p)[i] = q at *
    have e1 := (R.1 p hp).2.2.1
    have e2 := (R.1 q hq).2.2.1
    have e3 := R.2.2.1
    have w1 := W.1 p hp
    have w2 := W.1 q hq
    obtain ⟨s1, s2⟩ := bi_set hs (q := q) (by omega)
    simp (disch := omega) only [sh_X0_blockersOf_L5, sh_X2_degree, sh_X2_neighbour, Option.bind_some, ix_n, gp.2.2.1, zkx_t, zkr_t, if_pos, ix_4, hne, e1, e2, e3, nc_s, s1]
    by_cases c : ab_lim a < ab_dr a p + 1 - ab_dr a q
    · rw [if_pos c, show ab_bc a p q = true from decide_eq_true c, if_pos rfl, ← e3]
      exact ih N (i + 1) _ (by omega) (by omega) s2
    · rw [if_neg c, show ab_bc a p q = false from decide_eq_false c, if_neg (by decide), ← e3]
      exact ih N (i + 1) _ (by omega) (by omega) hs
theorem Rc.blockers {F h w : Nat} {size : Int} {ro co ne nc : Nat → Int} {bk gr ht dr : Nat → Int} {lim hs bs gs b : Int} {a : zAb} (hF : 20 ≤ F) (G : gz_ok h w size ro co ne nc) (R : Rc (h * w) bk gr ht dr lim hs bs gs a) (W : ab_wf (h * w) w b a) (hb : b ≤ 200000) {p : Nat} (hp : p < h * w) : sh_X0_blockersOf F lim dr ne nc (p : Int) = some (ab_blockers (h * w) w a p) := by
  have hl4 := gz_len4 h (by have := G.2.1; omega) w (by have := G.2.2.2.1; omega) G.1 G.2.2.1 p hp
  unfold sh_X0_blockersOf ab_blockers
  exact c_blk_L G R W hb hp (gz_nb (h * w) w p).length F 0 0 (by omega) (by omega) (by decide)
def ab_fw (G : Int → Int) (g : Int) : Nat → Int → Int
  | 0, _ => -9
  | m + 1, i => if G i < g then i else ab_fw G g m (i + 1)
theorem ab_fw_skip (G : Int → Int) (g : Int) : ∀ (x m : Nat) (i : Int), (∀ j : Nat, j < x → ¬ G (i + j) < g) → ab_fw G g (x + m) i = ab_fw G g m (i + x)
  | 0, m, i, _ => by rw [Nat.zero_add]; simp
  | x + 1, m, i, h => by
    have h0 := h 0 (by omega)
    rw [show x + 1 + m = (x + m) + 1 by omega, ab_fw]
    rw [show i + ((0 : Nat) : Int) = i by omega] at h0
    rw [if_neg h0, ab_fw_skip G g x m (i + 1) (fun j hj => by
      have := h (j + 1) (by omega)
      rw [show i + 1 + (j : Int) = i + ((j + 1 : Nat) : Int) by omega]; exact this)]
    rw [show i + 1 + (x : Int) = i + ((x + 1 : Nat) : Int) by omega]
theorem ab_fw_waste (G : Int → Int) (g : Int) : ∀ (l : zSl) (v : Int), (∀ x ∈ l, 1 ≤ x.1 ∧ x.1 ≤ 9 ∧ 0 ≤ x.2 ∧ x.2 ≤ 9) → (∀ j : Int, 0 ≤ j → G (v + j) = ab_grade l j) → ab_fw G g (ab_left l).toNat v = ab_waste l g v
  | [], v, _, _ => rfl
  | x :: l, v, hl, hG => by
    have hx := hl x List.mem_cons_self
    have hL := ab_left_le (l := l) (fun y hy => hl y (List.mem_cons_of_mem _ hy))
    rw [ab_left, ab_waste, show (x.1 + ab_left l).toNat = x.1.toNat + (ab_left l).toNat by omega]
    have g0 := hG 0 (by decide)
    rw [ab_grade, if_pos (by omega), Int.add_zero] at g0
    by_cases c : x.2 < g
    · rw [if_pos c, show x.1.toNat + (ab_left l).toNat = (x.1.toNat - 1 + (ab_left l).toNat) + 1 by omega, ab_fw, g0, if_pos c]
    · rw [if_neg c, ab_fw_skip G g x.1.toNat _ v (fun j hj => by
        rw [hG j (by omega), ab_grade, if_pos (by omega)]; exact c)]
      rw [show v + ((x.1.toNat : Nat) : Int) = v + x.1 by omega]
      refine ab_fw_waste G g l (v + x.1) (fun y hy => hl y (List.mem_cons_of_mem _ hy)) (fun j hj => ?_)
      rw [Int.add_assoc, hG (x.1 + j) (by omega), ab_grade, if_neg (by omega)]
      congr 1
      omega