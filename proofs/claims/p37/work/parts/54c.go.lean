/-! DRAWING BY ORDER -/
def ab_go (n w : Nat) : Nat → zAb → Int × zAb
  | 0, a => (0, a)
  | m + 1, a => if ab_next n w a = -9 then (0, a) else ((ab_go n w m (ab_take a (ab_next n w a).toNat)).1 + 1, (ab_go n w m (ab_take a (ab_next n w a).toNat)).2)
theorem ab_next_take {n w : Nat} {b : Int} {a : zAb} (W : ab_wf n w b a) (h : ab_next n w a ≠ -9) : (ab_next n w a).toNat < n ∧ ab_next n w a = (((ab_next n w a).toNat : Nat) : Int) ∧ ab_col a (ab_next n w a).toNat ≠ [] ∧ ab_wf n w (b + 1) (ab_take a (ab_next n w a).toNat) := by
  rcases ab_next_rng n w a with h1 | ⟨p, h1, h2, h3⟩
  · exact absurd h1 h
  · have e : (ab_next n w a).toNat = p := by omega
    rw [e]
    exact ⟨h1, h2, (ab_slack_pos W h1 h3).2.1, ab_take_wf W h1 h3⟩
theorem ab_go_rng {n w : Nat} : ∀ (m : Nat) (b : Int) (a : zAb), ab_wf n w b a → (0 ≤ (ab_go n w m a).1 ∧ (ab_go n w m a).1 ≤ (m : Int)) ∧ ab_wf n w (b + m) (ab_go n w m a).2
  | 0, b, a, W => ⟨⟨Int.le_refl _, Int.le_refl _⟩, W.mono (by omega)⟩
  | m + 1, b, a, W => by
    rw [ab_go]
    by_cases h : ab_next n w a = -9
    · rw [if_pos h]; exact ⟨⟨Int.le_refl _, by show (0:Int) ≤ _; omega⟩, W.mono (by omega)⟩
    · rw [if_neg h]
      have t := ab_next_take W h
      have g := ab_go_rng m (b + 1) _ t.2.2.2
      exact ⟨by show 0 ≤ _ + (1:Int) ∧ _ + (1:Int) ≤ _; omega, g.2.mono (by omega)⟩
theorem c_go_L {F h w : Nat} {size : Int} {ro co ne nc : Nat → Int} {lim hs : Int} (P : Nat) (hP : P ≤ 1000) (hF : 20 ≤ F) (G : gz_ok h w size ro co ne nc) : ∀ (m N i : Nat) (bk gr ht dr : Nat → Int) (bs gs b : Int) (a : zAb), Rc (h * w) bk gr ht dr lim hs bs gs a → ab_wf (h * w) w b a → b + m ≤ 200000 → i + m = P → m < N → ∃ bs' gs' bk' gr' ht' dr', sh_X0_takeByOrder_L2 F (P : Int) lim hs size ne nc (fun v23 v24 v25 (v26 : Nat → Int) (v27 : Nat → Int) (v28 : Nat → Int) (v29 : Nat → Int) => some ((P : Int), v24, v25, v26, v27, v28, v29)) N (i : Int) bs gs bk gr ht dr = some ((i : Int) + (ab_go (h * w) w m a).1, bs', gs', bk', gr', ht', dr') ∧ Rc (h * w) bk' gr' ht' dr' lim hs bs' gs' (ab_go (h * w) w m a).2 := by
  have hn := gz_n16 G.2.1 G.2.2.2.1
  intro m
  induction m with
  | zero =>
    intro N i bk gr ht dr bs gs b a R W hb hi hN
    obtain ⟨N, rfl⟩ : ∃ M, N = M + 1 := ⟨N - 1, by omega⟩
    have : i = P := by omega
    subst this
    simp (disch := omega) only [sh_X0_takeByOrder_L2, zkr_t, if_neg, ab_go, Int.add_zero]
    exact ⟨_, _, _, _, _, _, rfl, R⟩
  | succ m ih =>
    intro N i bk gr ht dr bs gs b a R W hb hi hN
    obtain ⟨N, rfl⟩ : ∃ M, N = M + 1 := ⟨N - 1, by omega⟩
    have e1 := R.next hF G W (by omega)
    have rg := ab_next_rng (h * w) w a
    have rg2 : -9 ≤ ab_next (h * w) w a ∧ ab_next (h * w) w a ≤ 16 := by rcases rg with z | ⟨p, z1, z2, -⟩ <;> omega
    simp (disch := omega) only [sh_X0_takeByOrder_L2, zkr_t, if_pos, e1, Option.bind_some, ab_go]
    by_cases hc : ab_next (h * w) w a = -9
    · rw [if_pos hc, if_pos hc]
      refine ⟨_, _, _, _, _, _, ?_, R⟩
      simp only [Int.add_zero]
    · rw [if_neg hc, if_neg hc]
      obtain ⟨t1, t2, t3, t4⟩ := ab_next_take W hc
      obtain ⟨bs1, gs1, bk1, gr1, ht1, dr1, u1, u2⟩ := R.take (F := F) W hn t1 t3
      rw [← t2] at u1
      rw [u1, Option.bind_some]
      obtain ⟨bs2, gs2, bk2, gr2, ht2, dr2, x1, x2⟩ := ih N (i + 1) bk1 gr1 ht1 dr1 bs1 gs1 (b + 1) _ u2 t4 (by omega) (by omega) (by omega)
      refine ⟨bs2, gs2, bk2, gr2, ht2, dr2, ?_, x2⟩
      rw [nc_s]
      dsimp only
      rw [x1]
      refine congrArg some (congrArg (·, _) ?_)
      omega
theorem Rc.go {F h w : Nat} {size : Int} {ro co ne nc : Nat → Int} {bk gr ht dr : Nat → Int} {lim hs bs gs b : Int} {a : zAb} (hF : 5000 ≤ F) (G : gz_ok h w size ro co ne nc) (R : Rc (h * w) bk gr ht dr lim hs bs gs a) (W : ab_wf (h * w) w b a) (P : Nat) (hP : P ≤ 1000) (hb : b + P ≤ 200000) : ∃ bs' gs' bk' gr' ht' dr', sh_X0_takeByOrder F lim hs bs gs bk gr ht dr size ne nc (P : Int) = some ((ab_go (h * w) w P a).1, bs', gs', bk', gr', ht', dr') ∧ Rc (h * w) bk' gr' ht' dr' lim hs bs' gs' (ab_go (h * w) w P a).2 := by
  obtain ⟨bs', gs', bk', gr', ht', dr', x1, x2⟩ := c_go_L (F := F) P hP (by omega) G P F 0 bk gr ht dr bs gs b a R W hb (by omega) (by omega)
  refine ⟨bs', gs', bk', gr', ht', dr', ?_, x2⟩
  unfold sh_X0_takeByOrder
  have e : ((0 : Nat) : Int) + (ab_go (h * w) w P a).1 = (ab_go (h * w) w P a).1 := by omega
  rw [e] at x1
  exact x1