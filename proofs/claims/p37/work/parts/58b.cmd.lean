/-! COMMANDS of scripts; rounds of a simulation -/
def ab_flip (a : zAb) (p : Nat) : zAb := (ab_col a, ab_dr a, fun q => if q = p then !(ab_hg a q) else ab_hg a q, ab_lim a, ab_bs a, ab_gs a)
theorem ab_flip_wf {n w : Nat} {b : Int} {a : zAb} (W : ab_wf n w b a) (p : Nat) : ab_wf n w b (ab_flip a p) := W
theorem Rc.flip {F n : Nat} {bk gr ht dr : Nat → Int} {lim hs bs gs : Int} {a : zAb} (R : Rc n bk gr ht dr lim hs bs gs a) (hn : n ≤ 16) {p : Nat} (hp : p < n) : ∃ hs', sh_X0_turnHung F hs (p : Int) = some hs' ∧ Rc n bk gr ht dr lim hs' bs gs (ab_flip a p) := by
  have h1 := R.2.1
  have h16 : hs.toNat < 2 ^ 16 := Nat.lt_of_lt_of_le h1.2 (Nat.pow_le_pow_right (by decide) hn)
  have e := c_turnHung F hs.toNat p h16 (by omega)
  rw [show ((hs.toNat : Nat) : Int) = hs by omega] at e
  refine ⟨_, e, fun q hq => ?_, ⟨by omega, ?_⟩, R.2.2⟩
  · have r := R.1 q hq
    refine ⟨r.1, r.2.1, r.2.2.1, ?_⟩
    rw [Int.toNat_natCast, bi_flip, r.2.2.2]
    rfl
  · rw [Int.toNat_natCast]
    exact Nat.xor_lt_two_pow h1.2 (Nat.pow_lt_pow_right (by decide) hp)
def ab_many (n w p : Nat) : Nat → zAb → Option zAb
  | 0, a => some a
  | m + 1, a => if 0 < ab_slack n w a p then ab_many n w p m (ab_take a p) else none
theorem ab_many_wf {n w p : Nat} (hp : p < n) : ∀ (m : Nat) (b : Int) (a a' : zAb), ab_wf n w b a → ab_many n w p m a = some a' → ab_wf n w (b + m) a'
  | 0, b, a, a', W, h => by
    rw [ab_many] at h
    injection h with h
    subst h
    exact W.mono (by omega)
  | m + 1, b, a, a', W, h => by
    rw [ab_many] at h
    split at h
    · rename_i hs
      exact (ab_many_wf hp m (b + 1) _ a' (ab_take_wf W hp hs) h).mono (by omega)
    · cases h
theorem c_many_L {F h w P : Nat} {size : Int} {ro co ne nc : Nat → Int} {lim hs : Int} (hP : P ≤ 9) (hF : 20 ≤ F) (G : gz_ok h w size ro co ne nc) {p : Nat} (hp : p < h * w) : ∀ (m N i : Nat) (bk gr ht dr : Nat → Int) (bs gs b : Int) (a : zAb), Rc (h * w) bk gr ht dr lim hs bs gs a → ab_wf (h * w) w b a → b + m ≤ 200000 → i + m = P → m < N → ∃ r bs' gs' bk' gr' ht' dr', sh_X5_drawsAll_L3 F (p : Int) (P : Int) ne nc lim hs (fun _ v24 v25 (v26 : Nat → Int) (v27 : Nat → Int) (v28 : Nat → Int) (v29 : Nat → Int) => zkr (P : Int) (if (0 : Int) < (P : Int) then some ((1 : Int), v24, v25, v26, v27, v28, v29) else some ((0 : Int), v24, v25, v26, v27, v28, v29))) N (i : Int) bs gs bk gr ht dr = some (r, bs', gs', bk', gr', ht', dr') ∧ match (if 0 < P then ab_many (h * w) w p m a else none) with
    | some a' => r = 1 ∧ Rc (h * w) bk' gr' ht' dr' lim hs bs' gs' a'
    | none => r = 0 := by
  have hn := gz_n16 G.2.1 G.2.2.2.1
  intro m
  induction m with
  | zero =>
    intro N i bk gr ht dr bs gs b a R W hb hi hN
    obtain ⟨N, rfl⟩ : ∃ M, N = M + 1 := ⟨N - 1, by omega⟩
    rw [sh_X5_drawsAll_L3, zkr_t (by omega) (by omega), zkr_t (by omega) (by omega), if_neg (by omega)]
    by_cases c : 0 < P
    · refine ⟨1, bs, gs, bk, gr, ht, dr, ?_, ?_⟩
      · rw [zkr_t (by omega) (by omega), if_pos (by omega)]
      · rw [if_pos c, ab_many]
        exact ⟨rfl, R⟩
    · refine ⟨0, bs, gs, bk, gr, ht, dr, ?_, ?_⟩
      · rw [zkr_t (by omega) (by omega), if_neg (by omega)]
      · rw [if_neg c]
  | succ m ih =>
    intro N i bk gr ht dr bs gs b a R W hb hi hN
    obtain ⟨N, rfl⟩ : ∃ M, N = M + 1 := ⟨N - 1, by omega⟩
    have e1 := R.ready hF G W (by omega) hp
    rw [sh_X5_drawsAll_L3, zkr_t (by omega) (by omega), zkr_t (by omega) (by omega), if_pos (by omega), e1, Option.bind_some, if_pos (show 0 < P by omega), ab_many]
    by_cases hc : 0 < ab_slack (h * w) w a p
    · rw [if_pos hc, if_pos hc, zkr_t (by omega) (by omega), if_neg (by omega)]
      have hne := (ab_slack_pos W hp hc).2.1
      obtain ⟨bs1, gs1, bk1, gr1, ht1, dr1, u1, u2⟩ := R.take (F := F) W hn hp hne
      rw [u1, Option.bind_some]
      obtain ⟨r, bs2, gs2, bk2, gr2, ht2, dr2, x1, x2⟩ := ih N (i + 1) bk1 gr1 ht1 dr1 bs1 gs1 (b + 1) _ u2 (ab_take_wf W hp hc) (by omega) (by omega) (by omega)
      rw [if_pos (by omega)] at x2
      exact ⟨r, bs2, gs2, bk2, gr2, ht2, dr2, x1, x2⟩
    · rw [if_neg hc, if_neg hc, zkr_t (by omega) (by omega), if_pos rfl]
      exact ⟨0, bs, gs, bk, gr, ht, dr, rfl, rfl⟩