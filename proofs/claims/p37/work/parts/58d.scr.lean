/-! SCRIPTS and SIMULATIONS -/
def sc_d (x n i : Nat) : Nat := x / 10000 ^ (n - 1 - i) % 10000
def ab_scr (n w x n0 : Nat) : Nat → Nat → zAb → Int
  | 0, _, _ => -9
  | m + 1, i, a => match ab_cmd n w a (sc_d x n0 i) with
    | some a' => ab_scr n w x n0 m (i + 1) a'
    | none => (i : Int)
theorem ab_scr_rng {n w x n0 : Nat} : ∀ (m i : Nat) (a : zAb), i + m ≤ 4 → -9 ≤ ab_scr n w x n0 m i a ∧ ab_scr n w x n0 m i a ≤ 4
  | 0, _, _, _ => ⟨by rw [ab_scr]; decide, by rw [ab_scr]; decide⟩
  | m + 1, i, a, h => by
    rw [ab_scr]
    split
    · exact ab_scr_rng m (i + 1) _ (by omega)
    · omega
theorem c_scr_L {F h w x n0 : Nat} {size : Int} {ro co ne nc : Nat → Int} {lim : Int} {v : Nat → Int} (hF : 5000 ≤ F) (G : gz_ok h w size ro co ne nc) (hn0 : n0 ≤ 4) (hv : ∀ t, t < n0 → v t = ((sc_d x n0 t : Nat) : Int)) : ∀ (m N i : Nat) (bk gr ht dr : Nat → Int) (hs bs gs b : Int) (a : zAb), Rc (h * w) bk gr ht dr lim hs bs gs a → ab_wf (h * w) w b a → b + 100 * m ≤ 200000 → i + m = n0 → m < N → ∃ hs' bs' gs' bk' gr' ht' dr', sh_X5_firstFailure_L2 F size ne nc lim (n0 : Int) v (fun _ v28 v29 v30 (v31 : Nat → Int) (v32 : Nat → Int) (v33 : Nat → Int) (v34 : Nat → Int) => some (-9, v28, v29, v30, v31, v32, v33, v34)) N (i : Int) hs bs gs bk gr ht dr = some (ab_scr (h * w) w x n0 m i a, hs', bs', gs', bk', gr', ht', dr') := by
  intro m
  induction m with
  | zero =>
    intro N i bk gr ht dr hs bs gs b a R W hb hi hN
    obtain ⟨N, rfl⟩ : ∃ M, N = M + 1 := ⟨N - 1, by omega⟩
    simp (disch := omega) only [sh_X5_firstFailure_L2, sh_X3_count, Option.bind_some, zkr_t, if_neg, ab_scr]
    exact ⟨_, _, _, _, _, _, _, rfl⟩
  | succ m ih =>
    intro N i bk gr ht dr hs bs gs b a R W hb hi hN
    obtain ⟨N, rfl⟩ : ∃ M, N = M + 1 := ⟨N - 1, by omega⟩
    have e2 := c_get (F := F) (v := v) (n := n0) (by omega) (i := i) (by omega)
    rw [hv i (by omega)] at e2
    have hc : sc_d x n0 i < 10000 := Nat.mod_lt _ (by decide)
    obtain ⟨r, hs1, bs1, gs1, bk1, gr1, ht1, dr1, u1, u2⟩ := c_cmd hF G R W (by omega) hc
    simp (disch := omega) only [sh_X5_firstFailure_L2, sh_X3_count, Option.bind_some, zkr_t, if_pos, e2, u1]
    rw [ab_scr]
    cases hA : ab_cmd (h * w) w a (sc_d x n0 i) with
    | none =>
      rw [hA] at u2
      dsimp only at u2
      rw [zkr_t (by omega) (by omega), if_pos u2]
      exact ⟨_, _, _, _, _, _, _, rfl⟩
    | some a' =>
      rw [hA] at u2
      dsimp only at u2
      rw [zkr_t (by omega) (by omega), if_neg (by omega), nc_s]
      exact ih N (i + 1) bk1 gr1 ht1 dr1 hs1 bs1 gs1 (b + 100) a' u2.2 (ab_cmd_wf W hA) (by omega) (by omega) (by omega)
theorem p4 (k : Nat) : 10 ^ (4 * k) = 10000 ^ k := by rw [Nat.pow_mul]
theorem lu_rng (x : Int) : ∃ r : Nat, zlushr x (33 : Int) = (r : Int) ∧ r < 2147483648 := by
  have hs : (((zi 33).toInt64.toUInt64 &&& Int64.toUInt64 63).toBitVec % 64).toNat = 33 := by decide
  have h1 : ((zl x).toUInt64 >>> ((zi 33).toInt64.toUInt64 &&& Int64.toUInt64 63)).toNat = (zl x).toUInt64.toNat / 2 ^ 33 := by
    have e : ((zi 33).toInt64.toUInt64 &&& Int64.toUInt64 63) = 33 := by decide
    rw [e, UInt64.toNat_shiftRight, Nat.shiftRight_eq_div_pow]
    rfl
  have h2 := (zl x).toUInt64.toNat_lt
  refine ⟨(zl x).toUInt64.toNat / 2 ^ 33, ?_, by omega⟩
  unfold zlushr
  rw [← h1]
  generalize hU : ((zl x).toUInt64 >>> ((zi 33).toInt64.toUInt64 &&& Int64.toUInt64 63)) = U at *
  show (UInt64.toInt64 U).toBitVec.toInt = _
  show U.toBitVec.toInt = _
  rw [BitVec.toInt_eq_toNat_of_lt (by show 2 * U.toNat < 2 ^ 64; omega)]
  rfl
def ab_rnd (n w : Nat) (a : zAb) (r : Nat) : zAb := (ab_go n w 1 (if r % 4 = 0 then ab_flip a (r / 4 % n) else a)).2
theorem ab_rnd_wf {n w : Nat} {b : Int} {a : zAb} (W : ab_wf n w b a) (r : Nat) : ab_wf n w (b + 1) (ab_rnd n w a r) := by
  unfold ab_rnd
  split
  · exact (ab_go_rng 1 b _ (ab_flip_wf W _)).2
  · exact (ab_go_rng 1 b _ W).2
theorem c_rnd {F h w : Nat} {size : Int} {ro co ne nc : Nat → Int} {bk gr ht dr : Nat → Int} {lim hs bs gs b : Int} {a : zAb} (hF : 5000 ≤ F) (G : gz_ok h w size ro co ne nc) (R : Rc (h * w) bk gr ht dr lim hs bs gs a) (W : ab_wf (h * w) w b a) (hb : b + 1 ≤ 200000) {r : Nat} (hr : r < 2147483648) : ∃ hs' bs' gs' bk' gr' ht' dr', sh_X0_playRound F lim hs bs gs bk gr ht dr size ne nc (r : Int) = some (hs', bs', gs', bk', gr', ht', dr') ∧ Rc (h * w) bk' gr' ht' dr' lim hs' bs' gs' (ab_rnd (h * w) w a r) := by
  have hn := gz_n16 G.2.1 G.2.2.2.1
  have hn1 : 1 ≤ h * w := Nat.mul_le_mul G.1 G.2.2.1
  have hsz := G.2.2.2.2.1
  have d1 : zmod (r : Int) (4 : Int) = ((r % 4 : Nat) : Int) := md_n r 4
  have d2 : zdiv (r : Int) (4 : Int) = ((r / 4 : Nat) : Int) := dv_n r 4
  have d3 : zmod ((r / 4 : Nat) : Int) size = ((r / 4 % (h * w) : Nat) : Int) := by rw [hsz]; exact md_n (r / 4) (h * w)
  have hp : r / 4 % (h * w) < h * w := Nat.mod_lt _ (by omega)
  unfold sh_X0_playRound sh_X2_size ab_rnd
  rw [d1, d2, Option.bind_some, d3, zkr_t (by omega) (by omega), if_pos (by omega), zkr_t (by omega) (by omega), zkr_t (by omega) (by omega)]
  by_cases c : r % 4 = 0
  · obtain ⟨hs', u1, u2⟩ := R.flip (F := F) hn hp
    obtain ⟨bs1, gs1, bk1, gr1, ht1, dr1, x1, x2⟩ := u2.go hF G (ab_flip_wf W _) 1 (by omega) (by omega)
    have x1' : sh_X0_takeByOrder F lim hs' bs gs bk gr ht dr size ne nc (1 : Int) = _ := x1
    rw [if_pos (by omega), if_pos c, zkr_t (by omega) (by omega), zkc_t (by omega), u1, Option.bind_some, x1', Option.bind_some]
    exact ⟨_, _, _, _, _, _, _, rfl, x2⟩
  · obtain ⟨bs1, gs1, bk1, gr1, ht1, dr1, x1, x2⟩ := R.go hF G W 1 (by omega) (by omega)
    have x1' : sh_X0_takeByOrder F lim hs bs gs bk gr ht dr size ne nc (1 : Int) = _ := x1
    rw [if_neg (by omega), if_neg c, x1', Option.bind_some]
    exact ⟨_, _, _, _, _, _, _, rfl, x2⟩
def lc_nx (x : Int) : Int := ((x * (6364136223846793005 : Int)) + (1442695040888963407 : Int))
def ab_sim (n w : Nat) : Nat → Int → zAb → zAb
  | 0, _, a => a
  | m + 1, x, a => ab_sim n w m (lc_nx x) (ab_rnd n w a (zlushr (lc_nx x) 33).toNat)
theorem ab_sim_wf {n w : Nat} : ∀ (m : Nat) (x b : Int) (a : zAb), ab_wf n w b a → ab_wf n w (b + m) (ab_sim n w m x a)
  | 0, _, b, a, W => W.mono (by omega)
  | m + 1, x, b, a, W => (ab_sim_wf m (lc_nx x) (b + 1) _ (ab_rnd_wf W _)).mono (by omega)
theorem c_sim_L {F h w P : Nat} {size : Int} {ro co ne nc : Nat → Int} {lim gs0 : Int} (hF : 5000 ≤ F) (G : gz_ok h w size ro co ne nc) (hP : P ≤ 100) (q3 : Int × Int × Int × Int × (Nat → Int) × (Nat → Int) × (Nat → Int) × (Nat → Int)) (hq : q3.1 = lim) : ∀ (m N i : Nat) (x : Int) (bk gr ht dr : Nat → Int) (hs bs gs b : Int) (a : zAb), Rc (h * w) bk gr ht dr lim hs bs gs a → ab_wf (h * w) w b a → b + m ≤ 200000 → i + m = P → m < N → ∃ hs' bs' gs' bk' gr' ht' dr', sh_X8_simulate_L24 F (P : Int) size ne nc q3 (fun _ _ v31 v32 v33 (v34 : Nat → Int) (v35 : Nat → Int) (v36 : Nat → Int) (v37 : Nat → Int) => (sh_X0_gradeSum F v33).bind (fun (q38 : Int) => (sh_X0_gradeSum F gs0).bind (fun (q40 : Int) => some ((0 : Int), (q38 - q40), q3.1, v31, v32, v33, v34, v35, v36, v37)))) N x (i : Int) hs bs gs bk gr ht dr = some ((0 : Int), ab_gs (ab_sim (h * w) w m x a) - gs0, lim, hs', bs', gs', bk', gr', ht', dr') := by
  subst hq
  intro m
  induction m with
  | zero =>
    intro N i x bk gr ht dr hs bs gs b a R W hb hi hN
    obtain ⟨N, rfl⟩ : ∃ M, N = M + 1 := ⟨N - 1, by omega⟩
    simp (disch := omega) only [sh_X8_simulate_L24, sh_X0_gradeSum, Option.bind_some, zkr_t, if_neg, ab_sim]
    rw [R.2.2.2.2]
    exact ⟨_, _, _, _, _, _, _, rfl⟩
  | succ m ih =>
    intro N i x bk gr ht dr hs bs gs b a R W hb hi hN
    obtain ⟨N, rfl⟩ : ∃ M, N = M + 1 := ⟨N - 1, by omega⟩
    obtain ⟨r, hr, hr2⟩ := lu_rng (lc_nx x)
    obtain ⟨hs1, bs1, gs1, bk1, gr1, ht1, dr1, u1, u2⟩ := c_rnd hF G R W (by omega) hr2
    have hr' : zlushr ((x * (6364136223846793005 : Int)) + (1442695040888963407 : Int)) (33 : Int) = (r : Int) := hr
    rw [sh_X8_simulate_L24, zkr_t (by omega) (by omega), zkr_t (by omega) (by omega), if_pos (by omega), hr', u1, Option.bind_some, ab_sim, hr, Int.toNat_natCast, nc_s]
    exact ih N (i + 1) (lc_nx x) bk1 gr1 ht1 dr1 hs1 bs1 gs1 (b + 1) _ u2 (ab_rnd_wf W r) (by omega) (by omega) (by omega)