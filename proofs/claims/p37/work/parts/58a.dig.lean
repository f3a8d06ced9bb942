/-! DIGITS: numbers cut into groups; powers of ten -/
theorem sp_L {F B : Nat} (hB : 2 ≤ B ∧ B ≤ 100000) (k : Int → Int → (Nat → Int) → Option (Int × Int × (Nat → Int))) : ∀ (j N x : Nat) (v : Nat → Int), j ≤ 9 → j < N → x < 9223372036854775808 → ∃ v', sh_X3_split_L28 F (B : Int) k N (x : Int) ((j : Int) - (1 : Int)) v = k ((x / B ^ j : Nat) : Int) (-1) v' ∧ (∀ t, t < j → v' t = ((x / B ^ (j - 1 - t) % B : Nat) : Int)) ∧ ∀ t, j ≤ t → v' t = v t := by
  intro j
  induction j with
  | zero =>
    intro N x v hj hN hx
    obtain ⟨N, rfl⟩ : ∃ M, N = M + 1 := ⟨N - 1, by omega⟩
    refine ⟨v, ?_, fun t ht => absurd ht (Nat.not_lt_zero _), fun _ _ => rfl⟩
    rw [sh_X3_split_L28, zkr_t (by omega) (by omega), if_pos (by omega), Nat.pow_zero, Nat.div_one]
    rfl
  | succ j ih =>
    intro N x v hj hN hx
    obtain ⟨N, rfl⟩ : ∃ M, N = M + 1 := ⟨N - 1, by omega⟩
    obtain ⟨v', x1, x2, x3⟩ := ih N (x / B) (va_up v j ((x % B : Nat) : Int)) (by omega) (by omega) (Nat.lt_of_le_of_lt (Nat.div_le_self _ _) hx)
    have e0 : (((j + 1 : Nat) : Int) - (1 : Int)).toNat = j := by omega
    have e1 : (((j + 1 : Nat) : Int) - (1 : Int)) + (-1 : Int) = (j : Int) - (1 : Int) := by omega
    refine ⟨v', ?_, fun t ht => ?_, fun t ht => ?_⟩
    · simp (disch := omega) only [sh_X3_split_L28, zkr_t, zkl_t, zkc_t, zkx_t, if_neg, e0, e1, dv_n, md_n]
      rw [x1, Nat.div_div_eq_div_mul, Nat.pow_succ, Nat.mul_comm B]
    · by_cases e : t = j
      · subst e
        rw [x3 t (Nat.le_refl _), up_s, show t + 1 - 1 - t = 0 by omega, Nat.pow_zero, Nat.div_one]
      · rw [x2 t (by omega), Nat.div_div_eq_div_mul, Nat.mul_comm B, ← Nat.pow_succ, show (j - 1 - t).succ = j + 1 - 1 - t by omega]
    · rw [x3 t (by omega), up_n _ _ _ (by omega)]
theorem c_split {F B n : Nat} (hF : 20 ≤ F) (hB : 2 ≤ B ∧ B ≤ 100000) (hn : n ≤ 9) (c0 : Int) (v : Nat → Int) {x : Int} (hx : -9223372036854775808 ≤ x ∧ x ≤ 9223372036854775807) : ∃ c' v', sh_X3_split F c0 v x (n : Int) (B : Int) = some ((if 0 ≤ x ∧ x.toNat < B ^ n then 1 else 0), c', v') ∧ (0 ≤ x → c' = (n : Int) ∧ ∀ t, t < n → v' t = ((x.toNat / B ^ (n - 1 - t) % B : Nat) : Int)) := by
  have hp : 0 < B ^ n := Nat.pow_pos (by omega)
  unfold sh_X3_split
  by_cases h0 : x < 0
  · refine ⟨c0, v, ?_, fun z => absurd z (by omega)⟩
    rw [zkl_t (by omega) (by omega), if_pos h0, if_neg (by omega)]
  · obtain ⟨y, rfl⟩ : ∃ y : Nat, x = (y : Int) := ⟨x.toNat, by omega⟩
    obtain ⟨v', x1, x2, x3⟩ := sp_L (F := F) hB (fun v18 _ (v20 : Nat → Int) => zkl v18 (if v18 = (0 : Int) then some ((1 : Int), (n : Int), v20) else some ((0 : Int), (n : Int), v20))) n F y v hn (by omega) (by omega)
    refine ⟨(n : Int), v', ?_, fun _ => ⟨rfl, x2⟩⟩
    rw [zkl_t (by omega) (by omega), if_neg h0, zkr_t (by omega) (by omega), if_neg (by omega), zkr_t (by omega) (by omega), if_neg (by omega)]
    refine Eq.trans x1 ?_
    have hle : y / B ^ n ≤ y := Nat.div_le_self _ _
    have hQ := Nat.div_eq_zero_iff_lt (x := y) hp
    generalize y / B ^ n = Q at hle hQ ⊢
    rw [zkl_t (by omega) (by omega)]
    by_cases hc : y < B ^ n
    · have hz := hQ.mpr hc
      rw [if_pos (by omega), if_pos ⟨by omega, by rw [Int.toNat_natCast]; exact hc⟩]
    · rw [if_neg (fun z => hc (hQ.mp (by omega))), if_neg (fun z => hc (by have := z.2; rw [Int.toNat_natCast] at this; exact this))]
theorem c_get {F n : Nat} {v : Nat → Int} (hn : n ≤ 9) {i : Nat} (hi : i < n) : sh_X3_get F (n : Int) v (i : Int) = some (v i) := by
  unfold sh_X3_get
  simp (disch := omega) only [zkr_t, zkx_t, if_neg, if_pos, ix_n]
theorem ten_le {n : Nat} (hn : n ≤ 18) : 1 ≤ 10 ^ n ∧ 10 ^ n ≤ 1000000000000000000 := ⟨Nat.pow_pos (by decide), Nat.pow_le_pow_right (by decide) hn⟩
/-- the points whose grades begin so -/
def ab_beg (a : zAb) (d : Nat → Int) (p : Nat) : Nat → Nat → Bool
  | 0, _ => true
  | m + 1, i => decide (ab_grade (ab_col a p) (i : Int) = d i) && ab_beg a d p m (i + 1)
theorem c_beg_L {F n w m0 : Nat} {bk gr ht dr : Nat → Int} {lim hs bs gs b : Int} {a : zAb} {v : Nat → Int} (hF : 20 ≤ F) (R : Rc n bk gr ht dr lim hs bs gs a) (W : ab_wf n w b a) (hn : n ≤ 16) (hm : m0 ≤ 9) (hv : ∀ t, t < m0 → 0 ≤ v t ∧ v t ≤ 9) {p : Nat} (hp : p < n) : ∀ (m N i : Nat), i + m = m0 → m < N → sh_X0_begins_L2 F (p : Int) bk gr ht (m0 : Int) v (fun _ => some 1) N (i : Int) = some (if ab_beg a v p m i then 1 else 0) := by
  intro m
  induction m with
  | zero =>
    intro N i hi hN
    obtain ⟨N, rfl⟩ : ∃ M, N = M + 1 := ⟨N - 1, by omega⟩
    simp (disch := omega) only [sh_X0_begins_L2, sh_X3_count, Option.bind_some, zkr_t, if_neg, ab_beg, if_true]
  | succ m ih =>
    intro N i hi hN
    obtain ⟨N, rfl⟩ : ∃ M, N = M + 1 := ⟨N - 1, by omega⟩
    have r := R.1 p hp
    have e : sh_X0_gradeOf F bk gr ht (p : Int) (i : Int) = some (ab_grade (ab_col a p) (i : Int)) := by
      rw [c_gradeOf F p i bk gr ht (by omega) (by omega) r.1.1 r.1.2 (by omega) (by rw [r.2.1]; exact (W.1 p hp).1.2), r.2.1]
    have e2 := c_get (F := F) (v := v) hm (i := i) (by omega)
    have hG := ab_grade_rng (W.1 p hp).1.2 (i : Int)
    have hvi := hv i (by omega)
    simp (disch := omega) only [sh_X0_begins_L2, sh_X3_count, Option.bind_some, zkr_t, if_pos, e, e2, nc_s]
    rw [ab_beg]
    by_cases c : ab_grade (ab_col a p) (i : Int) = v i
    · rw [if_pos c, decide_eq_true c, Bool.true_and]
      exact ih N (i + 1) (by omega) (by omega)
    · rw [if_neg c, decide_eq_false c, Bool.false_and, if_neg (by decide)]
def ab_org (n : Nat) (a : zAb) (d : Nat → Int) (m : Nat) : Int := ((ab_blk (fun p => ab_beg a d p m 0) (List.range' 0 n) 0 : Nat) : Int)
theorem c_org_L {F h w m0 : Nat} {size : Int} {ro co ne nc : Nat → Int} {bk gr ht dr : Nat → Int} {lim hs bs gs b : Int} {a : zAb} {v : Nat → Int} (hF : 20 ≤ F) (G : gz_ok h w size ro co ne nc) (R : Rc (h * w) bk gr ht dr lim hs bs gs a) (W : ab_wf (h * w) w b a) (hm : m0 ≤ 9) (hv : ∀ t, t < m0 → 0 ≤ v t ∧ v t ≤ 9) : ∀ (m N i s : Nat), i + m = h * w → m < N → s < 2 ^ 16 → sh_X0_pointsThatBegin_L5 F bk gr ht size (m0 : Int) v (fun v12 _ => some v12) N (s : Int) (i : Int) = some ((ab_blk (fun p => ab_beg a v p m0 0) (List.range' i m) s : Nat) : Int) := by
  have hn := gz_n16 G.2.1 G.2.2.2.1
  have hsz := G.2.2.2.2.1
  intro m
  induction m with
  | zero =>
    intro N i s hi hN hs
    obtain ⟨N, rfl⟩ : ∃ M, N = M + 1 := ⟨N - 1, by omega⟩
    simp (disch := omega) only [sh_X0_pointsThatBegin_L5, sh_X2_size, Option.bind_some, zkr_t, if_neg, List.range'_zero, ab_blk]
  | succ m ih =>
    intro N i s hi hN hs
    obtain ⟨N, rfl⟩ : ∃ M, N = M + 1 := ⟨N - 1, by omega⟩
    have e : sh_X0_begins F bk gr ht (m0 : Int) v (i : Int) = some (if ab_beg a v i m0 0 then 1 else 0) := by
      unfold sh_X0_begins
      exact c_beg_L hF R W hn hm hv (by omega) m0 F 0 (by omega) (by omega)
    obtain ⟨s1, s2⟩ := bi_set hs (q := i) (by omega)
    rw [List.range'_succ, ab_blk]
    simp (disch := omega) only [sh_X0_pointsThatBegin_L5, sh_X2_size, Option.bind_some, zkr_t, if_pos, e, nc_s, s1]
    cases hb : ab_beg a v i m0 0 with
    | true =>
      simp (disch := omega) only [if_true, zkr_t, if_neg]
      exact ih N (i + 1) _ (by omega) (by omega) s2
    | false =>
      simp (disch := omega) only [Bool.false_eq_true, if_false, zkr_t, if_true]
      exact ih N (i + 1) _ (by omega) (by omega) hs
theorem Rc.org {F h w m0 : Nat} {size : Int} {ro co ne nc : Nat → Int} {bk gr ht dr : Nat → Int} {lim hs bs gs b : Int} {a : zAb} {v : Nat → Int} (hF : 20 ≤ F) (G : gz_ok h w size ro co ne nc) (R : Rc (h * w) bk gr ht dr lim hs bs gs a) (W : ab_wf (h * w) w b a) (hm : m0 ≤ 9) (hv : ∀ t, t < m0 → 0 ≤ v t ∧ v t ≤ 9) : sh_X0_pointsThatBegin F bk gr ht size (m0 : Int) v = some (ab_org (h * w) a v m0) := by
  have hn := gz_n16 G.2.1 G.2.2.2.1
  unfold sh_X0_pointsThatBegin ab_org
  exact c_org_L hF G R W hm hv (h * w) F 0 0 (by omega) (by omega) (by decide)
def og_d (x m : Nat) (i : Nat) : Int := ((x / 10 ^ (m - 1 - i) % 10 : Nat) : Int)
theorem ab_beg_congr {a : zAb} {d d' : Nat → Int} {p : Nat} : ∀ (m i : Nat), (∀ t, t < i + m → d t = d' t) → ab_beg a d p m i = ab_beg a d' p m i
  | 0, _, _ => rfl
  | m + 1, i, h => by rw [ab_beg, ab_beg, h i (by omega), ab_beg_congr m (i + 1) (fun t ht => h t (by omega))]
theorem ab_org_congr {n : Nat} {a : zAb} {d d' : Nat → Int} {m : Nat} (h : ∀ t, t < m → d t = d' t) : ab_org n a d m = ab_org n a d' m := by
  unfold ab_org
  rw [show (fun p => ab_beg a d p m 0) = (fun p => ab_beg a d' p m 0) from funext fun p => ab_beg_congr m 0 (fun t ht => h t (by omega))]
