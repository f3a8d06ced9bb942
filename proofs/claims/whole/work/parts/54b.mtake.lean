/-! TAKING a bucket, in the reference -/
def mt_mv (b i : Nat) (v : Nat → Int) : Nat → Int := fun j => if b + i ≤ j ∧ j < b + 10 then v (j + 2) else v j
theorem mt_step (b i : Nat) (v : Nat → Int) (hi : i < 10) : mt_mv b (i + 1) (va_up v (b + i) (v (b + i + 2))) = mt_mv b i v := by
  funext j
  unfold mt_mv
  by_cases h1 : j = b + i
  · subst h1
    rw [if_neg (by omega), if_pos (by omega), up_s]
  · by_cases h2 : b + (i + 1) ≤ j ∧ j < b + 10
    · rw [if_pos h2, if_pos (by omega), up_n _ _ _ (by omega)]
    · rw [if_neg h2, if_neg (by omega), up_n _ _ _ h1]
theorem mt_end (b : Nat) (v : Nat → Int) : mt_mv b 10 v = v := by
  funext j
  unfold mt_mv
  rw [if_neg (by omega)]
theorem mv_n {b i : Nat} {v : Nat → Int} {j : Nat} (h : ¬ (b + i ≤ j ∧ j < b + 10)) : mt_mv b i v j = v j := if_neg h
theorem mv_p {b i : Nat} {v : Nat → Int} {j : Nat} (h : b + i ≤ j ∧ j < b + 10) : mt_mv b i v j = v (j + 2) := if_pos h
theorem m_take_L {β : Type} (F n0 o p : Nat) (k : Int → (Nat → Int) → Option (Int × (Nat → Int))) (hp : p < 16) (ho : o + 243 ≤ n0) (hn0 : n0 ≤ 100000) : ∀ (m N i : Nat) (v : Nat → Int), i + m = 10 → m < N → sh_X9_take_L45 F n0 (o : Int) (p : Int) k N (i : Int) v = k 10 (mt_mv (o + 15 * p + 3) i v) := by
  intro m
  induction m with
  | zero =>
    intro N i v hi hN
    obtain ⟨N, rfl⟩ : ∃ M, N = M + 1 := ⟨N - 1, by omega⟩
    have : i = 10 := by omega
    subst this
    rw [mt_end]
    rw [sh_X9_take_L45, zkr_t (by omega) (by omega), if_neg (by omega)]
    rfl
  | succ m ih =>
    intro N i v hi hN
    obtain ⟨N, rfl⟩ : ∃ M, N = M + 1 := ⟨N - 1, by omega⟩
    have e1 : (((((o : Int) + ((15 : Int) * (p : Int))) + (3 : Int)) + (i : Int))).toNat = o + 15 * p + 3 + i := by omega
    have e2 : ((((((o : Int) + ((15 : Int) * (p : Int))) + (3 : Int)) + (i : Int)) + (2 : Int))).toNat = o + 15 * p + 3 + i + 2 := by omega
    simp (disch := omega) only [sh_X9_take_L45, zkr_t, zkx_t, if_pos, e1, e2, nc_s]
    rw [ih N (i + 1) _ (by omega) (by omega), mt_step _ _ _ (by omega)]
theorem Rm.take {F n w o n0 : Nat} {f : Nat → Int} {b : Int} {a : zAb} (hF : 20 ≤ F) (R : Rm n o f a) (W : ab_wf n w b a) (hn : n ≤ 16) (ho : o + 243 ≤ n0) (hn0 : n0 ≤ 100000) {p : Nat} (hp : p < n) (hne : ab_col a p ≠ []) : ∃ f', sh_X9_take F f n0 (o : Int) (p : Int) = some (ab_grade (ab_col a p) 0, f') ∧ Rm n o f' (ab_take a p) ∧ ∀ j, (j < o ∨ o + 243 ≤ j) → f' j = f j := by
  have r := R.1 p hp
  obtain ⟨x, l, hl⟩ : ∃ x l, ab_col a p = x :: l := by
    cases h : ab_col a p with
    | nil => exact absurd h hne
    | cons x l => exact ⟨x, l, rfl⟩
  have e := r.2.1
  rw [hl] at e
  obtain ⟨m, hm⟩ : ∃ m, (f (o + 15 * p + 2)).toNat = m + 1 := by
    cases h : (f (o + 15 * p + 2)).toNat with
    | zero => rw [h, ml_of] at e; cases e
    | succ m => exact ⟨m, rfl⟩
  rw [hm, ml_of] at e
  injection e with e1 e2
  have hb : f (o + 15 * p + 3) = x.1 := by rw [← e1]
  have hg : f (o + 15 * p + 3 + 1) = x.2 := by rw [← e1]
  have hx := (W.1 p hp).1.2 x (by rw [hl]; exact List.mem_cons_self)
  have eg : ab_grade (ab_col a p) 0 = f (o + 15 * p + 4) := by rw [hl, ab_grade, if_pos (by omega), ← hg]
  have j3 : ((((o : Int) + ((15 : Int) * (p : Int))) + (3 : Int))).toNat = o + 15 * p + 3 := ix_r3 o p
  have j13 : ((((((o : Int) + ((15 : Int) * (p : Int))) + (3 : Int)) + (12 : Int)) - (2 : Int))).toNat = o + 15 * p + 13 := by omega
  have j14 : ((((((o : Int) + ((15 : Int) * (p : Int))) + (3 : Int)) + (12 : Int)) - (1 : Int))).toNat = o + 15 * p + 14 := by omega
  have j241 : ((o : Int) + (241 : Int)).toNat = o + 241 := by omega
  have j242 : ((o : Int) + (242 : Int)).toNat = o + 242 := by omega
  have r0 := r.2.2.1
  have R1 := R.2.1
  have R2 := R.2.2.1
  have R3 := R.2.2.2
  unfold sh_X9_take
  simp (disch := omega) only [j3, j13, j14, j241, j242, ix_r0, ix_r2, ix_r31, zkx_t, zkr_t, up_s, up_n, hb]
  rw [eg]
  by_cases h1 : x.1 - 1 = 0
  · rw [if_pos h1]
    have L := fun k v => m_take_L (β := Int) F n0 o p k (by omega) ho hn0 10 F 0 v (by omega) (by omega)
    have L' : ∀ k v, sh_X9_take_L45 F n0 (o : Int) (p : Int) k F 0 v = k 10 (mt_mv (o + 15 * p + 3) 0 v) := L
    rw [L']
    simp (disch := omega) only [zkx_t, up_n, mv_n]
    refine ⟨_, rfl, ⟨fun q hq => ?_, ?_, ?_, ?_⟩, fun j hj => ?_⟩
    · have rq := R.1 q hq
      by_cases c : q = p
      · subst c
        rw [tk_col_s, tk_dr_s, hl, ab_drop, if_pos (by omega)]
        simp (disch := omega) only [up_s, up_n, mv_n]
        refine ⟨by omega, ?_, by rw [rq.2.2.1], rq.2.2.2⟩
        rw [show (f (o + 15 * q + 2) - 1).toNat = m by omega, ← e2]
        refine ml_congr m _ _ (fun i hi => ?_)
        simp (disch := omega) only [up_n, mv_p]
        congr 1
        omega
      · rw [tk_col_n a c, tk_dr_n a c]
        simp (disch := omega) only [up_n, mv_n]
        refine ⟨rq.1, ?_, rq.2.2.1, rq.2.2.2⟩
        rw [← rq.2.1]
        refine ml_congr _ _ _ (fun i hi => ?_)
        simp (disch := omega) only [up_n, mv_n]
    · simp (disch := omega) only [up_n, mv_n]
      exact R1
    · simp (disch := omega) only [up_s, up_n, mv_n]
      show _ = ab_bs a + 1
      rw [R2]
    · simp (disch := omega) only [up_s, up_n, mv_n]
      show _ = ab_gs a + ab_grade (ab_col a p) 0
      rw [R3, eg]
    · simp (disch := omega) only [up_n, mv_n]
  · rw [if_neg h1]
    refine ⟨_, rfl, ⟨fun q hq => ?_, ?_, ?_, ?_⟩, fun j hj => ?_⟩
    · have rq := R.1 q hq
      by_cases c : q = p
      · subst c
        rw [tk_col_s, tk_dr_s, hl, ab_drop, if_neg (by omega)]
        simp (disch := omega) only [up_s, up_n]
        refine ⟨rq.1, ?_, by rw [rq.2.2.1], rq.2.2.2⟩
        rw [hm, ml_of]
        simp (disch := omega) only [up_s, up_n]
        rw [hg, ← e2]
        refine congrArg _ (ml_congr m _ _ (fun i hi => ?_))
        simp (disch := omega) only [up_n]
      · rw [tk_col_n a c, tk_dr_n a c]
        simp (disch := omega) only [up_n]
        refine ⟨rq.1, ?_, rq.2.2.1, rq.2.2.2⟩
        rw [← rq.2.1]
        refine ml_congr _ _ _ (fun i hi => ?_)
        simp (disch := omega) only [up_n]
    · simp (disch := omega) only [up_n]
      exact R1
    · simp (disch := omega) only [up_s, up_n]
      show _ = ab_bs a + 1
      rw [R2]
    · simp (disch := omega) only [up_s, up_n]
      show _ = ab_gs a + ab_grade (ab_col a p) 0
      rw [R3, eg]
    · simp (disch := omega) only [up_n]
