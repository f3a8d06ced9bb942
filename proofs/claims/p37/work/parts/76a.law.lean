/-! THE LAW'S METHODS OVER THE OBJECT: errors, now, alike -/
theorem not_isP_n (A : zO) : ¬ isP A ((onn A : Nat) : Int) := fun h => by have := h.2; omega
theorem not_isP_m (A : zO) : ¬ isP A (-1) := fun h => by have := h.1; omega
theorem isP_0 {b : Int} {A : zO} (W : zOK b A) : isP A 0 := ⟨by omega, by have := W.n1; omega⟩
theorem isP_nat {A : zO} {p : Nat} (h : p < onn A) : isP A (p : Int) := ⟨by omega, by omega⟩
theorem zmod_rng {x m : Int} (hm : 0 < m) : -m < zmod x m ∧ zmod x m < m := by
  unfold zmod
  refine ⟨?_, Int.tmod_lt_of_pos x hm⟩
  have h := Int.tmod_lt_of_pos (-x) hm
  rw [Int.neg_tmod] at h
  omega
theorem zmod_nn {x m : Int} (hx : 0 ≤ x) : 0 ≤ zmod x m := Int.tmod_nonneg m hx
/-- the number that tells a state -/
def nw_in (l : zSl) : Nat → Nat → Int → Int
  | 0, _, s => s
  | m + 1, i, s => nw_in l m (i + 1) (zmod ((11 : Int) * s) (1000000009 : Int) + ab_grade l (i : Int))
def nw_out (a : zAb) : Nat → Nat → Int → Int
  | 0, _, s => s
  | m + 1, p, s => nw_out a m (p + 1) (nw_in (ab_col a p) (ab_left (ab_col a p)).toNat 0 (((((zmod ((1009 : Int) * s) (1000000007 : Int)) + ab_dr a p) + ((31 : Int) * ab_left (ab_col a p))) + ((1013 : Int) * (((ab_col a p).length : Nat) : Int))) + ((10007 : Int) * (if ab_hg a p then 1 else 0))))
def nowv (n : Nat) (a : zAb) : Int := nw_out a n 0 ((((1009 : Int) * ab_bs a) + ab_gs a) + ((31 : Int) * ab_lim a))
theorem nw_in_rng {l : zSl} (h : ∀ x ∈ l, 1 ≤ x.1 ∧ x.1 ≤ 9 ∧ 0 ≤ x.2 ∧ x.2 ≤ 9) : ∀ (m i : Nat) (s : Int), (-4000000000 ≤ s ∧ s ≤ 4000000000) → -4000000000 ≤ nw_in l m i s ∧ nw_in l m i s ≤ 4000000000
  | 0, _, _, hs => hs
  | m + 1, i, s, hs => by
    rw [nw_in]
    refine nw_in_rng h m (i + 1) _ ?_
    have h1 := zmod_rng (x := (11 : Int) * s) (m := 1000000009) (by decide)
    have h2 := ab_grade_rng h (i : Int)
    omega
theorem nw_out_rng {n w : Nat} {a : zAb} (W : ab_wf n w 90000 a) : ∀ (m p : Nat) (s : Int), p + m = n → (-4000000000 ≤ s ∧ s ≤ 4000000000) → -4000000000 ≤ nw_out a m p s ∧ nw_out a m p s ≤ 4000000000
  | 0, _, _, _, hs => hs
  | m + 1, p, s, hp, hs => by
    rw [nw_out]
    have w1 := W.1 p (by omega)
    refine nw_out_rng W m (p + 1) _ (by omega) (nw_in_rng w1.1.2 _ _ _ ?_)
    have h1 := zmod_rng (x := (1009 : Int) * s) (m := 1000000007) (by decide)
    have h2 := ab_left_rng w1.1
    have h3 := w1.1.1
    split <;> omega
theorem nowv_rng {n w : Nat} {a : zAb} (W : ab_wf n w 90000 a) : -4000000000 ≤ nowv n a ∧ nowv n a ≤ 4000000000 := by
  refine nw_out_rng W n 0 _ (by omega) ?_
  have := W.2.2.1; have := W.2.2.2.1; have := W.2.2.2.2
  omega
theorem now_in {A : zO} (W : zOK 90000 A) {p F : Nat} (hp : p < onn A) (k : Int → Int → Option Int) : ∀ (m i N : Nat) (s : Int), (i : Int) + (m : Int) = ab_left (ab_col (oa A) p) → m < N → (-4000000000 ≤ s ∧ s ≤ 4000000000) → sh_L_now_L89 F A (p : Int) k N s (i : Int) = k (nw_in (ab_col (oa A) p) m i s) (ab_left (ab_col (oa A) p)) := by
  have w1 := W.wf.1 p hp
  have hl := ab_left_rng w1.1
  have e1 : kn_remaining A (p : Int) = some (ab_left (ab_col (oa A) p)) := by
    unfold kn_remaining
    rw [kx_t ⟨W, isP_nat hp⟩, Int.toNat_natCast]
  intro m
  induction m with
  | zero =>
    intro i N s hi hN hs
    obtain ⟨N, rfl⟩ : ∃ M, N = M + 1 := ⟨N - 1, by omega⟩
    have : (i : Int) = ab_left (ab_col (oa A) p) := by omega
    rw [sh_L_now_L89, e1, Option.bind_some, zkr_t (by omega) (by omega), if_neg (by omega), this]
    rfl
  | succ m ih =>
    intro i N s hi hN hs
    obtain ⟨N, rfl⟩ : ∃ M, N = M + 1 := ⟨N - 1, by omega⟩
    have e2 : kn_grade A (p : Int) (i : Int) = some (ab_grade (ab_col (oa A) p) (i : Int)) := by
      unfold kn_grade
      rw [kx_t ⟨W, isP_nat hp, by omega, by omega⟩, Int.toNat_natCast]
    have h1 := zmod_rng (x := (11 : Int) * s) (m := 1000000009) (by decide)
    have h2 := ab_grade_rng w1.1.2 (i : Int)
    rw [sh_L_now_L89, e1, Option.bind_some, zkr_t (by omega) (by omega), if_pos (by omega), zkl_t (by omega) (by omega), e2, Option.bind_some, nc_s, ih (i + 1) N _ (by omega) (by omega) (by omega)]
    rfl
theorem now_out {A : zO} (W : zOK 90000 A) {F : Nat} (hF : 100 ≤ F) : ∀ (m p N : Nat) (s : Int), p + m = onn A → m < N → (-4000000000 ≤ s ∧ s ≤ 4000000000) → sh_L_now_L28 F A (fun v46 _ => some v46) N s (p : Int) = some (nw_out (oa A) m p s) := by
  have hn := W.n16
  have e0 : kd_pointCount A = some ((onn A : Nat) : Int) := by unfold kd_pointCount; rw [kx_t W]
  intro m
  induction m with
  | zero =>
    intro p N s hi hN hs
    obtain ⟨N, rfl⟩ : ∃ M, N = M + 1 := ⟨N - 1, by omega⟩
    rw [sh_L_now_L28, e0, Option.bind_some, zkr_t (by omega) (by omega), if_neg (by omega)]
    rfl
  | succ m ih =>
    intro p N s hi hN hs
    obtain ⟨N, rfl⟩ : ∃ M, N = M + 1 := ⟨N - 1, by omega⟩
    have hp : p < onn A := by omega
    have w1 := W.wf.1 p hp
    have hl := ab_left_rng w1.1
    have hlen := w1.1.1
    have e1 : kn_drawn A (p : Int) = some (ab_dr (oa A) p) := by
      unfold kn_drawn
      rw [kx_t ⟨W, isP_nat hp⟩, Int.toNat_natCast]
    have e2 : kn_remaining A (p : Int) = some (ab_left (ab_col (oa A) p)) := by
      unfold kn_remaining
      rw [kx_t ⟨W, isP_nat hp⟩, Int.toNat_natCast]
    have e3 : kn_slices A (p : Int) = some (((ab_col (oa A) p).length : Nat) : Int) := by
      unfold kn_slices
      rw [kx_t ⟨W, isP_nat hp⟩, Int.toNat_natCast]
    have e4 : kn_hung A (p : Int) = some (if ab_hg (oa A) p then 1 else 0) := by
      unfold kn_hung
      rw [kx_t ⟨W, isP_nat hp⟩, Int.toNat_natCast]
    have h1 := zmod_rng (x := (1009 : Int) * s) (m := 1000000007) (by decide)
    have hs2 : -4000000000 ≤ (((((zmod ((1009 : Int) * s) (1000000007 : Int)) + ab_dr (oa A) p) + ((31 : Int) * ab_left (ab_col (oa A) p))) + ((1013 : Int) * (((ab_col (oa A) p).length : Nat) : Int))) + ((10007 : Int) * (if ab_hg (oa A) p then 1 else 0))) ∧ (((((zmod ((1009 : Int) * s) (1000000007 : Int)) + ab_dr (oa A) p) + ((31 : Int) * ab_left (ab_col (oa A) p))) + ((1013 : Int) * (((ab_col (oa A) p).length : Nat) : Int))) + ((10007 : Int) * (if ab_hg (oa A) p then 1 else 0))) ≤ 4000000000 := by
      split <;> omega
    have hi2 := nw_in_rng w1.1.2 (ab_left (ab_col (oa A) p)).toNat 0 _ hs2
    have hz : sh_L_now_L89 F A (p : Int) (fun (v43 : Int) (v44 : Int) => sh_L_now_L28 F A (fun v46 _ => some v46) N v43 ((p : Int) + (1 : Int))) F (((((zmod ((1009 : Int) * s) (1000000007 : Int)) + ab_dr (oa A) p) + ((31 : Int) * ab_left (ab_col (oa A) p))) + ((1013 : Int) * (((ab_col (oa A) p).length : Nat) : Int))) + ((10007 : Int) * (if ab_hg (oa A) p then 1 else 0))) (0 : Int) = _ := now_in W hp _ (ab_left (ab_col (oa A) p)).toNat 0 F _ (by omega) (by omega) hs2
    rw [sh_L_now_L28, e0, Option.bind_some, zkr_t (by omega) (by omega), if_pos (by omega), zkl_t (by omega) (by omega), e1, Option.bind_some, e2, Option.bind_some, e3, Option.bind_some, e4, Option.bind_some, hz]
    rw [nc_s, ih (p + 1) N _ (by omega) (by omega) hi2]
    rfl
theorem now_eq {A : zO} (W : zOK 90000 A) {F : Nat} (hF : 100 ≤ F) : sh_L_now F A = some (nowv (onn A) (oa A)) := by
  have w1 := W.wf.2.2.1; have w2 := W.wf.2.2.2.1; have w3 := W.wf.2.2.2.2
  have hn := W.n16
  unfold sh_L_now kd_totalBuckets kd_totalGrade kd_bound
  rw [kx_t W, kx_t W, kx_t W, Option.bind_some, Option.bind_some, Option.bind_some]
  exact now_out W hF (onn A) 0 F _ (by omega) (by omega) (by omega)
/-- the same state, the same number -/
theorem now_same {A B : zO} (W : zOK 90000 A) (V : zOK 90000 B) (hn : onn B = onn A) (ha : oa B = oa A) {F : Nat} (hF : 100 ≤ F) : sh_L_now F B = some (nowv (onn A) (oa A)) := by
  rw [now_eq V hF, hn, ha]
section ERR
variable {A : zO}
theorem err_L (W : zOK 90000 A) {F : Nat} : ∀ (m p N : Nat), p + m = onn A → m < N → sh_L_errors_L561 F A ((onn A : Nat) : Int) (fun _ => some 1) N (p : Int) = some 1 := by
  have hn := W.n16
  intro m
  induction m with
  | zero =>
    intro p N hi hN
    obtain ⟨N, rfl⟩ : ∃ M, N = M + 1 := ⟨N - 1, by omega⟩
    rw [sh_L_errors_L561, zkr_t (by omega) (by omega), zkr_t (by omega) (by omega), if_neg (by omega)]
  | succ m ih =>
    intro p N hi hN
    obtain ⟨N, rfl⟩ : ∃ M, N = M + 1 := ⟨N - 1, by omega⟩
    have hp : p < onn A := by omega
    have ip := isP_nat hp
    have rp : i32 (p : Int) := ⟨by omega, by omega⟩
    have r1 : i32 (1 : Int) := ⟨by decide, by decide⟩
    have e0 := ih (p + 1) N (by omega) (by omega)
    have e1 : kn_ready A (p : Int) = some (v_ready A (p : Int)) := by unfold kn_ready; rw [kx_t ⟨W, ip⟩]
    have e2 : kn_hung A (p : Int) = some (if ab_hg (oa A) p then 1 else 0) := by unfold kn_hung; rw [kx_t ⟨W, ip⟩, Int.toNat_natCast]
    have e3 : kn_slices A (p : Int) = some (((ab_col (oa A) p).length : Nat) : Int) := by unfold kn_slices; rw [kx_t ⟨W, ip⟩, Int.toNat_natCast]
    have e4 : ¬ (((ab_col (oa A) p).length : Nat) : Int) < 6 → kt_add A (p : Int) (1 : Int) (1 : Int) = some (-103) := by
      intro hz
      unfold kt_add
      rw [kx_t ⟨W, rp, r1, r1, fun z => by have := z.2.2; rw [Int.toNat_natCast] at this; omega⟩, fi_t ip, if_pos ⟨⟨by decide, by decide⟩, by decide, by decide⟩]
    have e5 : ab_hg (oa A) p = true → kt_hang A (p : Int) = some (-103) := by
      intro hz
      unfold kt_hang
      rw [kx_t ⟨W, rp, fun z => by have := z.2; rw [Int.toNat_natCast, hz] at this; cases this⟩, fi_t ip]
    have e6 : ab_hg (oa A) p = false → kt_release A (p : Int) = some (-103) := by
      intro hz
      unfold kt_release
      rw [kx_t ⟨W, rp, fun z => by have := z.2; rw [Int.toNat_natCast, hz] at this; cases this⟩, fi_t ip]
    have tail : ((kn_hung A (p : Int)).bind (fun (q159 : Int) => if q159 = (1 : Int) then (kt_hang A (p : Int)).bind (fun (q171 : Int) => if q171 = (-103 : Int) then (kn_slices A (p : Int)).bind (fun (q174 : Int) => if q174 < (6 : Int) then sh_L_errors_L561 F A ((onn A : Nat) : Int) (fun _ => some 1) N ((p : Int) + (1 : Int)) else (kt_add A (p : Int) (1 : Int) (1 : Int)).bind (fun (q177 : Int) => if q177 = (-103 : Int) then sh_L_errors_L561 F A ((onn A : Nat) : Int) (fun _ => some 1) N ((p : Int) + (1 : Int)) else none)) else none) else (kt_release A (p : Int)).bind (fun (q162 : Int) => if q162 = (-103 : Int) then (kn_slices A (p : Int)).bind (fun (q165 : Int) => if q165 < (6 : Int) then sh_L_errors_L561 F A ((onn A : Nat) : Int) (fun _ => some 1) N ((p : Int) + (1 : Int)) else (kt_add A (p : Int) (1 : Int) (1 : Int)).bind (fun (q168 : Int) => if q168 = (-103 : Int) then sh_L_errors_L561 F A ((onn A : Nat) : Int) (fun _ => some 1) N ((p : Int) + (1 : Int)) else none)) else none))) = some 1 := by
      rw [nc_s]
      have sl : ((kn_slices A (p : Int)).bind (fun (q165 : Int) => if q165 < (6 : Int) then sh_L_errors_L561 F A ((onn A : Nat) : Int) (fun _ => some 1) N ((p + 1 : Nat) : Int) else (kt_add A (p : Int) (1 : Int) (1 : Int)).bind (fun (q168 : Int) => if q168 = (-103 : Int) then sh_L_errors_L561 F A ((onn A : Nat) : Int) (fun _ => some 1) N ((p + 1 : Nat) : Int) else none))) = some 1 := by
        rw [e3, Option.bind_some]
        by_cases hz : (((ab_col (oa A) p).length : Nat) : Int) < 6
        · rw [if_pos hz, e0]
        · rw [if_neg hz, e4 hz, Option.bind_some, if_pos rfl, e0]
      rw [e2, Option.bind_some]
      cases hg : ab_hg (oa A) p
      · rw [if_neg (by decide), e6 hg, Option.bind_some, if_pos rfl, sl]
      · rw [if_pos rfl, e5 hg, Option.bind_some, if_pos rfl, sl, if_pos rfl]
    rw [sh_L_errors_L561, zkr_t (by omega) (by omega), zkr_t (by omega) (by omega), if_pos (by omega), e1, Option.bind_some]
    by_cases hr : 0 < v_slack A (p : Int)
    · have : v_ready A (p : Int) = 1 := if_pos hr
      rw [this, if_pos rfl, tail]
    · have : v_ready A (p : Int) = 0 := if_neg hr
      have ed : kt_draw A (p : Int) = some (-103) := by
        unfold kt_draw
        rw [kx_t ⟨W, rp, fun z => hr z.2⟩, fi_t ip]
      rw [this, if_neg (by decide), ed, Option.bind_some, if_pos rfl, tail]
theorem errors_ok (W : zOK 90000 A) {F : Nat} : sh_L_errors F A = some 1 := by
  have hn := W.n16
  have n1 := W.n1
  have rn : i32 ((onn A : Nat) : Int) := ⟨by omega, by omega⟩
  have r : ∀ x : Int, -100000 ≤ x → x ≤ 100000 → i32 x := fun x h1 h2 => ⟨by omega, by omega⟩
  have pn := not_isP_n A
  have pm := not_isP_m A
  have p0 := isP_0 W
  have e0 : kd_pointCount A = some ((onn A : Nat) : Int) := by unfold kd_pointCount; rw [kx_t W]
  have L := err_L W (F := F) (onn A) 0 17 (by omega) (by omega)
  rw [show ((0 : Nat) : Int) = (0 : Int) from rfl] at L
  have c0 : kt_append A (256 : Int) = some (-102) := kx_t ⟨W, (r (256) (by decide) (by decide)), by omega⟩
  have c1 : kt_append A (-1 : Int) = some (-102) := kx_t ⟨W, (r (-1) (by decide) (by decide)), by omega⟩
  have c2 : kt_drawn A ((onn A : Nat) : Int) = some (-101) := kx_t ⟨W, rn, pn⟩
  have c3 : kt_remaining A (-1 : Int) = some (-101) := kx_t ⟨W, (r (-1) (by decide) (by decide)), pm⟩
  have c4 : kt_slices A ((onn A : Nat) : Int) = some (-101) := kx_t ⟨W, rn, pn⟩
  have c5 : kt_grade A ((onn A : Nat) : Int) (-1 : Int) = some (-101) := (kx_t ⟨W, rn, (r (-1) (by decide) (by decide)), fun z => pn z.1⟩).trans (congrArg some (fi_f pn))
  have c6 : kt_grade A (0 : Int) (-1 : Int) = some (-102) := (kx_t ⟨W, (r (0) (by decide) (by decide)), (r (-1) (by decide) (by decide)), fun z => absurd z.2.1 (by decide)⟩).trans (congrArg some (fi_t p0))
  have c7 : kt_grade A (0 : Int) (100 : Int) = some (-102) := (kx_t ⟨W, (r (0) (by decide) (by decide)), (r (100) (by decide) (by decide)), fun z => absurd z.2.2 (by decide)⟩).trans (congrArg some (fi_t p0))
  have c8 : kt_hung A ((onn A : Nat) : Int) = some (-101) := kx_t ⟨W, rn, pn⟩
  have c9 : kt_draw A ((onn A : Nat) : Int) = some (-101) := (kx_t ⟨W, rn, fun z => pn z.1⟩).trans (congrArg some (fi_f pn))
  have c10 : kt_draw A (-1 : Int) = some (-101) := (kx_t ⟨W, (r (-1) (by decide) (by decide)), fun z => pm z.1⟩).trans (congrArg some (fi_f pm))
  have c11 : kt_byOrder A (0 : Int) = some (-102) := kx_t ⟨W, (r (0) (by decide) (by decide)), by omega⟩
  have c12 : kt_byOrder A (100 : Int) = some (-102) := kx_t ⟨W, (r (100) (by decide) (by decide)), by omega⟩
  have c13 : kt_hang A ((onn A : Nat) : Int) = some (-101) := (kx_t ⟨W, rn, fun z => pn z.1⟩).trans (congrArg some (fi_f pn))
  have c14 : kt_release A ((onn A : Nat) : Int) = some (-101) := (kx_t ⟨W, rn, fun z => pn z.1⟩).trans (congrArg some (fi_f pn))
  have c15 : kt_add A ((onn A : Nat) : Int) (0 : Int) (0 : Int) = some (-101) := (kx_t ⟨W, rn, (r (0) (by decide) (by decide)), (r (0) (by decide) (by decide)), fun z => pn z.1⟩).trans (congrArg some (fi_f pn))
  have c16 : kt_add A (0 : Int) (0 : Int) (0 : Int) = some (-102) := (kx_t ⟨W, (r (0) (by decide) (by decide)), (r (0) (by decide) (by decide)), (r (0) (by decide) (by decide)), fun z => absurd z.2.1.1.1 (by decide)⟩).trans (congrArg some ((fi_t p0).trans (if_neg (by decide))))
  have c17 : kt_add A (0 : Int) (10 : Int) (0 : Int) = some (-102) := (kx_t ⟨W, (r (0) (by decide) (by decide)), (r (10) (by decide) (by decide)), (r (0) (by decide) (by decide)), fun z => absurd z.2.1.1.2 (by decide)⟩).trans (congrArg some ((fi_t p0).trans (if_neg (by decide))))
  have c18 : kt_add A (0 : Int) (1 : Int) (10 : Int) = some (-102) := (kx_t ⟨W, (r (0) (by decide) (by decide)), (r (1) (by decide) (by decide)), (r (10) (by decide) (by decide)), fun z => absurd z.2.1.2.2 (by decide)⟩).trans (congrArg some ((fi_t p0).trans (if_neg (by decide))))
  have c19 : kt_setBound A (0 : Int) = some (-102) := kx_t ⟨W, (r (0) (by decide) (by decide)), by omega⟩
  have c20 : kt_setBound A (10 : Int) = some (-102) := kx_t ⟨W, (r (10) (by decide) (by decide)), by omega⟩
  have c21 : kt_ready A ((onn A : Nat) : Int) = some (-101) := kx_t ⟨W, rn, pn⟩
  have c22 : kt_blockers A ((onn A : Nat) : Int) = some (-101) := kx_t ⟨W, rn, pn⟩
  have c23 : kt_slack A (-1 : Int) = some (-101) := kx_t ⟨W, (r (-1) (by decide) (by decide)), pm⟩
  have c24 : kt_ahead A (-1 : Int) = some (-102) := kx_t ⟨W, (r (-1) (by decide) (by decide)), by omega⟩
  have c25 : kt_ahead A (100 : Int) = some (-102) := kx_t ⟨W, (r (100) (by decide) (by decide)), by omega⟩
  have c26 : kt_waste A ((onn A : Nat) : Int) (0 : Int) = some (-101) := (kx_t ⟨W, rn, (r (0) (by decide) (by decide)), fun z => pn z.1⟩).trans (congrArg some (fi_f pn))
  have c27 : kt_waste A (0 : Int) (0 : Int) = some (-102) := (kx_t ⟨W, (r (0) (by decide) (by decide)), (r (0) (by decide) (by decide)), fun z => absurd z.2.1 (by decide)⟩).trans (congrArg some (fi_t p0))
  have c28 : kt_waste A (0 : Int) (10 : Int) = some (-102) := (kx_t ⟨W, (r (0) (by decide) (by decide)), (r (10) (by decide) (by decide)), fun z => absurd z.2.2 (by decide)⟩).trans (congrArg some (fi_t p0))
  have c29 : kt_bucketsFor A ((onn A : Nat) : Int) (0 : Int) = some (-101) := (kx_t ⟨W, rn, (r (0) (by decide) (by decide)), fun z => pn z.1⟩).trans (congrArg some (fi_f pn))
  have c30 : kt_bucketsFor A (0 : Int) (0 : Int) = some (-102) := (kx_t ⟨W, (r (0) (by decide) (by decide)), (r (0) (by decide) (by decide)), fun z => absurd z.2.1 (by decide)⟩).trans (congrArg some (fi_t p0))
  have c31 : kt_bucketsFor A (0 : Int) (55 : Int) = some (-102) := (kx_t ⟨W, (r (0) (by decide) (by decide)), (r (55) (by decide) (by decide)), fun z => absurd z.2.2 (by decide)⟩).trans (congrArg some (fi_t p0))
  have c32 : kt_most A ((onn A : Nat) : Int) = some (-101) := kx_t ⟨W, rn, pn⟩
  have c33 : kt_best A (0 : Int) (0 : Int) = some (-102) := kx_t ⟨W, (r (0) (by decide) (by decide)), (r (0) (by decide) (by decide)), by decide⟩
  have c34 : kt_best A (5 : Int) (0 : Int) = some (-102) := kx_t ⟨W, (r (5) (by decide) (by decide)), (r (0) (by decide) (by decide)), by decide⟩
  have c35 : kt_best A (2 : Int) (3 : Int) = some (-102) := kx_t ⟨W, (r (2) (by decide) (by decide)), (r (3) (by decide) (by decide)), by decide⟩
  have c36 : kt_best A (2 : Int) (-1 : Int) = some (-102) := kx_t ⟨W, (r (2) (by decide) (by decide)), (r (-1) (by decide) (by decide)), by decide⟩
  have c37 : kt_origins A (0 : Int) (0 : Int) = some (-102) := kx_t ⟨W, (r (0) (by decide) (by decide)), (r (0) (by decide) (by decide)), by decide⟩
  have c38 : kt_origins A (10 : Int) (0 : Int) = some (-102) := kx_t ⟨W, (r (10) (by decide) (by decide)), (r (0) (by decide) (by decide)), by decide⟩
  have c39 : kt_origins A (2 : Int) (100 : Int) = some (-102) := kx_t ⟨W, (r (2) (by decide) (by decide)), (r (100) (by decide) (by decide)), by decide⟩
  have c40 : kt_origins A (2 : Int) (-1 : Int) = some (-102) := kx_t ⟨W, (r (2) (by decide) (by decide)), (r (-1) (by decide) (by decide)), by decide⟩
  have c41 : kt_script A (0 : Int) (0 : Int) = some (-102) := kx_t ⟨W, (r (0) (by decide) (by decide)), by decide, by decide⟩
  have c42 : kt_script A (5 : Int) (0 : Int) = some (-102) := kx_t ⟨W, (r (5) (by decide) (by decide)), by decide, by decide⟩
  have c43 : kt_script A (1 : Int) (10000 : Int) = some (-102) := kx_t ⟨W, (r (1) (by decide) (by decide)), by decide, by decide⟩
  have c44 : kt_script A (1 : Int) (-1 : Int) = some (-102) := kx_t ⟨W, (r (1) (by decide) (by decide)), by decide, by decide⟩
  have c45 : kt_simulate A (1 : Int) (0 : Int) = some (-102) := kx_t ⟨W, (r (1) (by decide) (by decide)), (r (0) (by decide) (by decide)), by omega⟩
  have c46 : kt_simulate A (1 : Int) (101 : Int) = some (-102) := kx_t ⟨W, (r (1) (by decide) (by decide)), (r (101) (by decide) (by decide)), by omega⟩
  have c47 : kt_save A (2 : Int) = some (-101) := kx_t ⟨W, (r (2) (by decide) (by decide)), by omega⟩
  have c48 : kt_restore A (-1 : Int) = some (-101) := kx_t ⟨W, (r (-1) (by decide) (by decide)), by omega⟩
  unfold sh_L_errors
  rw [e0, Option.bind_some]
  rw [c0, Option.bind_some, if_pos rfl, c1, Option.bind_some, if_pos rfl, c2, Option.bind_some, if_pos rfl, c3, Option.bind_some, if_pos rfl, c4, Option.bind_some, if_pos rfl, c5, Option.bind_some, if_pos rfl, c6, Option.bind_some, if_pos rfl, c7, Option.bind_some, if_pos rfl]
  rw [c8, Option.bind_some, if_pos rfl, c9, Option.bind_some, if_pos rfl, c10, Option.bind_some, if_pos rfl, c11, Option.bind_some, if_pos rfl, c12, Option.bind_some, if_pos rfl, c13, Option.bind_some, if_pos rfl, c14, Option.bind_some, if_pos rfl, c15, Option.bind_some, if_pos rfl]
  rw [c16, Option.bind_some, if_pos rfl, c17, Option.bind_some, if_pos rfl, c18, Option.bind_some, if_pos rfl, c19, Option.bind_some, if_pos rfl, c20, Option.bind_some, if_pos rfl, c21, Option.bind_some, if_pos rfl, c22, Option.bind_some, if_pos rfl, c23, Option.bind_some, if_pos rfl]
  rw [c24, Option.bind_some, if_pos rfl, c25, Option.bind_some, if_pos rfl, c26, Option.bind_some, if_pos rfl, c27, Option.bind_some, if_pos rfl, c28, Option.bind_some, if_pos rfl, c29, Option.bind_some, if_pos rfl, c30, Option.bind_some, if_pos rfl, c31, Option.bind_some, if_pos rfl]
  rw [c32, Option.bind_some, if_pos rfl, c33, Option.bind_some, if_pos rfl, c34, Option.bind_some, if_pos rfl, c35, Option.bind_some, if_pos rfl, c36, Option.bind_some, if_pos rfl, c37, Option.bind_some, if_pos rfl, c38, Option.bind_some, if_pos rfl, c39, Option.bind_some, if_pos rfl]
  rw [c40, Option.bind_some, if_pos rfl, c41, Option.bind_some, if_pos rfl, c42, Option.bind_some, if_pos rfl, c43, Option.bind_some, if_pos rfl, c44, Option.bind_some, if_pos rfl, c45, Option.bind_some, if_pos rfl, c46, Option.bind_some, if_pos rfl, c47, Option.bind_some, if_pos rfl]
  rw [c48, Option.bind_some, if_pos rfl]
  exact L
theorem alike_L (W : zOK 90000 A) {F : Nat} (k : Int → Option Int) : ∀ (m p N : Nat), p + m = 16 → m < N → sh_L_alike_L53 F A A k N (p : Int) = k 16 := by
  intro m
  induction m with
  | zero =>
    intro p N hi hN
    obtain ⟨N, rfl⟩ : ∃ M, N = M + 1 := ⟨N - 1, by omega⟩
    have : p = 16 := by omega
    subst this
    rw [sh_L_alike_L53, zkr_t (by decide) (by decide), if_neg (by decide)]
    rfl
  | succ m ih =>
    intro p N hi hN
    obtain ⟨N, rfl⟩ : ∃ M, N = M + 1 := ⟨N - 1, by omega⟩
    have rp : i32 (p : Int) := ⟨by omega, by omega⟩
    have z1 := zmod_rng (x := (p : Int)) (m := 5) (by decide)
    have z2 := zmod_rng (x := (p : Int)) (m := 9) (by decide)
    have q1 : i32 ((1 : Int) + zmod (p : Int) (5 : Int)) := ⟨by omega, by omega⟩
    have q2 : i32 ((1 : Int) + zmod (p : Int) (9 : Int)) := ⟨by omega, by omega⟩
    unfold sh_L_alike_L53 kx_ready kx_blockers kx_slack kx_most kx_bucketsFor kx_waste
    rw [zkr_t (by omega) (by omega), if_pos (by omega), kx_t ⟨W, rp⟩, Option.bind_some, Option.bind_some, if_pos rfl, kx_t ⟨W, rp⟩, Option.bind_some, Option.bind_some, if_pos rfl, kx_t ⟨W, rp⟩, Option.bind_some, Option.bind_some, if_pos rfl, kx_t ⟨W, rp⟩, Option.bind_some, Option.bind_some, if_pos rfl, kx_t ⟨W, rp, q1⟩, Option.bind_some, Option.bind_some, if_pos rfl, kx_t ⟨W, rp, q2⟩, Option.bind_some, Option.bind_some, if_pos rfl, nc_s]
    exact ih (p + 1) N (by omega) (by omega)
theorem alike_ok (W : zOK 90000 A) {F : Nat} (hF : 100 ≤ F) : sh_L_alike F A A = some 1 := by
  have hr := nowv_rng W.wf
  have b1 : ∀ i : Int, 0 ≤ i → i ≤ 2 → kn_best A 2 i = some (v_best A 2 i) := fun i h1 h2 => by
    unfold kn_best
    rw [kx_t ⟨W, ⟨by decide, by decide⟩, h1, h2⟩]
  obtain ⟨N, rfl⟩ : ∃ M, F = M + 4 := ⟨F - 4, by omega⟩
  have L2 : ∀ k : Int → Option Int, sh_L_alike_L177 (N + 4) A A k (N + 4) (0 : Int) = k 3 := by
    intro k
    rw [sh_L_alike_L177, zkr_t (by decide) (by decide), if_neg (by decide), b1 0 (by decide) (by decide), Option.bind_some, Option.bind_some, if_pos rfl]
    rw [sh_L_alike_L177, zkr_t (by decide) (by decide), if_neg (by decide), b1 (0 + 1) (by decide) (by decide), Option.bind_some, Option.bind_some, if_pos rfl]
    rw [sh_L_alike_L177, zkr_t (by decide) (by decide), if_neg (by decide), b1 (0 + 1 + 1) (by decide) (by decide), Option.bind_some, Option.bind_some, if_pos rfl]
    rw [sh_L_alike_L177, zkr_t (by decide) (by decide), if_pos (by decide)]
    rfl
  unfold sh_L_alike kd_pointCount kd_errorPosition kd_nextByOrder
  rw [kx_t W, Option.bind_some, Option.bind_some, if_pos rfl, now_eq W hF, Option.bind_some, Option.bind_some, zkl_t (by omega) (by omega), zkl_t (by omega) (by omega), if_pos rfl, kx_t W, Option.bind_some, Option.bind_some, if_pos rfl, kx_t W, Option.bind_some, Option.bind_some, if_pos rfl]
  have L1 := fun k => alike_L W (F := N + 4) k 16 0 17 (by omega) (by omega)
  rw [show ((0 : Nat) : Int) = (0 : Int) from rfl] at L1
  rw [L1, L2]
  unfold kn_best kn_ahead kn_origins kn_simulate kn_script
  rw [kx_t ⟨W, ⟨by decide, by decide⟩, by decide, by decide⟩, Option.bind_some, Option.bind_some, if_pos rfl, kx_t ⟨W, by decide, by decide⟩, Option.bind_some, Option.bind_some, if_pos rfl, kx_t ⟨W, ⟨by decide, by decide⟩, by decide, by decide, by decide⟩, Option.bind_some, Option.bind_some, if_pos rfl, kx_t ⟨W, ⟨by decide, by decide⟩, by decide, by decide⟩, Option.bind_some, Option.bind_some, if_pos rfl, kx_t ⟨W, ⟨by decide, by decide⟩, by decide, by decide⟩, Option.bind_some, Option.bind_some, if_pos rfl]
end ERR
