/-! TAKING a bucket -/
theorem up_at (f : Nat → Int) (k : Nat) (v : Int) (j : Nat) : va_up f k v j = if j = k then v else f j := rfl
theorem cpy_at (f g : Nat → Int) (a b n j : Nat) : va_cpy f g a b n j = if b ≤ j ∧ j < b + n then f (a + (j - b)) else g j := rfl
theorem up_s (f : Nat → Int) (k : Nat) (v : Int) : va_up f k v k = v := if_pos rfl
theorem up_n (f : Nat → Int) (k : Nat) (v : Int) {j : Nat} (h : j ≠ k) : va_up f k v j = f j := if_neg h
theorem cl_congr {b g b' g' : Nat → Int} : ∀ (n o o' : Nat), (∀ i, i < n → b (o + i) = b' (o' + i) ∧ g (o + i) = g' (o' + i)) → cl_of b g o n = cl_of b' g' o' n
  | 0, _, _, _ => rfl
  | n + 1, o, o', h => by
    rw [cl_of, cl_of, cl_congr n (o + 1) (o' + 1) (fun i hi => by
      have := h (i + 1) (by omega)
      rw [show o + 1 + i = o + (i + 1) by omega, show o' + 1 + i = o' + (i + 1) by omega]; exact this)]
    have h0 := h 0 (by omega)
    rw [Nat.add_zero, Nat.add_zero] at h0
    rw [h0.1, h0.2]
theorem ml_congr {f f' : Nat → Int} : ∀ (n o o' : Nat), (∀ i, i < 2 * n → f (o + i) = f' (o' + i)) → ml_of f o n = ml_of f' o' n
  | 0, _, _, _ => rfl
  | n + 1, o, o', h => by
    rw [ml_of, ml_of, ml_congr n (o + 2) (o' + 2) (fun i hi => by
      have := h (i + 2) (by omega)
      rw [show o + 2 + i = o + (i + 2) by omega, show o' + 2 + i = o' + (i + 2) by omega]; exact this)]
    have h0 := h 0 (by omega)
    rw [Nat.add_zero, Nat.add_zero] at h0
    rw [h0, h 1 (by omega)]
def ab_take (a : zAb) (p : Nat) : zAb := (fun q => if q = p then ab_drop (ab_col a p) else ab_col a q, fun q => if q = p then ab_dr a p + 1 else ab_dr a q, ab_hg a, ab_lim a, ab_bs a + 1, ab_gs a + ab_grade (ab_col a p) 0)
theorem tk_col_s (a : zAb) (p : Nat) : ab_col (ab_take a p) p = ab_drop (ab_col a p) := if_pos rfl
theorem tk_col_n (a : zAb) {p q : Nat} (h : q ≠ p) : ab_col (ab_take a p) q = ab_col a q := if_neg h
theorem tk_dr_s (a : zAb) (p : Nat) : ab_dr (ab_take a p) p = ab_dr a p + 1 := if_pos rfl
theorem tk_dr_n (a : zAb) {p q : Nat} (h : q ≠ p) : ab_dr (ab_take a p) q = ab_dr a q := if_neg h
theorem ab_grade0 {l : zSl} (h : ab_ok l) (hne : l ≠ []) : 0 ≤ ab_grade l 0 ∧ ab_grade l 0 ≤ 9 := by
  cases l with
  | nil => exact absurd rfl hne
  | cons x l =>
    have := h.2 x List.mem_cons_self
    rw [ab_grade, if_pos (by omega)]
    omega
theorem ab_slack_pos {n w : Nat} {b : Int} {a : zAb} (W : ab_wf n w b a) {p : Nat} (hp : p < n) (h : 0 < ab_slack n w a p) : ab_hg a p = false ∧ ab_col a p ≠ [] ∧ ∀ q ∈ gz_nb n w p, ab_dr a p < ab_lim a + ab_dr a q := by
  unfold ab_slack at h
  cases hh : ab_hg a p with
  | true => rw [hh, if_pos rfl] at h; exact absurd h (by decide)
  | false =>
    rw [hh, if_neg (by decide)] at h
    refine ⟨rfl, ?_, ?_⟩
    · have h1 := gz_min_le (f := fun q => ab_lim a + ab_dr a q - ab_dr a p) (gz_nb n w p) (ab_left (ab_col a p))
      intro z
      rw [z, ab_left] at h1
      rw [z, ab_left] at h
      omega
    · intro q hq
      by_cases hc : ab_dr a p < ab_lim a + ab_dr a q
      · exact hc
      · have := (gz_min_lt (b := 1) (f := fun q => ab_lim a + ab_dr a q - ab_dr a p) (gz_nb n w p) (ab_left (ab_col a p))).mpr (Or.inr ⟨q, hq, by omega⟩)
        omega
theorem ab_take_wf {n w : Nat} {b : Int} {a : zAb} (W : ab_wf n w b a) {p : Nat} (hp : p < n) (h : 0 < ab_slack n w a p) : ab_wf n w (b + 1) (ab_take a p) := by
  obtain ⟨-, hne, hq⟩ := ab_slack_pos W hp h
  have hp' := W.1 p hp
  have hg := ab_grade0 hp'.1 hne
  refine ⟨fun q hq => ?_, fun r q hr hq' hd => ?_, W.2.2.1, ?_, ?_⟩
  · by_cases c : q = p
    · subst c; rw [tk_col_s, tk_dr_s]; exact ⟨ab_drop_ok hp'.1, by omega, by omega⟩
    · rw [tk_col_n a c, tk_dr_n a c]; have := W.1 q hq; exact ⟨this.1, this.2.1, by omega⟩
  · show ab_dr (ab_take a p) r - ab_dr (ab_take a p) q ≤ ab_lim a
    have h0 := W.2.1 r q hr hq' hd
    by_cases c : r = p
    · subst c
      by_cases c2 : q = r
      · subst c2; rw [gz_self] at hd; omega
      · rw [tk_dr_s, tk_dr_n a c2]; have := hq q (gz_nb_mem.mpr ⟨hq', hd⟩); omega
    · rw [tk_dr_n a c]
      by_cases c2 : q = p
      · subst c2; rw [tk_dr_s]; omega
      · rw [tk_dr_n a c2]; omega
  · show 0 ≤ ab_bs a + 1 ∧ ab_bs a + 1 ≤ b + 1
    have := W.2.2.2.1; omega
  · show 0 ≤ ab_gs a + ab_grade (ab_col a p) 0 ∧ ab_gs a + ab_grade (ab_col a p) 0 ≤ 9 * (b + 1)
    have := W.2.2.2.2; omega
theorem Rc.take {F n w : Nat} {bk gr ht dr : Nat → Int} {lim hs bs gs b : Int} {a : zAb} (R : Rc n bk gr ht dr lim hs bs gs a) (W : ab_wf n w b a) (hn : n ≤ 16) {p : Nat} (hp : p < n) (hne : ab_col a p ≠ []) : ∃ bs' gs' bk' gr' ht' dr', sh_X0_take F bs gs bk gr ht dr (p : Int) = some (ab_grade (ab_col a p) 0, bs', gs', bk', gr', ht', dr') ∧ Rc n bk' gr' ht' dr' lim hs bs' gs' (ab_take a p) := by
  have r := R.1 p hp
  obtain ⟨x, l, hl⟩ : ∃ x l, ab_col a p = x :: l := by
    cases h : ab_col a p with
    | nil => exact absurd h hne
    | cons x l => exact ⟨x, l, rfl⟩
  have e := r.2.1
  rw [hl] at e
  obtain ⟨m, hm⟩ : ∃ m, (ht p).toNat = m + 1 := by
    cases h : (ht p).toNat with
    | zero => rw [h, cl_of] at e; cases e
    | succ m => exact ⟨m, rfl⟩
  rw [hm, cl_of] at e
  injection e with e1 e2
  have hb : bk (6 * p) = x.1 := by rw [← e1]
  have hg : gr (6 * p) = x.2 := by rw [← e1]
  have hx := (W.1 p hp).1.2 x (by rw [hl]; exact List.mem_cons_self)
  have eg : ab_grade (ab_col a p) 0 = gr (6 * p) := by rw [hl, ab_grade, if_pos (by omega), hg]
  have i5 : (5 : Int).toNat = 5 := rfl
  unfold sh_X0_take
  simp (disch := omega) only [ix_n, ix_60, zkx_t, zkr_t, if_neg, up_s, hb]
  rw [eg]
  have ebs := R.2.2.2.1
  have egs := R.2.2.2.2
  by_cases h1 : x.1 - 1 = 0
  · rw [if_pos h1]
    unfold sh_X0_dropLowest
    simp (disch := omega) only [zkc_t, zkx_t, ix_n, ix_60, ix_61, i5, Option.bind_some]
    refine ⟨_, _, _, _, _, _, rfl, fun q hq => ?_, R.2.1, R.2.2.1, ?_, ?_⟩
    · have rq := R.1 q hq
      by_cases c : q = p
      · subst c
        rw [up_s, up_s, tk_col_s, tk_dr_s, hl, ab_drop, if_pos (by omega)]
        refine ⟨by omega, ?_, by rw [rq.2.2.1], rq.2.2.2⟩
        rw [show (ht q - 1).toNat = m by omega, ← e2]
        refine cl_congr m _ _ (fun i hi => ?_)
        simp (disch := omega) only [cpy_at, up_at, if_pos, if_neg]
        rw [show 6 * q + 1 + (6 * q + i - 6 * q) = 6 * q + 1 + i by omega]
        exact ⟨rfl, rfl⟩
      · rw [up_n _ _ _ c, up_n _ _ _ c, tk_col_n a c, tk_dr_n a c]
        refine ⟨rq.1, ?_, rq.2.2.1, rq.2.2.2⟩
        rw [← rq.2.1]
        refine cl_congr _ _ _ (fun i hi => ?_)
        simp (disch := omega) only [cpy_at, up_at, if_neg]
        exact ⟨trivial, trivial⟩
    · show bs + 1 = ab_bs a + 1
      rw [ebs]
    · show gs + gr (6 * p) = ab_gs a + ab_grade (ab_col a p) 0
      rw [egs, eg]
  · rw [if_neg h1]
    refine ⟨_, _, _, _, _, _, rfl, fun q hq => ?_, R.2.1, R.2.2.1, ?_, ?_⟩
    · have rq := R.1 q hq
      by_cases c : q = p
      · subst c
        rw [up_s, tk_col_s, tk_dr_s, hl, ab_drop, if_neg (by omega), hm, cl_of, up_s, hg, ← e2]
        refine ⟨rq.1, ?_, by rw [rq.2.2.1], rq.2.2.2⟩
        refine congrArg _ (cl_congr m _ _ (fun i hi => ?_))
        rw [up_n _ _ _ (by omega)]
        exact ⟨rfl, rfl⟩
      · rw [up_n _ _ _ c, tk_col_n a c, tk_dr_n a c]
        refine ⟨rq.1, ?_, rq.2.2.1, rq.2.2.2⟩
        rw [← rq.2.1]
        refine cl_congr _ _ _ (fun i hi => ?_)
        rw [up_n _ _ _ (by omega)]
        exact ⟨rfl, rfl⟩
    · show bs + 1 = ab_bs a + 1
      rw [ebs]
    · show gs + gr (6 * p) = ab_gs a + ab_grade (ab_col a p) 0
      rw [egs, eg]
