/-! THE CLASS ALONE: more of it (out of whole's parts 70) -/
theorem rp_in {F h w p : Nat} {size : Int} {ro co ne nc : Nat → Int} (G : gz_ok h w size ro co ne nc) (hp : p < h * w) : sh_X8_requirePoint F size (p : Int) = some 0 := by
  have hn := gz_n16 G.2.1 G.2.2.2.1
  unfold sh_X8_requirePoint
  rw [c_has F h w size (p : Int) ro co ne nc G (by omega), Option.bind_some, if_pos (by omega)]
  rfl
theorem rp_out {F h w : Nat} {x size : Int} {ro co ne nc : Nat → Int} (G : gz_ok h w size ro co ne nc) (hx : -2147483648 ≤ x ∧ x ≤ 2147483647) (hp : ¬ (0 ≤ x ∧ x < ((h * w : Nat) : Int))) : sh_X8_requirePoint F size x = some 1 := by
  unfold sh_X8_requirePoint
  rw [c_has F h w size x ro co ne nc G hx, Option.bind_some, if_neg hp]
  rfl
theorem pt_cases {h w : Nat} (x : Int) : (∃ p : Nat, x = (p : Int) ∧ p < h * w) ∨ ¬ (0 ≤ x ∧ x < ((h * w : Nat) : Int)) := by
  by_cases c : 0 ≤ x ∧ x < ((h * w : Nat) : Int)
  · exact Or.inl ⟨x.toNat, by omega, by omega⟩
  · exact Or.inr c
theorem rr_in {F : Nat} {x lo hi : Int} (hl : -1000 ≤ lo ∧ lo ≤ 1000) (hh : -1000 ≤ hi ∧ hi ≤ 1000) (h : lo ≤ x ∧ x ≤ hi) : sh_X8_requireRange F x lo hi = some 0 := by
  unfold sh_X8_requireRange
  rw [zkr_t (by omega) (by omega), zkr_t (by omega) (by omega), if_neg (by omega), zkr_t (by omega) (by omega), if_neg (by omega)]
theorem rr_out {F : Nat} {x lo hi : Int} (hl : -1000 ≤ lo ∧ lo ≤ 1000) (hh : -1000 ≤ hi ∧ hi ≤ 1000) (hx : -2147483648 ≤ x ∧ x ≤ 2147483647) (h : ¬ (lo ≤ x ∧ x ≤ hi)) : sh_X8_requireRange F x lo hi = some 2 := by
  unfold sh_X8_requireRange
  rw [zkr_t (by omega) (by omega), zkr_t (by omega) (by omega)]
  by_cases c : x < lo
  · rw [if_pos c]
  · rw [if_neg c, zkr_t (by omega) (by omega), if_pos (by omega)]
theorem ab_most_rng (n w : Nat) (a : zAb) (p : Nat) : ∀ (m k : Nat), 0 ≤ ab_most n w a p m k ∧ ab_most n w a p m k ≤ (k + m : Nat)
  | 0, k => by rw [ab_most]; omega
  | m + 1, k => by
    rw [ab_most]
    split
    · omega
    · have := ab_most_rng n w a p m (k + 1); omega
theorem ab_waste_rng (g : Int) : ∀ (l : zSl) (v : Int), (∀ x ∈ l, 1 ≤ x.1 ∧ x.1 ≤ 9 ∧ 0 ≤ x.2 ∧ x.2 ≤ 9) → 0 ≤ v → -9 ≤ ab_waste l g v ∧ ab_waste l g v ≤ v + ab_left l
  | [], v, _, hv => by rw [ab_waste, ab_left]; omega
  | x :: l, v, h, hv => by
    have h1 := h x List.mem_cons_self
    have h2 := ab_left_le (l := l) (fun y hy => h y (List.mem_cons_of_mem _ hy))
    rw [ab_waste, ab_left]
    split
    · omega
    · have := ab_waste_rng g l (v + x.1) (fun y hy => h y (List.mem_cons_of_mem _ hy)) (by omega); omega
theorem ab_go_short {n w : Nat} : ∀ (m : Nat) (a : zAb), (ab_go n w m a).1 ≠ (m : Int) → ab_next n w (ab_go n w m a).2 = -9
  | 0, a, h => absurd rfl h
  | m + 1, a, h => by
    rw [ab_go] at h ⊢
    by_cases c : ab_next n w a = -9
    · rw [if_pos c]; exact c
    · rw [if_neg c] at h ⊢
      exact ab_go_short m _ (fun z => h (by show _ + (1 : Int) = _; omega))
def ab_add (a : zAb) (p : Nat) (x y : Int) : zAb := (fun q => if q = p then ab_col a q ++ [(x, y)] else ab_col a q, ab_dr a, ab_hg a, ab_lim a, ab_bs a, ab_gs a)
theorem ab_add_wf {n w : Nat} {b : Int} {a : zAb} (W : ab_wf n w b a) {p : Nat} {x y : Int} (hl : (ab_col a p).length < 6) (hx : 1 ≤ x ∧ x ≤ 9) (hy : 0 ≤ y ∧ y ≤ 9) : ab_wf n w b (ab_add a p x y) := by
  refine ⟨fun q hq => ⟨?_, (W.1 q hq).2⟩, W.2⟩
  have r := (W.1 q hq).1
  show ab_ok (if q = p then ab_col a q ++ [(x, y)] else ab_col a q)
  split
  · rename_i e
    subst e
    refine ⟨by rw [List.length_append, List.length_singleton]; omega, fun z hz => ?_⟩
    rcases List.mem_append.mp hz with hz | hz
    · exact r.2 z hz
    · rw [List.mem_singleton] at hz
      subst hz
      exact ⟨hx.1, hx.2, hy.1, hy.2⟩
  · exact r
theorem Rc.pile {F n : Nat} {bk gr ht dr : Nat → Int} {lim hs bs gs : Int} {a : zAb} (R : Rc n bk gr ht dr lim hs bs gs a) (hn : n ≤ 16) {p j : Nat} (hp : p < n) (hj : ht p = (j : Int)) (h6 : j < 6) (x y : Int) : sh_X0_pile F bk gr ht (p : Int) x y = some (va_up bk (6 * p + j) x, va_up gr (6 * p + j) y, va_up ht p ((j + 1 : Nat) : Int)) ∧ Rc n (va_up bk (6 * p + j) x) (va_up gr (6 * p + j) y) (va_up ht p ((j + 1 : Nat) : Int)) dr lim hs bs gs (ab_add a p x y) := by
  refine ⟨c_pile (by omega) h6 hj, fun q hq => ?_, R.2⟩
  have r := R.1 q hq
  by_cases e : q = p
  · subst e
    rw [up_s]
    refine ⟨by omega, ?_, r.2.2⟩
    rw [Int.toNat_natCast, cl_snoc, up_s, up_s]
    show _ = (if q = q then ab_col a q ++ [(x, y)] else ab_col a q)
    rw [if_pos rfl, ← r.2.1, hj, Int.toNat_natCast]
    refine congrArg (· ++ [(x, y)]) (cl_congr _ _ _ (fun i hi => ?_))
    rw [up_n _ _ _ (by omega), up_n _ _ _ (by omega)]
    exact ⟨rfl, rfl⟩
  · rw [up_n _ _ _ e]
    refine ⟨r.1, ?_, r.2.2⟩
    show _ = (if q = p then ab_col a q ++ [(x, y)] else ab_col a q)
    rw [if_neg e, ← r.2.1]
    refine cl_congr _ _ _ (fun i hi => ?_)
    have r1 := r.1
    rw [up_n _ _ _ (by omega), up_n _ _ _ (by omega)]
    exact ⟨rfl, rfl⟩
def ab_lims (a : zAb) (l : Int) : zAb := (ab_col a, ab_dr a, ab_hg a, l, ab_bs a, ab_gs a)
theorem ab_lims_wf {n w : Nat} {b l : Int} {a : zAb} (W : ab_wf n w b a) (hf : ab_fits n w a l = true) (hl : 1 ≤ l ∧ l ≤ 9) : ab_wf n w b (ab_lims a l) := by
  refine ⟨W.1, fun p q hp hq hd => ?_, hl, W.2.2.2⟩
  have h1 := List.all_eq_true.mp hf p (List.mem_range'_1.mpr (by omega))
  have h2 := List.all_eq_true.mp h1 q (gz_nb_mem.mpr ⟨hq, hd⟩)
  exact of_decide_eq_true h2
theorem Rc.lims {n : Nat} {bk gr ht dr : Nat → Int} {lim hs bs gs l : Int} {a : zAb} (R : Rc n bk gr ht dr lim hs bs gs a) : Rc n bk gr ht dr l hs bs gs (ab_lims a l) := ⟨R.1, R.2.1, rfl, R.2.2.2.1, R.2.2.2.2⟩
theorem c_forget7 {F : Nat} (hF : 20 ≤ F) (fl : Nat → Int) : sh_X7_forget F fl = some (va_up (va_up fl 0 0) 1 0) := by
  obtain ⟨N, rfl⟩ : ∃ M, F = M + 3 := ⟨F - 3, by omega⟩
  unfold sh_X7_forget
  rw [sh_X7_forget_L2, zkr_t (by decide) (by decide), if_pos (by decide), zkx_t (by decide) (by decide), sh_X7_forget_L2, zkr_t (by decide) (by decide), if_pos (by decide), zkx_t (by decide) (by decide), sh_X7_forget_L2, zkr_t (by decide) (by decide), if_neg (by decide)]
  rfl
theorem rs_in {F s : Nat} (hs : s < 2) : sh_X8_requireSlot F (s : Int) = some 0 := by
  unfold sh_X8_requireSlot
  rw [zkr_t (by omega) (by omega), if_neg (by omega), if_pos (by omega)]
theorem rs_out {F : Nat} {y : Int} (hx : -2147483648 ≤ y ∧ y ≤ 2147483647) (h : ¬ (0 ≤ y ∧ y ≤ 1)) : sh_X8_requireSlot F y = some 1 := by
  unfold sh_X8_requireSlot
  rw [zkr_t hx.1 hx.2]
  by_cases c : y < 0
  · rw [if_pos c]
  · rw [if_neg c, if_neg (by omega)]
theorem tx_end_rng {L : Nat} (hL : L ≤ 120) {m at0 : Nat} {s : Nat → Int} (ha : at0 ≤ L) : -9 ≤ tx_end L (ps L s m at0) ∧ tx_end L (ps L s m at0) ≤ 120 := by
  have h := ps_le (L := L) (s := s) m at0 ha
  cases hp : ps L s m at0 with
  | inl e =>
    have := h.1 e hp
    show -9 ≤ (e : Int) ∧ (e : Int) ≤ 120
    omega
  | inr r =>
    have := (h.2 r hp).1
    show -9 ≤ (if r.1 < L then (r.1 : Int) else -9) ∧ (if r.1 < L then (r.1 : Int) else -9) ≤ 120
    split <;> omega
theorem tx_err_rng {L : Nat} {s : Nat → Int} (hL : L ≤ 120) : -9 ≤ tx_err L s ∧ tx_err L s ≤ 120 := by
  unfold tx_err
  split
  · split
    · split
      · split
        · have := sg_in (L := L) (s := s) (j := 3) (by omega)
          exact tx_end_rng hL (by omega)
        · omega
      · omega
    · omega
  · omega
theorem fo_inv {P : zBst → Prop} {f : Nat → zBst → zBst} {n : Nat} (hf : ∀ p B, p < n → P B → P (f p B)) : ∀ (c p : Nat) (B : zBst), p + c ≤ n → P B → P (fo f c p B)
  | 0, _, _, _, h => h
  | c + 1, p, B, hp, h => fo_inv hf c (p + 1) _ (by omega) (hf p B (by omega) h)
def bs_q (N : Nat) (B : zBst) : Prop := (B.1 = -9 → ∀ j, B.2 j = -9) ∧ ∀ j, -9 ≤ B.2 j ∧ B.2 j ≤ (N : Int)
theorem bs_qq {n w N : Nat} (hnN : n ≤ N) : ∀ (m d : Nat) (s b : Int) (tr : Nat → Int) (a : zAb) (B : zBst), ab_wf n w b a → 0 ≤ s → (∀ j, -9 ≤ tr j ∧ tr j ≤ (N : Int)) → bs_q N B → bs_q N (bs n w m d s tr a B)
  | 0, d, s, b, tr, a, B, W, h0, ht, hB => by
    rw [bs]
    split
    · exact ⟨fun z => by have z' : s = -9 := z; omega, ht⟩
    · exact hB
  | m + 1, d, s, b, tr, a, B, W, h0, ht, hB => by
    rw [bs_s]
    refine fo_inv (P := bs_q N) (n := n) (fun p B hp hB => ?_) n 0 B (by omega) hB
    unfold bs_f
    split
    · rename_i hsl
      have hg := ab_grade0 (W.1 p hp).1 (ab_slack_pos W hp hsl).2.1
      exact bs_qq hnN m (d + 1) _ (b + 1) _ _ B (ab_take_wf W hp hsl) (by omega) (fun j => by
        by_cases e : j = d
        · subst e; rw [up_s]; omega
        · rw [up_n _ _ _ e]; exact ht j) hB
    · exact hB
theorem ix_i1 (i : Nat) : ((i : Int) + (1 : Int)).toNat = i + 1 := by omega
theorem zlor_rng (x y : Int) : -9223372036854775808 ≤ zlor x y ∧ zlor x y ≤ 9223372036854775807 := by
  unfold zlor
  have h1 := Int64.toInt_lt (zl x ||| zl y)
  have h2 := Int64.le_toInt (zl x ||| zl y)
  omega
