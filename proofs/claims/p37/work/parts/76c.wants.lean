/-! THE LAW'S METHODS OVER THE OBJECT: wants -/
def sr (f : Nat → Int) : Nat → Nat → Int
  | 0, _ => 0
  | m + 1, q => f q + sr f m (q + 1)
theorem sr_nn {f : Nat → Int} : ∀ (m q : Nat), (∀ r, q ≤ r → r < q + m → 0 ≤ f r) → 0 ≤ sr f m q
  | 0, _, _ => Int.le_refl _
  | m + 1, q, h => by
    rw [sr]
    have := h q (by omega) (by omega)
    have := sr_nn m (q + 1) (fun r h1 h2 => h r (by omega) (by omega))
    omega
theorem sr_ge {f : Nat → Int} : ∀ (m q : Nat), (∀ r, q ≤ r → r < q + m → 0 ≤ f r) → ∀ p, q ≤ p → p < q + m → f p ≤ sr f m q
  | 0, _, _, p, h1, h2 => by omega
  | m + 1, q, h, p, h1, h2 => by
    rw [sr]
    have h0 := h q (by omega) (by omega)
    have hn := sr_nn m (q + 1) (fun r h1 h2 => h r (by omega) (by omega))
    by_cases c : p = q
    · subst c; omega
    · have := sr_ge m (q + 1) (fun r h1 h2 => h r (by omega) (by omega)) p (by omega) (by omega)
      omega
theorem sr_ge2 {f : Nat → Int} : ∀ (m q : Nat), (∀ r, q ≤ r → r < q + m → 0 ≤ f r) → ∀ p o, q ≤ p → p < q + m → q ≤ o → o < q + m → p ≠ o → f p + f o ≤ sr f m q
  | 0, _, _, p, o, h1, h2, _, _, _ => by omega
  | m + 1, q, h, p, o, h1, h2, h3, h4, hne => by
    rw [sr]
    have h0 := h q (by omega) (by omega)
    have hh : ∀ r, q + 1 ≤ r → r < q + 1 + m → 0 ≤ f r := fun r h1 h2 => h r (by omega) (by omega)
    by_cases c : p = q
    · have := sr_ge m (q + 1) hh o (by omega) (by omega)
      rw [c]; omega
    · by_cases c2 : o = q
      · have := sr_ge m (q + 1) hh p (by omega) (by omega)
        rw [c2]; omega
      · have := sr_ge2 m (q + 1) hh p o (by omega) (by omega) (by omega) (by omega) hne
        omega
theorem sr_0 {f : Nat → Int} : ∀ (m q : Nat), (∀ r, q ≤ r → r < q + m → f r = 0) → sr f m q = 0
  | 0, _, _ => rfl
  | m + 1, q, h => by rw [sr, h q (by omega) (by omega), sr_0 m (q + 1) (fun r h1 h2 => h r (by omega) (by omega))]; rfl
theorem sr_one {f : Nat → Int} : ∀ (m q : Nat) (p : Nat), q ≤ p → p < q + m → (∀ r, q ≤ r → r < q + m → r ≠ p → f r = 0) → sr f m q = f p
  | 0, _, p, h1, h2, _ => by omega
  | m + 1, q, p, h1, h2, h => by
    rw [sr]
    by_cases c : p = q
    · subst c
      rw [sr_0 m (p + 1) (fun r h1 h2 => h r (by omega) (by omega) (by omega))]
      omega
    · rw [h q (by omega) (by omega) (fun z => c z.symm), sr_one m (q + 1) p (by omega) (by omega) (fun r h1 h2 hr => h r (by omega) (by omega) hr)]
      omega
theorem sr_up {f g : Nat → Int} : ∀ (m q : Nat) (p : Nat), q ≤ p → p < q + m → (∀ r, q ≤ r → r < q + m → r ≠ p → g r = f r) → sr g m q = sr f m q + (g p - f p)
  | 0, _, p, h1, h2, _ => by omega
  | m + 1, q, p, h1, h2, h => by
    rw [sr, sr]
    by_cases c : p = q
    · subst c
      have : ∀ (m q : Nat), (∀ r, q ≤ r → r < q + m → g r = f r) → sr g m q = sr f m q := by
        intro m
        induction m with
        | zero => intro q _; rfl
        | succ m ih => intro q hh; rw [sr, sr, hh q (by omega) (by omega), ih (q + 1) (fun r h1 h2 => hh r (by omega) (by omega))]
      rw [this m (p + 1) (fun r h1 h2 => h r (by omega) (by omega) (by omega))]
      omega
    · rw [h q (by omega) (by omega) (fun z => c z.symm), sr_up m (q + 1) p (by omega) (by omega) (fun r h1 h2 hr => h r (by omega) (by omega) hr)]
      omega
/-- what is wanted of a drawpoint -/
def nd (w : Nat) (a : zAb) (p : Nat) (k : Int) (q : Nat) : Int := if 0 < ab_need w a p k q then ab_need w a p k q else 0
def few_bad (w : Nat) (a : zAb) (p : Nat) (k : Int) (q : Nat) : Prop := 0 < ab_need w a p k q ∧ (ab_hg a q = true ∨ ab_left (ab_col a q) < ab_need w a p k q)
theorem nd_nn (w : Nat) (a : zAb) (p : Nat) (k : Int) (q : Nat) : 0 ≤ nd w a p k q := by unfold nd; split <;> omega
theorem few_ok {w : Nat} {a : zAb} {p : Nat} {k : Int} : ∀ (m q : Nat) (s : Int), (∀ r, q ≤ r → r < q + m → ¬ few_bad w a p k r) → ab_few w a p k m q s = s + sr (nd w a p k) m q
  | 0, _, s, _ => by rw [ab_few, sr]; omega
  | m + 1, q, s, h => by
    have h0 := h q (by omega) (by omega)
    rw [ab_few, sr]
    by_cases c : 0 < ab_need w a p k q
    · have e : nd w a p k q = ab_need w a p k q := if_pos c
      rw [if_pos c, if_neg (fun z => h0 ⟨c, z⟩), few_ok m (q + 1) _ (fun r h1 h2 => h r (by omega) (by omega)), e]
      omega
    · have e : nd w a p k q = 0 := if_neg c
      rw [if_neg c, few_ok m (q + 1) _ (fun r h1 h2 => h r (by omega) (by omega)), e]
      omega
theorem few_no {w : Nat} {a : zAb} {p : Nat} {k : Int} : ∀ (m q : Nat) (s : Int) (r : Nat), q ≤ r → r < q + m → few_bad w a p k r → ab_few w a p k m q s = -9
  | 0, _, _, r, h1, h2, _ => by omega
  | m + 1, q, s, r, h1, h2, hb => by
    rw [ab_few]
    by_cases c : 0 < ab_need w a p k q
    · rw [if_pos c]
      by_cases c2 : ab_hg a q = true ∨ ab_left (ab_col a q) < ab_need w a p k q
      · rw [if_pos c2]
      · rw [if_neg c2]
        exact few_no m (q + 1) _ r (by rcases Nat.lt_or_eq_of_le h1 with h | h; omega; subst h; exact absurd hb.2 c2) (by omega) hb
    · rw [if_neg c]
      exact few_no m (q + 1) _ r (by rcases Nat.lt_or_eq_of_le h1 with h | h; omega; subst h; exact absurd hb.1 c) (by omega) hb
theorem few_iff {n w : Nat} {a : zAb} {p : Nat} {k : Int} : (ab_fewest n w a p k = -9 ∧ ∃ r, r < n ∧ few_bad w a p k r) ∨ (ab_fewest n w a p k = sr (nd w a p k) n 0 ∧ 0 ≤ sr (nd w a p k) n 0 ∧ ∀ r, r < n → ¬ few_bad w a p k r) := by
  by_cases c : ∃ r, r < n ∧ few_bad w a p k r
  · obtain ⟨r, h1, h2⟩ := c
    exact Or.inl ⟨few_no n 0 0 r (by omega) (by omega) h2, r, h1, h2⟩
  · have c' : ∀ r, r < n → ¬ few_bad w a p k r := fun r h1 h2 => c ⟨r, h1, h2⟩
    refine Or.inr ⟨?_, sr_nn n 0 (fun r _ _ => nd_nn w a p k r), c'⟩
    unfold ab_fewest
    rw [few_ok n 0 0 (fun r _ h2 => c' r (by omega))]
    omega
theorem few_mono {n w : Nat} {a : zAb} {p : Nat} {k k' : Int} (hk : k ≤ k') (h : ab_fewest n w a p k = -9) : ab_fewest n w a p k' = -9 := by
  rcases few_iff (n := n) (w := w) (a := a) (p := p) (k := k) with ⟨-, r, h1, h2⟩ | ⟨h1, h2, -⟩
  · refine few_no n 0 0 r (by omega) (by omega) ?_
    unfold few_bad ab_need at h2 ⊢
    refine ⟨by omega, ?_⟩
    rcases h2.2 with z | z
    · exact Or.inl z
    · exact Or.inr (by omega)
  · omega
theorem most_spec {n w : Nat} {a : zAb} {p : Nat} : ∀ (m k0 : Nat), (∀ j : Nat, k0 < j → (j : Int) ≤ ab_most n w a p m k0 → ab_fewest n w a p (j : Int) ≠ -9) ∧ (ab_most n w a p m k0 < ((k0 + m : Nat) : Int) → ab_fewest n w a p (ab_most n w a p m k0 + 1) = -9) ∧ (k0 : Int) ≤ ab_most n w a p m k0
  | 0, k0 => by
    rw [ab_most]
    exact ⟨fun j h1 h2 => by omega, fun h => by omega, by omega⟩
  | m + 1, k0 => by
    rw [ab_most]
    by_cases c : ab_fewest n w a p ((k0 + 1 : Nat) : Int) = -9
    · rw [if_pos c]
      exact ⟨fun j h1 h2 => by omega, fun _ => c, by omega⟩
    · rw [if_neg c]
      obtain ⟨h1, h2, h3⟩ := most_spec (n := n) (w := w) (a := a) (p := p) m (k0 + 1)
      refine ⟨fun j hj hj2 => ?_, fun h => h2 (by omega), by omega⟩
      by_cases e : j = k0 + 1
      · subst e; exact c
      · exact h1 j (by omega) hj2
theorem most_iff {n w : Nat} {a : zAb} {p : Nat} {k : Nat} (h1 : 1 ≤ k) (h2 : k ≤ 54) : ab_fewest n w a p (k : Int) = -9 ↔ ab_most n w a p 54 0 < (k : Int) := by
  obtain ⟨s1, s2, s3⟩ := most_spec (n := n) (w := w) (a := a) (p := p) 54 0
  constructor
  · intro h
    by_cases c : (k : Int) ≤ ab_most n w a p 54 0
    · exact absurd h (s1 k (by omega) c)
    · omega
  · intro h
    exact few_mono (by omega) (s2 (by omega))
theorem few_ready {h w : Nat} {b : Int} {a : zAb} (hh : 1 ≤ h ∧ h ≤ 4) (hw : 1 ≤ w ∧ w ≤ 4) (W : ab_wf (h * w) w b a) {p : Nat} (hp : p < h * w) : ab_fewest (h * w) w a p 1 = 1 ↔ 0 < ab_slack (h * w) w a p := by
  have np : ab_need w a p 1 p = 1 := by unfold ab_need; rw [gz_self]; omega
  have ndp : nd w a p 1 p = 1 := by unfold nd; rw [np]; rfl
  have hl := ab_left_rng (W.1 p hp).1
  constructor
  · intro hf
    rcases few_iff (n := h * w) (w := w) (a := a) (p := p) (k := 1) with ⟨z, -⟩ | ⟨z1, z2, z3⟩
    · omega
    · have hb := z3 p hp
      have nb : ab_hg a p = false ∧ ¬ ab_left (ab_col a p) < 1 := by
        unfold few_bad at hb
        rw [np] at hb
        refine ⟨?_, fun z => hb ⟨by decide, Or.inr z⟩⟩
        cases hg : ab_hg a p with
        | false => rfl
        | true => exact absurd ⟨by decide, Or.inl hg⟩ hb
      unfold ab_slack
      rw [nb.1, if_neg (by decide)]
      by_cases c : gz_min (ab_left (ab_col a p)) (fun q => ab_lim a + ab_dr a q - ab_dr a p) (gz_nb (h * w) w p) < 1
      · rcases (gz_min_lt (b := 1) (f := fun q => ab_lim a + ab_dr a q - ab_dr a p) (gz_nb (h * w) w p) (ab_left (ab_col a p))).mp c with z | ⟨q, hq, z⟩
        · exact absurd z nb.2
        · obtain ⟨q1, q2⟩ := gz_nb_mem.mp hq
          have hne : p ≠ q := by intro e; subst e; rw [gz_self] at q2; omega
          have := sr_ge2 (f := nd w a p 1) (h * w) 0 (fun r _ _ => nd_nn w a p 1 r) p q (by omega) (by omega) (by omega) (by omega) hne
          have hq0 : 0 < ab_need w a p 1 q := by unfold ab_need; rw [q2]; omega
          have hq1 : nd w a p 1 q = ab_need w a p 1 q := if_pos hq0
          omega
      · omega
  · intro hs
    obtain ⟨s1, s2, s3⟩ := ab_slack_pos W hp hs
    have T := ab_take_wf W hp hs
    have ch := gd_chain (h := h) (w := w) (p := p) hh hw hp (ab_lim a) (ab_dr a p + 1) (ab_dr (ab_take a p)) (by rw [tk_dr_s]; omega) (fun q o hq ho hd => by have := T.2.1 q o hq ho hd; have e : ab_lim (ab_take a p) = ab_lim a := rfl; omega)
    have nz : ∀ r, r < h * w → r ≠ p → ¬ 0 < ab_need w a p 1 r := fun r hr hne => by
      have := ch (gz_dist w p r) r hr rfl
      rw [tk_dr_n a hne] at this
      unfold ab_need
      omega
    have hlp := ab_left_pos (W.1 p hp).1
    have hl1 : ¬ ab_left (ab_col a p) = 0 := fun z => s2 (hlp.mp z)
    rcases few_iff (n := h * w) (w := w) (a := a) (p := p) (k := 1) with ⟨-, r, z1, z2⟩ | ⟨z1, z2, z3⟩
    · by_cases e : r = p
      · subst e
        unfold few_bad at z2
        rw [np, s1] at z2
        rcases z2.2 with z | z
        · cases z
        · omega
      · exact absurd z2.1 (nz r z1 e)
    · rw [z1, sr_one (f := nd w a p 1) (h * w) 0 p (by omega) (by omega) (fun r _ h2 hr => if_neg (nz r (by omega) hr)), ndp]
/-- what the drawn numbers come to -/
def due (w : Nat) (a : zAb) (p : Nat) (k : Int) (q : Nat) : Int := ab_dr a q + nd w a p k q
theorem due_eq (w : Nat) (a : zAb) (p : Nat) (k : Int) (q : Nat) : due w a p k q = if ab_dr a q < (ab_dr a p + k) - ab_lim a * ((gz_dist w p q : Nat) : Int) then (ab_dr a p + k) - ab_lim a * ((gz_dist w p q : Nat) : Int) else ab_dr a q := by
  unfold due nd ab_need
  by_cases c : ab_dr a q < (ab_dr a p + k) - ab_lim a * ((gz_dist w p q : Nat) : Int)
  · rw [if_pos c, if_pos (by omega)]; omega
  · rw [if_neg c, if_neg (by omega)]; omega
theorem dist_eq {w p q : Nat} : ((if ((zdiv (q : Int) (w : Int)) - (zdiv (p : Int) (w : Int))) < (0 : Int) then (-((zdiv (q : Int) (w : Int)) - (zdiv (p : Int) (w : Int)))) else ((zdiv (q : Int) (w : Int)) - (zdiv (p : Int) (w : Int)))) + (if ((zmod (q : Int) (w : Int)) - (zmod (p : Int) (w : Int))) < (0 : Int) then (-((zmod (q : Int) (w : Int)) - (zmod (p : Int) (w : Int)))) else ((zmod (q : Int) (w : Int)) - (zmod (p : Int) (w : Int))))) = ((gz_dist w p q : Nat) : Int) := by
  rw [dv_n, dv_n, md_n, md_n]
  unfold gz_dist
  generalize p / w = x1
  generalize q / w = x2
  generalize p % w = x3
  generalize q % w = x4
  split <;> split <;> omega
section WT
variable {A : zO} {b : Int}
theorem wt_due (W : zOK b A) (hb : b ≤ 80000) {F p : Nat} (hp : p < onn A) {k : Int} (hk : 1 ≤ k ∧ k ≤ 9) (K : Int → (Nat → Int) → Option (Int × zO)) : ∀ (m q N : Nat) (f : Nat → Int), q + m = onn A → m < N → (∀ r, r < q → f r = due (ow A) (oa A) p k r) → ∃ f', sh_L_wants_L129 F (p : Int) k ((ow A : Nat) : Int) ((onn A : Nat) : Int) A (ab_lim (oa A)) K N (q : Int) f = K ((onn A : Nat) : Int) f' ∧ ∀ r, r < onn A → f' r = due (ow A) (oa A) p k r := by
  have hn := W.n16
  have hw := W.2.1
  have W9 := W.mono (b' := 90000) (by omega)
  have wl := W.wf.2.2.1
  have hw0 : ¬ ((ow A : Nat) : Int) = 0 := by omega
  intro m
  induction m with
  | zero =>
    intro q N f hq hN hf
    obtain ⟨N, rfl⟩ : ∃ M, N = M + 1 := ⟨N - 1, by omega⟩
    have : q = onn A := by omega
    subst this
    refine ⟨f, ?_, hf⟩
    rw [sh_L_wants_L129, zkr_t (by omega) (by omega), zkr_t (by omega) (by omega), if_neg (by omega)]
  | succ m ih =>
    intro q N f hq hN hf
    obtain ⟨N, rfl⟩ : ∃ M, N = M + 1 := ⟨N - 1, by omega⟩
    have hqn : q < onn A := by omega
    have w1 := W.wf.1 p hp
    have w2 := W.wf.1 q hqn
    have e1 : kn_drawn A (p : Int) = some (ab_dr (oa A) p) := by unfold kn_drawn; rw [kx_t ⟨W9, isP_nat hp⟩, Int.toNat_natCast]
    have e2 : kn_drawn A (q : Int) = some (ab_dr (oa A) q) := by unfold kn_drawn; rw [kx_t ⟨W9, isP_nat hqn⟩, Int.toNat_natCast]
    have gd := gd_le W.wf (by omega) hn hp hqn
    have dq := due_eq (ow A) (oa A) p k q
    have de := dist_eq (w := ow A) (p := p) (q := q)
    have r1 : -2147483648 ≤ (zdiv (q : Int) ((ow A : Nat) : Int)) - (zdiv (p : Int) ((ow A : Nat) : Int)) ∧ (zdiv (q : Int) ((ow A : Nat) : Int)) - (zdiv (p : Int) ((ow A : Nat) : Int)) ≤ 2147483647 := by
      rw [dv_n, dv_n]
      have := Nat.div_le_self q (ow A)
      have := Nat.div_le_self p (ow A)
      generalize q / ow A = x1 at *
      generalize p / ow A = x2 at *
      omega
    have r2 : -2147483648 ≤ (zmod (q : Int) ((ow A : Nat) : Int)) - (zmod (p : Int) ((ow A : Nat) : Int)) ∧ (zmod (q : Int) ((ow A : Nat) : Int)) - (zmod (p : Int) ((ow A : Nat) : Int)) ≤ 2147483647 := by
      rw [md_n, md_n]
      have := Nat.mod_le q (ow A)
      have := Nat.mod_le p (ow A)
      generalize q % ow A = x1 at *
      generalize p % ow A = x2 at *
      omega
    have next : ∀ v, v = due (ow A) (oa A) p k q → ∃ f', sh_L_wants_L129 F (p : Int) k ((ow A : Nat) : Int) ((onn A : Nat) : Int) A (ab_lim (oa A)) K N ((q : Int) + (1 : Int)) (va_up f ((q : Int)).toNat v) = K ((onn A : Nat) : Int) f' ∧ ∀ r, r < onn A → f' r = due (ow A) (oa A) p k r := by
      intro v hv
      rw [nc_s, Int.toNat_natCast]
      refine ih (q + 1) N _ (by omega) (by omega) (fun r hr => ?_)
      by_cases e : r = q
      · subst e; rw [up_s, hv]
      · rw [up_n _ _ _ e, hf r (by omega)]
    rw [sh_L_wants_L129, zkr_t (by omega) (by omega), zkr_t (by omega) (by omega), if_pos (by omega), zkr_t (by omega) (by omega), zkc_t hw0, zkr_t (by omega) (by omega), zkc_t hw0, zkc_t hw0, zkc_t hw0, zkr_t r1.1 r1.2, zkr_t r2.1 r2.2, e1, Option.bind_some, e2, Option.bind_some]
    rw [de, zkr_t (by omega) (by omega)]
    by_cases c : ab_dr (oa A) q < (ab_dr (oa A) p + k) - ab_lim (oa A) * ((gz_dist (ow A) p q : Nat) : Int)
    · rw [if_pos c] at dq
      rw [if_pos c, zkx_t (by omega) (by omega)]
      exact next _ dq.symm
    · rw [if_neg c] at dq
      rw [if_neg c, Option.bind_some, zkx_t (by omega) (by omega)]
      exact next _ dq.symm
end WT
theorem wt_pick {B : zO} (W : zOK 90000 B) {F : Nat} {d : Nat → Int} (hd : ∀ r, r < onn B → -2000000 ≤ d r ∧ d r ≤ 2000000) (K : Int → Int → Option (Int × zO)) (hex : ∃ r, r < onn B ∧ ab_dr (oa B) r < d r) : ∀ (m q N : Nat) (at0 : Int), q + m = onn B → m < N → ((at0 = -9 ∧ ∀ r, r < q → d r ≤ ab_dr (oa B) r) ∨ ∃ t : Nat, t < q ∧ at0 = (t : Int) ∧ ab_dr (oa B) t < d t ∧ ∀ r, r < q → ab_dr (oa B) r < d r → ab_dr (oa B) t ≤ ab_dr (oa B) r) → ∃ t : Nat, t < onn B ∧ ab_dr (oa B) t < d t ∧ (∀ r, r < onn B → ab_dr (oa B) r < d r → ab_dr (oa B) t ≤ ab_dr (oa B) r) ∧ sh_L_wants_L280 F ((onn B : Nat) : Int) d B K N at0 (q : Int) = K (t : Int) ((onn B : Nat) : Int) := by
  have hn := W.n16
  intro m
  induction m with
  | zero =>
    intro q N at0 hq hN hat
    obtain ⟨N, rfl⟩ : ∃ M, N = M + 1 := ⟨N - 1, by omega⟩
    have : q = onn B := by omega
    subst this
    rcases hat with ⟨h1, h2⟩ | ⟨t, h1, h2, h3, h4⟩
    · obtain ⟨r, hr, hr2⟩ := hex
      have := h2 r hr
      omega
    · refine ⟨t, h1, h3, h4, ?_⟩
      rw [sh_L_wants_L280, zkr_t (by omega) (by omega), zkr_t (by omega) (by omega), if_neg (by omega), h2]
  | succ m ih =>
    intro q N at0 hq hN hat
    obtain ⟨N, rfl⟩ : ∃ M, N = M + 1 := ⟨N - 1, by omega⟩
    have hqn : q < onn B := by omega
    have dq := hd q hqn
    have e2 : kn_drawn B (q : Int) = some (ab_dr (oa B) q) := by unfold kn_drawn; rw [kx_t ⟨W, isP_nat hqn⟩, Int.toNat_natCast]
    rw [sh_L_wants_L280, zkr_t (by omega) (by omega), zkr_t (by omega) (by omega), if_pos (by omega), e2, Option.bind_some, zkx_t (by omega) (by omega), ix_n, zkr_t (by omega) (by omega), nc_s]
    by_cases c : ab_dr (oa B) q < d q
    · rw [if_pos c]
      rcases hat with ⟨h1, h2⟩ | ⟨t, h1, h2, h3, h4⟩
      · rw [h1, zkr_t (by omega) (by omega), if_pos rfl]
        refine ih (q + 1) N (q : Int) (by omega) (by omega) (Or.inr ⟨q, by omega, rfl, c, fun r hr hr2 => ?_⟩)
        by_cases e : r = q
        · subst e; omega
        · have := h2 r (by omega); omega
      · have e3 : kn_drawn B (t : Int) = some (ab_dr (oa B) t) := by unfold kn_drawn; rw [kx_t ⟨W, isP_nat (by omega)⟩, Int.toNat_natCast]
        subst h2
        rw [zkr_t (by omega) (by omega), if_neg (by omega), Option.bind_some, e3, Option.bind_some]
        by_cases c2 : ab_dr (oa B) q < ab_dr (oa B) t
        · rw [if_pos c2]
          refine ih (q + 1) N (q : Int) (by omega) (by omega) (Or.inr ⟨q, by omega, rfl, c, fun r hr hr2 => ?_⟩)
          by_cases e : r = q
          · subst e; omega
          · have := h4 r (by omega) hr2; omega
        · rw [if_neg c2]
          refine ih (q + 1) N (t : Int) (by omega) (by omega) (Or.inr ⟨t, by omega, rfl, h3, fun r hr hr2 => ?_⟩)
          by_cases e : r = q
          · subst e; omega
          · exact h4 r (by omega) hr2
    · rw [if_neg c]
      refine ih (q + 1) N at0 (by omega) (by omega) ?_
      rcases hat with ⟨h1, h2⟩ | ⟨t, h1, h2, h3, h4⟩
      · refine Or.inl ⟨h1, fun r hr => ?_⟩
        by_cases e : r = q
        · subst e; omega
        · exact h2 r (by omega)
      · refine Or.inr ⟨t, by omega, h2, h3, fun r hr hr2 => ?_⟩
        by_cases e : r = q
        · subst e; omega
        · exact h4 r (by omega) hr2
/-- the state on the way: what was drawn lies between the start and what is due -/
def wtI (A : zO) (p : Nat) (k : Int) (b : Int) (j : Nat) (B : zO) : Prop := oh B = oh A ∧ ow B = ow A ∧ os B = os (s_save A 1) ∧ zOK (b + (j : Int)) B ∧ ab_lim (oa B) = ab_lim (oa A) ∧ (∀ q, q < onn A → ab_hg (oa B) q = ab_hg (oa A) q ∧ ab_dr (oa A) q ≤ ab_dr (oa B) q ∧ ab_dr (oa B) q ≤ due (ow A) (oa A) p k q ∧ ab_left (ab_col (oa B) q) + (ab_dr (oa B) q - ab_dr (oa A) q) = ab_left (ab_col (oa A) q)) ∧ ab_bs (oa B) = ab_bs (oa A) + (j : Int) ∧ sr (fun q => due (ow A) (oa A) p k q - ab_dr (oa B) q) (onn A) 0 = sr (nd (ow A) (oa A) p k) (onn A) 0 - (j : Int)
theorem wtI.step {A : zO} {b : Int} (W : zOK b A) {p : Nat} (hp : p < onn A) {k : Int} (hk : 1 ≤ k ∧ k ≤ 9) (hgood : ∀ r, r < onn A → ¬ few_bad (ow A) (oa A) p k r) {j : Nat} {B : zO} (I : wtI A p k b j B) {t : Nat} (ht : t < onn A) (hlt : ab_dr (oa B) t < due (ow A) (oa A) p k t) (hmin : ∀ r, r < onn A → ab_dr (oa B) r < due (ow A) (oa A) p k r → ab_dr (oa B) t ≤ ab_dr (oa B) r) : 0 < v_slack B (t : Int) ∧ wtI A p k b (j + 1) (s_draw B (t : Int)) := by
  obtain ⟨i1, i2, i3, i4, i5, i6, i7, i8⟩ := I
  have en : onn B = onn A := by unfold onn; rw [i1, i2]
  have htB : t < onn B := by omega
  have WB := i4.wf
  have wt := WB.1 t htB
  obtain ⟨g1, g2, g3, g4⟩ := i6 t ht
  have wl := W.wf.2.2.1
  have hbad := hgood t ht
  have nt : 0 < ab_need (ow A) (oa A) p k t := by
    unfold due nd at hlt
    by_cases c : 0 < ab_need (ow A) (oa A) p k t
    · exact c
    · rw [if_neg c] at hlt; omega
  have ndt : nd (ow A) (oa A) p k t = ab_need (ow A) (oa A) p k t := if_pos nt
  have hgt : ab_hg (oa A) t = false := by
    cases hg : ab_hg (oa A) t with
    | false => rfl
    | true => exact absurd ⟨nt, Or.inl hg⟩ hbad
  have hlt2 : ¬ ab_left (ab_col (oa A) t) < ab_need (ow A) (oa A) p k t := fun z => hbad ⟨nt, Or.inr z⟩
  have dt : due (ow A) (oa A) p k t = ab_dr (oa A) t + nd (ow A) (oa A) p k t := rfl
  have hleft : 1 ≤ ab_left (ab_col (oa B) t) := by omega
  have hs0 : 0 < ab_slack (onn B) (ow B) (oa B) t := by
    unfold ab_slack
    rw [g1, hgt, if_neg (by decide)]
    by_cases c : gz_min (ab_left (ab_col (oa B) t)) (fun q => ab_lim (oa B) + ab_dr (oa B) q - ab_dr (oa B) t) (gz_nb (onn B) (ow B) t) < 1
    · rcases (gz_min_lt (b := 1) (f := fun q => ab_lim (oa B) + ab_dr (oa B) q - ab_dr (oa B) t) (gz_nb (onn B) (ow B) t) (ab_left (ab_col (oa B) t))).mp c with z | ⟨q, hq, z⟩
      · omega
      · obtain ⟨q1, q2⟩ := gz_nb_mem.mp hq
        rw [en] at q1
        rw [i2] at q2
        obtain ⟨f1, f2, f3, f4⟩ := i6 q q1
        have z : ab_lim (oa B) + ab_dr (oa B) q - ab_dr (oa B) t < 1 := z
        by_cases cq : ab_dr (oa B) q < due (ow A) (oa A) p k q
        · have := hmin q q1 cq
          omega
        · have tri := gz_tri (ow A) p t q
          have dq := due_eq (ow A) (oa A) p k q
          have hm : ab_lim (oa A) * ((gz_dist (ow A) p q : Nat) : Int) ≤ ab_lim (oa A) * ((gz_dist (ow A) p t : Nat) : Int) + ab_lim (oa A) := by
            have h1 : ((gz_dist (ow A) p q : Nat) : Int) ≤ ((gz_dist (ow A) p t : Nat) : Int) + 1 := by omega
            have h2 := Int.mul_le_mul_of_nonneg_left h1 (show (0 : Int) ≤ ab_lim (oa A) by omega)
            rw [Int.mul_add, Int.mul_one] at h2
            exact h2
          have nt2 : ab_need (ow A) (oa A) p k t = ab_dr (oa A) p + k - ab_lim (oa A) * ((gz_dist (ow A) p t : Nat) : Int) - ab_dr (oa A) t := rfl
          split at dq <;> omega
    · omega
  have hv : 0 < v_slack B (t : Int) := by unfold v_slack; rw [Int.toNat_natCast]; exact hs0
  refine ⟨hv, ?_⟩
  have T := ab_take_wf WB htB hs0
  have hne := (ab_slack_pos WB htB hs0).2.1
  have es : s_draw B (t : Int) = s_act B (ab_take (oa B) t) := by unfold s_draw; rw [Int.toNat_natCast]
  rw [es]
  have ea : oa (s_act B (ab_take (oa B) t)) = ab_take (oa B) t := rfl
  refine ⟨i1, i2, i3, ?_, ?_, fun q hq => ?_, ?_, ?_⟩
  · have := s_act_ok (b' := b + ((j + 1 : Nat) : Int)) i4 (by omega) (T.mono (by omega))
    exact this
  · rw [ea]; exact i5
  · rw [ea]
    obtain ⟨f1, f2, f3, f4⟩ := i6 q hq
    refine ⟨f1, ?_⟩
    by_cases e : q = t
    · subst e
      rw [tk_dr_s, tk_col_s, ab_drop_left hne]
      omega
    · rw [tk_dr_n _ e, tk_col_n _ e]
      exact ⟨f2, f3, f4⟩
  · rw [ea]
    show ab_bs (oa B) + 1 = _
    omega
  · rw [ea]
    rw [sr_up (f := fun q => due (ow A) (oa A) p k q - ab_dr (oa B) q) (g := fun q => due (ow A) (oa A) p k q - ab_dr (ab_take (oa B) t) q) (onn A) 0 t (by omega) (by omega) (fun r _ _ hr => by (try dsimp only); rw [tk_dr_n _ hr]), i8]
    try dsimp only
    rw [tk_dr_s]
    omega
theorem sr_pos {f : Nat → Int} : ∀ (m q : Nat), 0 < sr f m q → ∃ r, q ≤ r ∧ r < q + m ∧ 0 < f r
  | 0, _, h => by rw [sr] at h; omega
  | m + 1, q, h => by
    rw [sr] at h
    by_cases c : 0 < f q
    · exact ⟨q, by omega, by omega, c⟩
    · obtain ⟨r, h1, h2, h3⟩ := sr_pos (f := f) m (q + 1) (by omega)
      exact ⟨r, by omega, by omega, h3⟩
theorem wt_loop {A : zO} {b : Int} (W : zOK b A) (hb : 0 ≤ b ∧ b ≤ 80000) {F p : Nat} (hF : 100 ≤ F) (hp : p < onn A) {k : Int} (hk : 1 ≤ k ∧ k ≤ 9) (hgood : ∀ r, r < onn A → ¬ few_bad (ow A) (oa A) p k r) {f : Nat} (hf : (f : Int) = sr (nd (ow A) (oa A) p k) (onn A) 0) (hf2 : f ≤ 960) {d : Nat → Int} (hd : ∀ r, r < onn A → d r = due (ow A) (oa A) p k r) (K : Int → zO → Option (Int × zO)) : ∀ (m j N : Nat) (B : zO), j + m = f → m < N → wtI A p k b j B → ∃ B', sh_L_wants_L261 F ((onn A : Nat) : Int) (f : Int) d K N (j : Int) B = K (f : Int) B' ∧ wtI A p k b f B' := by
  have wl := W.wf.2.2.1
  have hn := W.n16
  have hw4 := W.2.1
  intro m
  induction m with
  | zero =>
    intro j N B hj hN I
    obtain ⟨N, rfl⟩ : ∃ M, N = M + 1 := ⟨N - 1, by omega⟩
    have : j = f := by omega
    subst this
    refine ⟨B, ?_, I⟩
    rw [sh_L_wants_L261, zkr_t (by omega) (by omega), zkr_t (by omega) (by omega), if_neg (by omega)]
  | succ m ih =>
    intro j N B hj hN I
    obtain ⟨N, rfl⟩ : ∃ M, N = M + 1 := ⟨N - 1, by omega⟩
    have I' := I
    obtain ⟨i1, i2, i3, i4, i5, i6, i7, i8⟩ := I'
    have en : onn B = onn A := by unfold onn; rw [i1, i2]
    obtain ⟨r, r1, r2, r3⟩ := sr_pos (onn A) 0 (by rw [i8]; omega)
    have hdr : ∀ r, r < onn A → -2000000 ≤ d r ∧ d r ≤ 2000000 := fun r hr => by
      rw [hd r hr, due_eq]
      have w1 := W.wf.1 r hr
      have w2 := W.wf.1 p hp
      have gd := gd_le W.wf (by omega) hn hp hr
      split <;> omega
    obtain ⟨t, t1, t2, t3, t4⟩ := wt_pick (i4.mono (by omega)) (F := F) (d := d) (by rw [en]; exact hdr) (fun (v92 : Int) (v93 : Int) => zkr v92 (if v92 = (-9 : Int) then none else (kn_draw B v92).bind (fun (q97 : Int × zO) => if q97.1 < (0 : Int) then none else sh_L_wants_L261 F ((onn A : Nat) : Int) (f : Int) d K N ((j : Int) + (1 : Int)) q97.2))) ⟨r, by omega, by rw [hd r (by omega)]; (try dsimp only at r3); omega⟩ (onn B) 0 F (-9) (by omega) (by omega) (Or.inl ⟨rfl, fun r hr => absurd hr (Nat.not_lt_zero _)⟩)
    rw [en] at t1 t3 t4
    rw [show ((0 : Nat) : Int) = (0 : Int) from rfl] at t4
    rw [hd t t1] at t2
    obtain ⟨s1, s2⟩ := I.step W hp hk hgood t1 t2 (fun r hr hr2 => t3 r hr (by rw [hd r hr]; exact hr2))
    have htB : t < onn B := by omega
    have wB := (i4.wf.1 t htB).1
    have hcol : ab_col (oa B) t ≠ [] := by
      have : 0 < ab_slack (onn B) (ow B) (oa B) t := by have := s1; unfold v_slack at this; rwa [Int.toNat_natCast] at this
      exact (ab_slack_pos i4.wf htB this).2.1
    have g0 := ab_grade0 wB hcol
    have ed : kn_draw B (t : Int) = some (ab_grade (ab_col (oa B) t) 0, s_draw B (t : Int)) := by
      unfold kn_draw
      rw [kx_t ⟨i4.mono (by omega), isP_nat htB, s1⟩, Int.toNat_natCast]
    rw [sh_L_wants_L261, zkr_t (by omega) (by omega), zkr_t (by omega) (by omega), if_pos (by omega), t4, zkr_t (by omega) (by omega), if_neg (by omega), ed, Option.bind_some]
    try dsimp only
    rw [if_neg (by omega), nc_s]
    exact ih (j + 1) N _ (by omega) (by omega) s2
theorem wt_cmp {B : zO} (W : zOK 90000 B) {F : Nat} {d : Nat → Int} (hd : ∀ r, r < onn B → d r = ab_dr (oa B) r) (K : Int → Option (Int × zO)) : ∀ (m q N : Nat), q + m = onn B → m < N → sh_L_wants_L370 F ((onn B : Nat) : Int) d B K N (q : Int) = K ((onn B : Nat) : Int) := by
  have hn := W.n16
  intro m
  induction m with
  | zero =>
    intro q N hq hN
    obtain ⟨N, rfl⟩ : ∃ M, N = M + 1 := ⟨N - 1, by omega⟩
    have : q = onn B := by omega
    subst this
    rw [sh_L_wants_L370, zkr_t (by omega) (by omega), zkr_t (by omega) (by omega), if_neg (by omega)]
  | succ m ih =>
    intro q N hq hN
    obtain ⟨N, rfl⟩ : ∃ M, N = M + 1 := ⟨N - 1, by omega⟩
    have hqn : q < onn B := by omega
    have w1 := W.wf.1 q hqn
    have e2 : kn_drawn B (q : Int) = some (ab_dr (oa B) q) := by unfold kn_drawn; rw [kx_t ⟨W, isP_nat hqn⟩, Int.toNat_natCast]
    rw [sh_L_wants_L370, zkr_t (by omega) (by omega), zkr_t (by omega) (by omega), if_pos (by omega), e2, Option.bind_some, zkx_t (by omega) (by omega), ix_n, hd q hqn, zkr_t (by omega) (by omega), if_pos rfl, nc_s]
    exact ih (q + 1) N (by omega) (by omega)
/-- the grid is the same -/
def sameG (A B : zO) : Prop := oh B = oh A ∧ ow B = ow A
theorem wants_ok {A : zO} {b : Int} (W : zOK b A) (hb : 0 ≤ b ∧ b ≤ 80000) {F p k : Nat} (hF : 2000 ≤ F) (hp : p < onn A) (hk : 1 ≤ k ∧ k ≤ 9) : ∃ A', sh_L_wants F A (p : Int) (k : Int) ((ow A : Nat) : Int) = some (1, A') ∧ zOK b A' ∧ sameG A A' := by
  have W9 := W.mono (b' := 90000) (by omega)
  have hn := W.n16
  have hw4 := W.2.1
  have hwf : ab_wf (oh A * ow A) (ow A) b (oa A) := W.wf
  have ip := isP_nat hp
  have wl := W.wf.2.2.1
  have e0 : kd_pointCount A = some ((onn A : Nat) : Int) := by unfold kd_pointCount; rw [kx_t W9]
  have e1 : kn_bucketsFor A (p : Int) (k : Int) = some (ab_fewest (onn A) (ow A) (oa A) p (k : Int)) := by
    unfold kn_bucketsFor v_few
    rw [kx_t ⟨W9, ip, by omega, by omega⟩, Int.toNat_natCast]
  have e2 : kn_most A (p : Int) = some (ab_most (onn A) (ow A) (oa A) p 54 0) := by
    unfold kn_most v_most
    rw [kx_t ⟨W9, ip⟩, Int.toNat_natCast]
  have e3 : kn_ready A (p : Int) = some (if 0 < ab_slack (onn A) (ow A) (oa A) p then 1 else 0) := by unfold kn_ready v_ready v_slack; rw [kx_t ⟨W9, ip⟩, Int.toNat_natCast]
  have hm := most_iff (n := onn A) (w := ow A) (a := oa A) (p := p) (k := k) hk.1 (by omega)
  have fr := few_ready W.1 W.2.1 hwf hp
  have frng := ab_fewest_rng hwf (by omega) hn (k := (k : Int)) hp
  have hJ : ∃ A', sh_L_wants_J87 F (p : Int) (k : Int) ((ow A : Nat) : Int) ((onn A : Nat) : Int) (ab_fewest (onn A) (ow A) (oa A) p (k : Int)) A = some (1, A') ∧ zOK b A' ∧ sameG A A' := by
    unfold sh_L_wants_J87
    rw [zkr_t (by have := frng.1; show _ ≤ ab_fewest (oh A * ow A) _ _ _ _; omega) (by have := frng.2; show ab_fewest (oh A * ow A) _ _ _ _ ≤ _; omega)]
    by_cases c9 : ab_fewest (onn A) (ow A) (oa A) p (k : Int) = -9
    · rw [if_pos c9]
      exact ⟨A, rfl, W, rfl, rfl⟩
    · rw [if_neg c9, zkr_t (by omega) (by omega)]
      by_cases c8 : (8 : Int) < (k : Int)
      · rw [if_pos c8]
        exact ⟨A, rfl, W, rfl, rfl⟩
      · rw [if_neg c8]
        rcases few_iff (n := onn A) (w := ow A) (a := oa A) (p := p) (k := (k : Int)) with ⟨z, -⟩ | ⟨z1, z2, z3⟩
        · exact absurd z c9
        · obtain ⟨f, hf⟩ : ∃ f : Nat, (f : Int) = sr (nd (ow A) (oa A) p (k : Int)) (onn A) 0 := ⟨(sr (nd (ow A) (oa A) p (k : Int)) (onn A) 0).toNat, by omega⟩
          have ef : ab_fewest (onn A) (ow A) (oa A) p (k : Int) = (f : Int) := by omega
          have hf2 : f ≤ 960 := by have h1 : ab_fewest (onn A) (ow A) (oa A) p (k : Int) ≤ 960 := frng.2; omega
          have eb : kd_bound A = some (ab_lim (oa A)) := by unfold kd_bound; rw [kx_t W9]
          have I0 : wtI A p (k : Int) b 0 (s_save A 1) := by
            refine ⟨rfl, rfl, rfl, ?_, rfl, fun q hq => ⟨rfl, Int.le_refl _, ?_, ?_⟩, ?_, ?_⟩
            · refine ⟨W.1, W.2.1, W.wf.mono (by omega), fun i hi => (W.2.2.2.1 i hi).mono (by omega), fun s a hs => ?_⟩
              have hs : (if s = (1 : Int).toNat then some (oa A) else os A s) = some a := hs
              split at hs
              · cases hs; exact W.wf.mono (by omega)
              · exact (W.2.2.2.2 s a hs).mono (by omega)
            · show ab_dr (oa A) q ≤ ab_dr (oa A) q + nd (ow A) (oa A) p (k : Int) q
              have := nd_nn (ow A) (oa A) p (k : Int) q
              omega
            · show ab_left (ab_col (oa A) q) + (ab_dr (oa A) q - ab_dr (oa A) q) = _; omega
            · show ab_bs (oa A) = ab_bs (oa A) + ((0 : Nat) : Int); omega
            · have : (fun q => due (ow A) (oa A) p (k : Int) q - ab_dr (oa (s_save A 1)) q) = nd (ow A) (oa A) p (k : Int) := by
                funext q
                show ab_dr (oa A) q + nd (ow A) (oa A) p (k : Int) q - ab_dr (oa A) q = _
                omega
              rw [this]; omega
          have es : kn_save A 1 = some (ab_bs (oa A), s_save A 1) := by unfold kn_save; rw [kx_t ⟨W9, by decide, by decide⟩]
          have Ws : zOK 90000 (s_save A 1) := I0.2.2.2.1.mono (by omega)
          have et : kd_totalBuckets (s_save A 1) = some (ab_bs (oa A)) := by unfold kd_totalBuckets; rw [kx_t Ws]; rfl
          have nr := nowv_rng W9.wf
          rw [now_eq W9 (by omega), Option.bind_some, eb, Option.bind_some]
          obtain ⟨d, d1, d2⟩ := wt_due W hb.2 (F := F) hp (k := (k : Int)) (by omega) (fun (v54 : Int) (v55 : (Nat → Int)) => (kn_save A (1 : Int)).bind (fun (q58 : Int × zO) => (kd_totalBuckets q58.2).bind (fun (q61 : Int) => if q58.1 = q61 then (kd_totalBuckets q58.2).bind (fun (q64 : Int) => sh_L_wants_L261 F ((onn A : Nat) : Int) (ab_fewest (onn A) (ow A) (oa A) p (k : Int)) v55 (fun (v99 : Int) (v100 : zO) => sh_L_wants_L370 F ((onn A : Nat) : Int) v55 v100 (fun (v111 : Int) => (kd_totalBuckets v100).bind (fun (q114 : Int) => zkr (q64 + (ab_fewest (onn A) (ow A) (oa A) p (k : Int))) (if q114 = (q64 + (ab_fewest (onn A) (ow A) (oa A) p (k : Int))) then (kn_restore v100 (1 : Int)).bind (fun (q118 : Int × zO) => if q118.1 = q64 then (sh_L_now F q118.2).bind (fun (q121 : Int) => zkl q121 (zkl (nowv (onn A) (oa A)) (if q121 = (nowv (onn A) (oa A)) then some ((1 : Int), q118.2) else none))) else none) else none))) F (0 : Int)) F (0 : Int) q58.2) else none))) (onn A) 0 F (fun _ => 0) (by omega) (by omega) (fun r hr => absurd hr (Nat.not_lt_zero _))
          rw [show ((0 : Nat) : Int) = (0 : Int) from rfl] at d1
          rw [d1, es, Option.bind_some]
          try dsimp only
          rw [et, Option.bind_some, if_pos rfl, Option.bind_some, ef]
          obtain ⟨B, b1, b2⟩ := wt_loop W hb (F := F) (by omega) hp (k := (k : Int)) (by omega) z3 hf hf2 d2 (fun (v99 : Int) (v100 : zO) => sh_L_wants_L370 F ((onn A : Nat) : Int) d v100 (fun (v111 : Int) => (kd_totalBuckets v100).bind (fun (q114 : Int) => zkr (ab_bs (oa A) + (f : Int)) (if q114 = (ab_bs (oa A) + (f : Int)) then (kn_restore v100 (1 : Int)).bind (fun (q118 : Int × zO) => if q118.1 = ab_bs (oa A) then (sh_L_now F q118.2).bind (fun (q121 : Int) => zkl q121 (zkl (nowv (onn A) (oa A)) (if q121 = (nowv (onn A) (oa A)) then some ((1 : Int), q118.2) else none))) else none) else none))) F (0 : Int)) f 0 F (s_save A 1) (by omega) (by omega) I0
          rw [show ((0 : Nat) : Int) = (0 : Int) from rfl] at b1
          rw [b1]
          obtain ⟨i1, i2, i3, i4, i5, i6, i7, i8⟩ := b2
          have en : onn B = onn A := by unfold onn; rw [i1, i2]
          have WB : zOK 90000 B := i4.mono (by omega)
          have alld : ∀ r, r < onn A → ab_dr (oa B) r = due (ow A) (oa A) p (k : Int) r := by
            intro r hr
            have h1 := (i6 r hr).2.2.1
            have h2 := sr_ge (f := fun q => due (ow A) (oa A) p (k : Int) q - ab_dr (oa B) q) (onn A) 0 (fun q _ hq => by have := (i6 q (by omega)).2.2.1; (try dsimp only); omega) r (by omega) (by omega)
            try dsimp only at h2
            omega
          have hc := wt_cmp WB (F := F) (d := d) (by rw [en]; exact fun r hr => by rw [d2 r hr, alld r hr]) (fun (v111 : Int) => (kd_totalBuckets B).bind (fun (q114 : Int) => zkr (ab_bs (oa A) + (f : Int)) (if q114 = (ab_bs (oa A) + (f : Int)) then (kn_restore B (1 : Int)).bind (fun (q118 : Int × zO) => if q118.1 = ab_bs (oa A) then (sh_L_now F q118.2).bind (fun (q121 : Int) => zkl q121 (zkl (nowv (onn A) (oa A)) (if q121 = (nowv (onn A) (oa A)) then some ((1 : Int), q118.2) else none))) else none) else none))) (onn B) 0 F (by omega) (by omega)
          rw [en] at hc
          rw [show ((0 : Nat) : Int) = (0 : Int) from rfl] at hc
          have wb := W.wf.2.2.2.1
          have eo : os B (1 : Int).toNat = some (oa A) := by rw [i3]; rfl
          have er : kn_restore B 1 = some (ab_bs (oa A), s_restore B (oa A)) := by
            unfold kn_restore
            rw [kx_t ⟨WB, ⟨by decide, by decide⟩, by rw [eo]; exact fun z => by cases z⟩, eo]
            rfl
          have etB : kd_totalBuckets B = some (ab_bs (oa A) + (f : Int)) := by unfold kd_totalBuckets; rw [kx_t WB, i7]
          have WR : zOK b (s_restore B (oa A)) := by
            refine ⟨by rw [show oh (s_restore B (oa A)) = oh B from rfl, i1]; exact W.1, by rw [show ow (s_restore B (oa A)) = ow B from rfl, i2]; exact W.2.1, ?_, fun i hi => absurd hi (Nat.not_lt_zero _), fun s a hs => ?_⟩
            · show ab_wf (onn B) (ow B) b (oa A)
              rw [en, i2]; exact W.wf
            · show ab_wf (onn B) (ow B) b a
              rw [en, i2]
              have hs : os B s = some a := hs
              rw [i3] at hs
              have hs : (if s = (1 : Int).toNat then some (oa A) else os A s) = some a := hs
              split at hs
              · cases hs; exact W.wf
              · exact W.2.2.2.2 s a hs
          refine ⟨s_restore B (oa A), ?_, WR, i1, i2⟩
          rw [hc, etB, Option.bind_some, zkr_t (by omega) (by omega), if_pos rfl, er, Option.bind_some]
          try dsimp only
          rw [if_pos rfl, now_same W9 (WR.mono (by omega)) en rfl (by omega), Option.bind_some, zkl_t (by omega) (by omega), zkl_t (by omega) (by omega), if_pos rfl]
  unfold sh_L_wants
  rw [e0, Option.bind_some, e1, Option.bind_some, e2, Option.bind_some, zkr_t (by omega) (by omega)]
  have cc : (if ab_fewest (onn A) (ow A) (oa A) p (k : Int) = (-9 : Int) then (1 : Int) else (0 : Int)) = (if ab_most (onn A) (ow A) (oa A) p 54 0 < (k : Int) then (1 : Int) else (0 : Int)) := by
    by_cases c : ab_most (onn A) (ow A) (oa A) p 54 0 < (k : Int)
    · rw [if_pos c, if_pos (hm.mpr c)]
    · rw [if_neg c, if_neg (fun z => c (hm.mp z))]
  rw [if_pos cc]
  by_cases c1 : (k : Int) = 1
  · rw [if_pos c1, e3, Option.bind_some]
    have c2 : (if ab_fewest (onn A) (ow A) (oa A) p (k : Int) = (1 : Int) then (1 : Int) else (0 : Int)) = (if (if 0 < ab_slack (onn A) (ow A) (oa A) p then (1 : Int) else 0) = (1 : Int) then (1 : Int) else (0 : Int)) := by
      rw [c1]
      by_cases c : 0 < ab_slack (onn A) (ow A) (oa A) p
      · rw [if_pos c, if_pos (show ab_fewest (onn A) (ow A) (oa A) p 1 = 1 from fr.mpr c)]; rfl
      · rw [if_neg c, if_neg (show ¬ ab_fewest (onn A) (ow A) (oa A) p 1 = 1 from fun z => c (fr.mp z))]; rfl
    rw [if_pos c2]
    exact hJ
  · rw [if_neg c1]
    exact hJ
