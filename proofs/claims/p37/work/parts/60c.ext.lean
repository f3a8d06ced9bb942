/-! THE CLASS'S search, with its bound -/
theorem ab_grade_drop {l : zSl} (h : ∀ x ∈ l, 1 ≤ x.1 ∧ x.1 ≤ 9 ∧ 0 ≤ x.2 ∧ x.2 ≤ 9) {i : Int} (hi : 0 ≤ i) : ab_grade (ab_drop l) i = ab_grade l (i + 1) := by
  cases l with
  | nil => rfl
  | cons x l =>
    have h1 := h x List.mem_cons_self
    rw [ab_drop, ab_grade]
    by_cases c : x.1 = 1
    · rw [if_pos c, if_neg (by omega)]
      congr 1
      omega
    · rw [if_neg c, ab_grade]
      dsimp only
      by_cases c2 : i + 1 < x.1
      · rw [if_pos c2, if_pos (by omega)]
      · rw [if_neg c2, if_neg (by omega)]
        congr 1
        omega
theorem ab_grade_nil {l : zSl} (h : ab_ok l) : ab_grade l 0 = -9 ↔ l = [] := by
  constructor
  · intro z
    cases l with
    | nil => rfl
    | cons x l => have := ab_grade0 h (by simp); omega
  · rintro rfl; rfl
theorem ab_slack_iff {n w : Nat} {b : Int} {a : zAb} (W : ab_wf n w b a) {p : Nat} (hp : p < n) : 0 < ab_slack n w a p ↔ ab_hg a p = false ∧ ab_col a p ≠ [] ∧ 0 < gz_min 54 (fun q => ab_lim a + ab_dr a q - ab_dr a p) (gz_nb n w p) := by
  have hl := ab_left_rng (W.1 p hp).1
  have hn := ab_left_pos (W.1 p hp).1
  have k1 := gz_min_lt (b := 1) (f := fun q => ab_lim a + ab_dr a q - ab_dr a p) (gz_nb n w p) (ab_left (ab_col a p))
  have k2 := gz_min_lt (b := 1) (f := fun q => ab_lim a + ab_dr a q - ab_dr a p) (gz_nb n w p) 54
  constructor
  · intro h
    obtain ⟨h1, h2, h3⟩ := ab_slack_pos W hp h
    refine ⟨h1, h2, ?_⟩
    by_cases c : gz_min 54 (fun q => ab_lim a + ab_dr a q - ab_dr a p) (gz_nb n w p) < 1
    · rcases k2.mp c with z | ⟨q, hq, z⟩
      · exact absurd z (by decide)
      · have := h3 q hq; omega
    · omega
  · rintro ⟨h1, h2, h3⟩
    unfold ab_slack
    rw [h1, if_neg (by decide)]
    by_cases c : gz_min (ab_left (ab_col a p)) (fun q => ab_lim a + ab_dr a q - ab_dr a p) (gz_nb n w p) < 1
    · rcases k1.mp c with z | ⟨q, hq, z⟩
      · exact absurd (hn.mp (by omega)) h2
      · have := k2.mpr (Or.inr ⟨q, hq, z⟩); omega
    · omega
def zXS (n : Nat) (a0 a : zAb) (t : Nat → Nat) (dr tk : Nat → Int) : Prop := (∀ p, p < n → ∀ i : Nat, ab_grade (ab_col a p) (i : Int) = ab_grade (ab_col a0 p) ((i + t p : Nat) : Int)) ∧ (∀ p, p < n → ab_hg a p = ab_hg a0 p) ∧ ab_lim a = ab_lim a0 ∧ ∀ p, p < n → dr p = ab_dr a p ∧ tk p = (t p : Int)
def zAH (n : Nat) (a0 : zAb) (ah : Nat → Int) : Prop := ∀ p, p < n → ∀ j, j < 4 → ah (4 * p + j) = (if ab_hg a0 p then -9 else ab_grade (ab_col a0 p) (j : Int))
def su (mu : Nat → Int) : Nat → Nat → Int
  | 0, _ => 0
  | m + 1, s => mu s + su mu m (s + 1)
def zPM (n0 n : Nat) (ah M mu : Nat → Int) : Prop := (∀ k, k < n → (0 ≤ mu k ∧ mu k ≤ 9) ∧ ∀ p, p < n0 → ∀ j, j ≤ k → ah (4 * p + j) ≤ mu k) ∧ ∀ s, s < n → M s = su mu (n - s) s
theorem su_rng {mu : Nat → Int} {n : Nat} (h : ∀ k, k < n → 0 ≤ mu k ∧ mu k ≤ 9) : ∀ (m s : Nat), s + m ≤ n → 0 ≤ su mu m s ∧ su mu m s ≤ 9 * m
  | 0, _, _ => ⟨Int.le_refl _, by rw [su]; omega⟩
  | m + 1, s, hs => by
    have h1 := h s (by omega)
    have h2 := su_rng h m (s + 1) (by omega)
    rw [su]
    omega
theorem fo_id {f : Nat → zBst → zBst} {B : zBst} : ∀ (c p : Nat), (∀ q, p ≤ q → q < p + c → f q B = B) → fo f c p B = B
  | 0, _, _ => rfl
  | c + 1, p, h => by
    rw [fo, h p (Nat.le_refl _) (by omega)]
    exact fo_id c (p + 1) (fun q h1 h2 => h q (by omega) (by omega))
def t_up (t : Nat → Nat) (p : Nat) : Nat → Nat := fun q => if q = p then t q + 1 else t q
theorem t_up_s (t : Nat → Nat) (p : Nat) : t_up t p p = t p + 1 := if_pos rfl
theorem t_up_n (t : Nat → Nat) {p q : Nat} (h : q ≠ p) : t_up t p q = t q := if_neg h
theorem t_up_le {t : Nat → Nat} {p d q : Nat} (h : t q ≤ d) : t_up t p q ≤ d + 1 := by unfold t_up; split <;> omega
theorem zXS.take {n w : Nat} {b : Int} {a0 a : zAb} {t : Nat → Nat} {dr tk : Nat → Int} (X : zXS n a0 a t dr tk) (W : ab_wf n w b a) {p : Nat} (hp : p < n) : zXS n a0 (ab_take a p) (t_up t p) (va_up dr p (dr p + 1)) (va_up tk p (tk p + 1)) := by
  obtain ⟨x1, x2, x3, x4⟩ := X
  refine ⟨fun q hq i => ?_, x2, x3, fun q hq => ?_⟩
  · by_cases c : q = p
    · subst c
      rw [tk_col_s, ab_grade_drop (W.1 q hq).1.2 (by omega), t_up_s]
      have := x1 q hq (i + 1)
      rw [show ((i + 1 : Nat) : Int) = (i : Int) + 1 from rfl] at this
      rw [this, show i + 1 + t q = i + (t q + 1) by omega]
    · rw [tk_col_n a c, t_up_n t c]
      exact x1 q hq i
  · have := x4 q hq
    by_cases c : q = p
    · subst c
      rw [tk_dr_s, up_s, up_s, t_up_s, this.1, this.2]
      exact ⟨rfl, rfl⟩
    · rw [tk_dr_n a c, up_n _ _ _ c, up_n _ _ _ c, t_up_n t c]
      exact this
theorem bs_prune {n w n1 : Nat} {a0 : zAb} {ah M mu : Nat → Int} (A : zAH n a0 ah) (P : zPM n n1 ah M mu) (hn1 : n1 ≤ 4) : ∀ (m d : Nat) (s b : Int) (tr : Nat → Int) (a : zAb) (t : Nat → Nat) (dr tk : Nat → Int) (B : zBst), zXS n a0 a t dr tk → (∀ p, p < n → t p ≤ d) → ab_wf n w b a → d + m = n1 → s + su mu m d ≤ B.1 → bs n w m d s tr a B = B
  | 0, d, s, b, tr, a, t, dr, tk, B, X, ht, W, hd, hs => by
    rw [su] at hs
    rw [bs, if_neg (by omega)]
  | m + 1, d, s, b, tr, a, t, dr, tk, B, X, ht, W, hd, hs => by
    rw [bs_s]
    refine fo_id n 0 (fun p _ hp => ?_)
    have hp' : p < n := by omega
    unfold bs_f
    split
    · rename_i hsl
      have h1 := ab_slack_pos W hp' hsl
      have hg : ab_grade (ab_col a p) 0 ≤ mu d := by
        have e := X.1 p hp' 0
        rw [Nat.zero_add] at e
        have e2 := A p hp' (t p) (by have := ht p hp'; omega)
        rw [← X.2.1 p hp', h1.1, if_neg (by decide)] at e2
        have := (P.1 d (by omega)).2 p hp' (t p) (ht p hp')
        rw [e2, ← e] at this
        exact this
      rw [su] at hs
      exact bs_prune A P hn1 m (d + 1) _ (b + 1) _ _ _ _ _ B (X.take W hp') (fun q hq => t_up_le (ht q hq)) (ab_take_wf W hp' hsl) (by omega) (by omega)
    · rfl
theorem up_back (f : Nat → Int) (p : Nat) : va_up (va_up f p (f p + 1)) p (va_up f p (f p + 1) p - 1) = f := by
  funext j
  by_cases c : j = p
  · subst c; rw [up_s, up_s]; omega
  · rw [up_n _ _ _ c, up_n _ _ _ c]
section EXT
variable {F h w n : Nat} {size : Int} {ro co ne nc : Nat → Int} {a0 : zAb} {ah M mu : Nat → Int} {lim : Int}
theorem ex_all (hF : 5000 ≤ F) (G : gz_ok h w size ro co ne nc) (hn4 : n ≤ 4) (A : zAH (h * w) a0 ah) (P : zPM (h * w) n ah M mu) (hlim : lim = ab_lim a0) : ∀ (m D d : Nat) (s b : Int) (tr ta best dr tk : Nat → Int) (a : zAb) (t : Nat → Nat) (B : zBst), d + m = n → m < D → zXS (h * w) a0 a t dr tk → (∀ p, p < h * w → t p ≤ d) → ab_wf (h * w) w b a → b + m ≤ 200000 → (0 ≤ s ∧ s + 9 * m ≤ 60) → bs_ok B → (∀ j, j < d → ta j = tr j) → (∀ j, j < n → best j = B.2 j) → ∃ ta' best', sh_X6_extend F D (n : Int) lim B.1 ah dr tk M ta best size ne nc (d : Int) s = some ((bs (h * w) w m d s tr a B).1, dr, tk, ta', best') ∧ (∀ j, j < d → ta' j = tr j) ∧ (∀ j, j < n → best' j = (bs (h * w) w m d s tr a B).2 j) := by
  have hn := gz_n16 G.2.1 G.2.2.2.1
  have hsz := G.2.2.2.2.1
  intro m
  induction m with
  | zero =>
    intro D d s b tr ta best dr tk a t B hd hD X ht W hb hs hB hta hbe
    obtain ⟨D, rfl⟩ : ∃ M, D = M + 1 := ⟨D - 1, by omega⟩
    have : d = n := by omega
    subst this
    unfold bs_ok at hB
    show ∃ ta' best', sh_X6_extendB F (sh_X6_extend F D) (d : Int) lim B.1 ah dr tk M ta best size ne nc (d : Int) s = _ ∧ _
    unfold sh_X6_extendB sh_X6_keepIfBetter
    rw [zkr_t (by omega) (by omega), zkr_t (by omega) (by omega), if_neg (by omega), zkr_t (by omega) (by omega), zkr_t (by omega) (by omega), bs]
    by_cases c : B.1 < s
    · rw [if_pos c, if_pos c, zkc_t (by omega), zkc_t (by omega), zkc_t (by omega)]
      refine ⟨_, _, rfl, hta, fun j hj => ?_⟩
      show va_cpy ta best (0 : Int).toNat (0 : Int).toNat ((d : Int)).toNat j = tr j
      rw [cpy_at, if_pos (by omega)]
      show ta ((0 : Int).toNat + (j - (0 : Int).toNat)) = tr j
      rw [show (0 : Int).toNat + (j - (0 : Int).toNat) = j by omega]
      exact hta j hj
    · rw [if_neg c, if_neg c]
      exact ⟨_, _, rfl, hta, hbe⟩
  | succ m ih =>
    intro D d s b tr ta best dr tk a t B hd hD X ht W hb hs hB hta hbe
    obtain ⟨D, rfl⟩ : ∃ M, D = M + 1 := ⟨D - 1, by omega⟩
    have hB0 := hB
    unfold bs_ok at hB0
    have eM := P.2 d (by omega)
    rw [show n - d = m + 1 by omega] at eM
    have rM := su_rng (fun k hk => (P.1 k hk).1) (m + 1) d (by omega)
    show ∃ ta' best', sh_X6_extendB F (sh_X6_extend F D) (n : Int) lim B.1 ah dr tk M ta best size ne nc (d : Int) s = _ ∧ _
    unfold sh_X6_extendB
    rw [zkr_t (by omega) (by omega), zkr_t (by omega) (by omega), if_pos (by omega), zkx_t (by omega) (by omega), ix_n, eM, zkr_t (by omega) (by omega), zkr_t (by omega) (by omega)]
    by_cases c : B.1 < s + su mu (m + 1) d
    · rw [if_pos c, bs_s]
      have inner : ∀ (c N p : Nat) (ta best : Nat → Int) (B : zBst), p + c = h * w → c < N → bs_ok B → (∀ j, j < d → ta j = tr j) → (∀ j, j < n → best j = B.2 j) → ∃ ta' best', sh_X6_extendB_L33 F (d : Int) s (sh_X6_extend F D) (n : Int) lim ah M size ne nc (fun _ v26 (v27 : Nat → Int) (v28 : Nat → Int) (v29 : Nat → Int) (v30 : Nat → Int) => some (v26, v27, v28, v29, v30)) N (p : Int) B.1 dr tk ta best = some ((fo (bs_f (h * w) w m d s tr a) c p B).1, dr, tk, ta', best') ∧ (∀ j, j < d → ta' j = tr j) ∧ (∀ j, j < n → best' j = (fo (bs_f (h * w) w m d s tr a) c p B).2 j) := by
        intro c
        induction c with
        | zero =>
          intro N p ta best B hp hN hB hta hbe
          obtain ⟨N, rfl⟩ : ∃ M, N = M + 1 := ⟨N - 1, by omega⟩
          simp (disch := omega) only [sh_X6_extendB_L33, sh_X2_size, Option.bind_some, zkr_t, if_neg, fo]
          exact ⟨ta, best, rfl, hta, hbe⟩
        | succ c ih2 =>
          intro N p ta best B hp hN hB hta hbe
          obtain ⟨N, rfl⟩ : ∃ M, N = M + 1 := ⟨N - 1, by omega⟩
          have hpn : p < h * w := by omega
          have htp := ht p hpn
          have ex := X.2.2.2 p hpn
          have eg := X.1 p hpn 0
          rw [Nat.zero_add] at eg
          have ea := A p hpn (t p) (by omega)
          rw [← X.2.1 p hpn] at ea
          have hgr := ab_grade_rng (W.1 p hpn).1.2 0
          have i4 : (((p : Int) * (4 : Int)) + (t p : Int)).toNat = 4 * p + t p := by omega
          have egn : sh_X6_gradeNow F ah tk (p : Int) = some (ah (4 * p + t p)) := by
            unfold sh_X6_gradeNow
            rw [zkx_t (by omega) (by omega), ix_n, ex.2, zkr_t (by omega) (by omega), if_pos (by omega), zkx_t (by omega) (by omega), i4]
          have wr : ∀ q, q < h * w → dr q = ab_dr a q ∧ 0 ≤ ab_dr a q ∧ ab_dr a q ≤ 200000 := fun q hq => ⟨(X.2.2.2 q hq).1, (W.1 q hq).2.1, by have := (W.1 q hq).2.2; omega⟩
          have hl9 : 1 ≤ lim ∧ lim ≤ 9 := by have := W.2.2.1; rw [X.2.2.1, ← hlim] at this; exact this
          have ero : sh_X2_room F ne nc dr 16 (p : Int) lim = some (gz_min 54 (fun q => ab_lim a + ab_dr a q - ab_dr a p) (gz_nb (h * w) w p)) := by
            rw [c_room F h w p lim size ro co ne nc dr (by omega) G hpn (fun q hq => by have := wr q hq; have := wr p hpn; omega)]
            congr 1
            refine gz_min_congr _ _ (fun q hq => ?_)
            rw [(wr q (gz_nb_mem.mp hq).1).1, (wr p hpn).1, X.2.2.1, hlim]
          have hrr := gz_min_rng (lo := -1000000) (hi := 2147483647) (f := fun q => ab_lim a + ab_dr a q - ab_dr a p) (gz_nb (h * w) w p) 54 (by decide) (fun q hq => by
            have h1 := wr q (gz_nb_mem.mp hq).1; have h2 := wr p hpn; have h3 := W.2.2.1; omega)
          have iff := ab_slack_iff W hpn
          have nil := ab_grade_nil (W.1 p hpn).1
          rw [sh_X6_extendB_L33, sh_X2_size, Option.bind_some, zkr_t (by omega) (by omega), zkr_t (by omega) (by omega), if_pos (by omega)]
          unfold sh_X6_extendFrom
          rw [egn, Option.bind_some]
          have skip : ¬ 0 < ab_slack (h * w) w a p → bs_f (h * w) w m d s tr a p B = B := fun z => by unfold bs_f; rw [if_neg z]
          by_cases c0 : 0 < ab_slack (h * w) w a p
          · obtain ⟨i1, i2, i3⟩ := iff.mp c0
            rw [i1, if_neg (by decide), ← eg] at ea
            have hg9 := ab_grade0 (W.1 p hpn).1 i2
            have hg9' : 0 ≤ ah (4 * p + t p) ∧ ah (4 * p + t p) ≤ 9 := by rw [ea]; exact hg9
            obtain ⟨ta1, be1, u1, u2, u3⟩ := ih D (d + 1) (s + ah (4 * p + t p)) (b + 1) (va_up tr d (p : Int)) (va_up ta d (p : Int)) best (va_up dr p (dr p + 1)) (va_up tk p (tk p + 1)) (ab_take a p) _ B (by omega) (by omega) (X.take W hpn) (fun q hq => t_up_le (ht q hq)) (ab_take_wf W hpn c0) (by omega) (by omega) hB (fun j hj => by
              by_cases z : j = d
              · subst z; rw [up_s, up_s]
              · rw [up_n _ _ _ z, up_n _ _ _ z, hta j (by omega)]) hbe
            have ebs : bs_f (h * w) w m d s tr a p B = bs (h * w) w m (d + 1) (s + ah (4 * p + t p)) (va_up tr d (p : Int)) (ab_take a p) B := by
              unfold bs_f; rw [if_pos c0, ea]; rfl
            have hB2 : bs_ok (bs_f (h * w) w m d s tr a p B) := by
              rw [ebs]; exact bs_rng m (d + 1) _ (b + 1) _ _ B (ab_take_wf W hpn c0) (by omega) (by omega) hB
            rw [← ebs] at u1 u3
            rw [zkr_t (by omega) (by omega), if_neg (by omega), ero, Option.bind_some, zkr_t (by omega) (by omega), if_pos i3, zkx_t (by omega) (by omega), zkx_t (by omega) (by omega), ix_n, ix_n, nc_s, u1, Option.bind_some, Option.bind_some]
            dsimp only
            rw [up_back, up_back, nc_s, fo]
            obtain ⟨ta2, be2, v1, v2, v3⟩ := ih2 N (p + 1) ta1 be1 _ (by omega) (by omega) hB2 (fun j hj => by rw [u2 j (by omega), up_n _ _ _ (by omega)]) u3
            exact ⟨ta2, be2, v1, v2, v3⟩
          · rw [fo, skip c0]
            obtain ⟨ta2, be2, v1, v2, v3⟩ := ih2 N (p + 1) ta best B (by omega) (by omega) hB hta hbe
            refine ⟨ta2, be2, ?_, v2, v3⟩
            rw [← v1]
            by_cases c1 : ah (4 * p + t p) = -9
            · rw [zkr_t (by omega) (by omega), if_pos c1, Option.bind_some]
              rfl
            · have hh : ab_hg a p = false := by
                cases z : ab_hg a p with
                | true => rw [z, if_pos rfl] at ea; exact absurd ea c1
                | false => rfl
              rw [hh, if_neg (by decide), ← eg] at ea
              have hne : ab_col a p ≠ [] := fun z => c1 (by rw [ea]; exact nil.mpr z)
              have c3 : ¬ 0 < gz_min 54 (fun q => ab_lim a + ab_dr a q - ab_dr a p) (gz_nb (h * w) w p) := fun z => c0 (iff.mpr ⟨hh, hne, z⟩)
              have hgr2 : -9 ≤ ah (4 * p + t p) ∧ ah (4 * p + t p) ≤ 9 := by
                have e9 : ah (4 * p + t p) = ab_grade (ab_col a p) 0 := ea
                rw [e9]; omega
              rw [zkr_t (by omega) (by omega), if_neg c1, ero, Option.bind_some, zkr_t (by omega) (by omega), if_neg c3, Option.bind_some]
              rfl
      obtain ⟨ta', best', x1, x2, x3⟩ := inner (h * w) F 0 ta best B (by omega) (by omega) hB hta hbe
      exact ⟨ta', best', x1, x2, x3⟩
    · rw [if_neg c, bs_prune A P hn4 (m + 1) d s b tr a t dr tk B X ht W hd (by omega)]
      exact ⟨_, _, rfl, hta, hbe⟩
end EXT
