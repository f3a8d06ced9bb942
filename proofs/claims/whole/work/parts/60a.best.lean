/-! THE BEST SEQUENCE: all of them, in order, the first of the best stays -/
abbrev zBst : Type := Int × (Nat → Int)
def fo (f : Nat → zBst → zBst) : Nat → Nat → zBst → zBst
  | 0, _, B => B
  | c + 1, p, B => fo f c (p + 1) (f p B)
def bs (n w : Nat) : Nat → Nat → Int → (Nat → Int) → zAb → zBst → zBst
  | 0, _, s, tr, _, B => if B.1 < s then (s, tr) else B
  | m + 1, d, s, tr, a, B => fo (fun p B => if 0 < ab_slack n w a p then bs n w m (d + 1) (s + ab_grade (ab_col a p) 0) (va_up tr d (p : Int)) (ab_take a p) B else B) n 0 B
def bs_f (n w m d : Nat) (s : Int) (tr : Nat → Int) (a : zAb) (p : Nat) (B : zBst) : zBst := if 0 < ab_slack n w a p then bs n w m (d + 1) (s + ab_grade (ab_col a p) 0) (va_up tr d (p : Int)) (ab_take a p) B else B
theorem bs_s (n w m d : Nat) (s : Int) (tr : Nat → Int) (a : zAb) (B : zBst) : bs n w (m + 1) d s tr a B = fo (bs_f n w m d s tr a) n 0 B := rfl
def bs_ok (B : zBst) : Prop := -9 ≤ B.1 ∧ B.1 ≤ 100
theorem fo_ok {f : Nat → zBst → zBst} {n : Nat} (hf : ∀ p B, p < n → bs_ok B → bs_ok (f p B)) : ∀ (c p : Nat) (B : zBst), p + c ≤ n → bs_ok B → bs_ok (fo f c p B)
  | 0, _, _, _, h => h
  | c + 1, p, B, hp, h => fo_ok hf c (p + 1) _ (by omega) (hf p B (by omega) h)
theorem bs_rng {n w : Nat} : ∀ (m d : Nat) (s b : Int) (tr : Nat → Int) (a : zAb) (B : zBst), ab_wf n w b a → 0 ≤ s → s + 9 * m ≤ 100 → bs_ok B → bs_ok (bs n w m d s tr a B)
  | 0, d, s, b, tr, a, B, W, h0, hs, hB => by
    rw [bs]
    split
    · exact ⟨by show (-9 : Int) ≤ s; omega, by show s ≤ (100 : Int); omega⟩
    · exact hB
  | m + 1, d, s, b, tr, a, B, W, h0, hs, hB => by
    rw [bs_s]
    refine fo_ok (n := n) (fun p B hp hB => ?_) n 0 B (by omega) hB
    unfold bs_f
    split
    · rename_i hsl
      have hg := ab_grade0 (W.1 p hp).1 (ab_slack_pos W hp hsl).2.1
      exact bs_rng m (d + 1) _ (b + 1) _ _ B (ab_take_wf W hp hsl) (by omega) (by omega) hB
    · exact hB
def zMB (n : Nat) (g : Nat → Int) (B : zBst) : Prop := g 4 = B.1 ∧ (B.1 ≠ -9 → ∀ j, j < n → g j = B.2 j)
theorem lk_100 {F n d : Nat} {p : Int} {ch : Nat → Int} (hn : n ≤ 4) (k : Int → (Nat → Int) → Option ((Nat → Int) × (Nat → Int))) : ∀ (m N i : Nat) (bt : Nat → Int), i + m = n → m < N → ∃ bt', sh_X9_lookLast_L100_2 F (n : Int) (d : Int) p ch k N (i : Int) bt = k (n : Int) bt' ∧ (∀ j, i ≤ j → j < n → bt' j = va_up ch d p j) ∧ ∀ j, (j < i ∨ n ≤ j) → bt' j = bt j := by
  intro m
  induction m with
  | zero =>
    intro N i bt hi hN
    obtain ⟨N, rfl⟩ : ∃ M, N = M + 1 := ⟨N - 1, by omega⟩
    have : i = n := by omega
    subst this
    refine ⟨bt, ?_, fun j a b => by omega, fun _ _ => rfl⟩
    simp (disch := omega) only [sh_X9_lookLast_L100_2, zkr_t, if_neg]
  | succ m ih =>
    intro N i bt hi hN
    obtain ⟨N, rfl⟩ : ∃ M, N = M + 1 := ⟨N - 1, by omega⟩
    obtain ⟨bt', x1, x2, x3⟩ := ih N (i + 1) (va_up bt i (va_up ch d p i)) (by omega) (by omega)
    refine ⟨bt', ?_, fun j a b => ?_, fun j hj => ?_⟩
    · simp (disch := omega) only [sh_X9_lookLast_L100_2, zkr_t, zkx_t, if_pos, ix_n, nc_s]
      exact x1
    · by_cases e : j = i
      · subst e; rw [x3 _ (Or.inl (by omega)), up_s]
      · exact x2 j (by omega) b
    · rw [x3 j (by omega), up_n _ _ _ (by omega)]
theorem lk_9 {F h w n d : Nat} {lv : Nat → Int} {b g0 : Int} {a : zAb} (hF : 20 ≤ F) (hh : 1 ≤ h ∧ h ≤ 4) (hw : 1 ≤ w ∧ w ≤ 4) (hn4 : n ≤ 4) (hd : d + 1 = n) (R : Rm (h * w) (243 * d) lv a) (W : ab_wf (h * w) w b a) (hb : b ≤ 200000) (hg0 : lv 242 = g0) (hs : 0 ≤ ab_gs a - g0 ∧ ab_gs a - g0 ≤ 60) (tr : Nat → Int) : ∀ (m N p : Nat) (ch bt : Nat → Int) (B : zBst), p + m = h * w → m < N → (∀ j, j < d → ch j = tr j) → bs_ok B → zMB n bt B → ∃ ch' bt', sh_X9_lookLast_L9 F (n : Int) (d : Int) (h : Int) (w : Int) lv (fun _ (v46 : Nat → Int) (v47 : Nat → Int) => some (v46, v47)) N (p : Int) ch bt = some (ch', bt') ∧ (∀ j, j < d → ch' j = tr j) ∧ zMB n bt' (fo (bs_f (h * w) w 0 d (ab_gs a - g0) tr a) m p B) := by
  have hn := gz_n16 hh.2 hw.2
  have i242 : (((243 : Int) * (d : Int)) + (242 : Int)).toNat = 243 * d + 242 := by omega
  have i0 : (242 : Int).toNat = 242 := rfl
  have i4 : (4 : Int).toNat = 4 := rfl
  have eg := R.2.2.2
  have hgs := W.2.2.2.2
  intro m
  induction m with
  | zero =>
    intro N p ch bt B hp hN hc hB hM
    obtain ⟨N, rfl⟩ : ∃ M, N = M + 1 := ⟨N - 1, by omega⟩
    simp (disch := omega) only [sh_X9_lookLast_L9, m_points, Option.bind_some, zkr_t, if_neg, fo]
    exact ⟨ch, bt, rfl, hc, hM⟩
  | succ m ih =>
    intro N p ch bt B hp hN hc hB hM
    obtain ⟨N, rfl⟩ : ∃ M, N = M + 1 := ⟨N - 1, by omega⟩
    have hpn : p < h * w := by omega
    have e1 : sh_X9_isReadyIn F (h : Int) (w : Int) lv 972 ((243 : Int) * (d : Int)) (p : Int) = some (if 0 < ab_slack (h * w) w a p then 1 else 0) := by
      have := R.ready (o := 243 * d) (n0 := 972) hF hh hw W hb (by omega) (by omega) hpn
      rw [Int.natCast_mul] at this
      exact this
    have e2 : sh_X9_gradeOf F lv 972 ((243 : Int) * (d : Int)) (p : Int) (0 : Int) = some (ab_grade (ab_col a p) 0) := by
      have := R.grade (o := 243 * d) (n0 := 972) hF W (by omega) hn hpn (i := 0) (by omega)
      rw [Int.natCast_mul] at this
      exact this
    have hB1 := hB
    unfold bs_ok at hB1
    have hM1 := hM.1
    rw [fo]
    by_cases c : 0 < ab_slack (h * w) w a p
    · have hg := ab_grade0 (W.1 p hpn).1 (ab_slack_pos W hpn c).2.1
      rw [if_pos c] at e1
      have ebs : bs_f (h * w) w 0 d (ab_gs a - g0) tr a p B = (if B.1 < ab_gs a - g0 + ab_grade (ab_col a p) 0 then (ab_gs a - g0 + ab_grade (ab_col a p) 0, va_up tr d (p : Int)) else B) := by
        unfold bs_f; rw [if_pos c, bs]
      by_cases c2 : B.1 < ab_gs a - g0 + ab_grade (ab_col a p) 0
      · rw [if_pos c2] at ebs
        obtain ⟨bt1, x1, x2, x3⟩ := lk_100 (F := F) (d := d) (p := (p : Int)) (ch := ch) hn4 (fun _ (v44 : Nat → Int) => sh_X9_lookLast_L9 F (n : Int) (d : Int) (h : Int) (w : Int) lv (fun _ (v46 : Nat → Int) (v47 : Nat → Int) => some (v46, v47)) N ((p : Int) + (1 : Int)) (va_up ch d (p : Int)) v44) n F 0 (va_up bt 4 (ab_gs a - g0 + ab_grade (ab_col a p) 0)) (by omega) (by omega)
        have hM2 : zMB n bt1 (bs_f (h * w) w 0 d (ab_gs a - g0) tr a p B) := by
          rw [ebs]
          refine ⟨by rw [x3 4 (Or.inr hn4), up_s], fun _ j hj => ?_⟩
          rw [x2 j (by omega) hj]
          show va_up ch d (p : Int) j = va_up tr d (p : Int) j
          by_cases e : j = d
          · subst e; rw [up_s, up_s]
          · rw [up_n _ _ _ e, up_n _ _ _ e, hc j (by omega)]
        have hB2 : bs_ok (bs_f (h * w) w 0 d (ab_gs a - g0) tr a p B) := by
          rw [ebs]; unfold bs_ok; dsimp only; omega
        obtain ⟨ch', bt', y1, y2, y3⟩ := ih N (p + 1) (va_up ch d (p : Int)) bt1 _ (by omega) (by omega) (fun j hj => by rw [up_n _ _ _ (by omega), hc j hj]) hB2 hM2
        refine ⟨ch', bt', ?_, y2, y3⟩
        simp (disch := omega) only [sh_X9_lookLast_L9, m_points, Option.bind_some, zkr_t, zkx_t, if_pos, if_neg, e1, e2, i242, i0, i4, eg, hg0, hM1, ix_n]
        exact Eq.trans x1 y1
      · rw [if_neg c2] at ebs
        obtain ⟨ch', bt', y1, y2, y3⟩ := ih N (p + 1) ch bt B (by omega) (by omega) hc hB hM
        rw [ebs]
        refine ⟨ch', bt', ?_, y2, y3⟩
        simp (disch := omega) only [sh_X9_lookLast_L9, m_points, Option.bind_some, zkr_t, zkx_t, if_pos, if_neg, e1, e2, i242, i0, i4, eg, hg0, hM1, ix_n, nc_s]
        exact y1
    · rw [if_neg c] at e1
      have ebs : bs_f (h * w) w 0 d (ab_gs a - g0) tr a p B = B := by
        unfold bs_f; rw [if_neg c]
      obtain ⟨ch', bt', y1, y2, y3⟩ := ih N (p + 1) ch bt B (by omega) (by omega) hc hB hM
      rw [ebs]
      refine ⟨ch', bt', ?_, y2, y3⟩
      simp (disch := omega) only [sh_X9_lookLast_L9, m_points, Option.bind_some, zkr_t, if_pos, if_neg, e1, i4, hM1, nc_s]
      first | exact y1 | (rw [if_pos trivial]; exact y1)
theorem lk_last {F h w n d : Nat} {lv : Nat → Int} {b g0 : Int} {a : zAb} (hF : 20 ≤ F) (hh : 1 ≤ h ∧ h ≤ 4) (hw : 1 ≤ w ∧ w ≤ 4) (hn4 : n ≤ 4) (hd : d + 1 = n) (R : Rm (h * w) (243 * d) lv a) (W : ab_wf (h * w) w b a) (hb : b ≤ 200000) (hg0 : lv 242 = g0) (hs : 0 ≤ ab_gs a - g0 ∧ ab_gs a - g0 ≤ 60) (tr ch bt : Nat → Int) (B : zBst) (hc : ∀ j, j < d → ch j = tr j) (hB : bs_ok B) (hM : zMB n bt B) : ∃ ch' bt', sh_X9_lookLast F (h : Int) (w : Int) lv ch bt (n : Int) (d : Int) = some (ch', bt') ∧ (∀ j, j < d → ch' j = tr j) ∧ zMB n bt' (bs (h * w) w 1 d (ab_gs a - g0) tr a B) := by
  have hn := gz_n16 hh.2 hw.2
  unfold sh_X9_lookLast
  exact lk_9 hF hh hw hn4 hd R W hb hg0 hs tr (h * w) F 0 ch bt B (by omega) (by omega) hc hB hM
