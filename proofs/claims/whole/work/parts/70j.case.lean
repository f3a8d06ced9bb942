/-! CALLS that change the cave -/
section CASES
variable {F h w : Nat} {size : Int} {ro co ne nc : Nat → Int} {bk gr ht dr now D fl ik K : Nat → Int} {lim hs bs gs b : Int} {a : zAb} {x : Nat → Int} {n i o c nx : Nat} {P : Nat → zCv}

theorem k_draw (hF : 20000 ≤ F) (G : gz_ok h w size ro co ne nc) (R : Rc (h * w) bk gr ht dr lim hs bs gs a) (M : Rm (h * w) 0 now a) (W : ab_wf (h * w) w b a) (hb : b ≤ 100000) (H : zHR (h * w) w b P o c D nx) (S : zSR (h * w) w b P fl ik K) (hx : xs_ok x) (hi : i + 4 ≤ n) (hn : n ≤ 2048) (out : Nat → Int) : ∃ bs' gs' bk' gr' ht' dr' rf now' D' out' P' a', ∃ o' c' nx' : Nat, sh_L_case13 F x n (i : Int) size ne nc lim hs bs gs bk gr ht dr (o : Int) (c : Int) (h : Int) (w : Int) (c : Int) (nx : Int) now D out P = some (bs', gs', bk', gr', ht', dr', (o' : Int), (c' : Int), rf, (c' : Int), (nx' : Int), now', D', out', P') ∧ Rc (h * w) bk' gr' ht' dr' lim hs bs' gs' a' ∧ Rm (h * w) 0 now' a' ∧ ab_wf (h * w) w (b + 1) a' ∧ zHR (h * w) w (b + 1) P' o' c' D' nx' ∧ zSR (h * w) w (b + 1) P' fl ik K := by
  have hn16 := gz_n16 G.2.1 G.2.2.2.1
  have hh : 1 ≤ h ∧ h ≤ 4 := ⟨G.1, G.2.1⟩
  have hw : 1 ≤ w ∧ w ≤ 4 := ⟨G.2.2.1, G.2.2.2.1⟩
  have hx1 := hx (i + 1)
  unfold sh_L_case13
  rw [zkx_t (by omega) (by omega), ix_i1]
  generalize x (i + 1) = y at *
  rcases pt_cases (h := h) (w := w) y with ⟨p, rfl, hp⟩ | hp
  · have r1 := R.ready (F := F) (by omega) G W (by omega) hp
    have r2 : sh_X9_isReadyIn F (h : Int) (w : Int) now 243 (0 : Int) (p : Int) = _ := M.ready (F := F) (o := 0) (n0 := 243) (by omega) hh hw W (by omega) (by omega) (by omega) hp
    by_cases hs0 : 0 < ab_slack (h * w) w a p
    · rw [if_pos hs0] at r1 r2
      have hne := (ab_slack_pos W hp hs0).2.1
      obtain ⟨bs', gs', bk', gr', ht', dr', t1, R'⟩ := R.take (F := F) W hn16 hp hne
      obtain ⟨now', t2, M', -⟩ := M.take (F := F) (o := 0) (n0 := 243) (by omega) W hn16 (by omega) (by omega) hp hne
      obtain ⟨P', o', c', D', nx', n1, n2, hP, H'⟩ := hist_note (F := F) (by omega) hn16 H R M W
      have t2' : sh_X9_take F now 243 (0 : Int) (p : Int) = some (ab_grade (ab_col a p) 0, now') := t2
      have gg : -2147483648 ≤ ab_grade (ab_col a p) 0 ∧ ab_grade (ab_col a p) 0 ≤ 2147483647 := by have := ab_grade_rng (W.1 p hp).1.2 0; omega
      have e1 : sh_X8_draw F size ne nc lim hs bs gs bk gr ht dr (o : Int) (c : Int) P (p : Int) = some (0, ab_grade (ab_col a p) 0, bs', gs', bk', gr', ht', dr', (o' : Int), (c' : Int), P') := by
        unfold sh_X8_draw
        rw [rp_in G hp, Option.bind_some, if_pos rfl, r1, Option.bind_some, zkr_t (by decide) (by decide), if_neg (by decide), n1, Option.bind_some, t1, Option.bind_some]
      have e2 : sh_X9_draw F (h : Int) (w : Int) (c : Int) (nx : Int) now D (p : Int) = some (ab_grade (ab_col a p) 0, 0, (c' : Int), (nx' : Int), now', D') := by
        unfold sh_X9_draw
        rw [ip_in hh hw hp, Option.bind_some, zkr_t (by decide) (by decide), if_neg (by decide), r2, Option.bind_some, zkr_t (by decide) (by decide), if_neg (by decide), rf_0, Option.bind_some]
        dsimp only
        rw [zkr_t (by decide) (by decide), if_pos rfl, n2, Option.bind_some, t2', Option.bind_some]
      have e3 : sh_L_draw F size ne nc lim hs bs gs bk gr ht dr (o : Int) (c : Int) out P 1 (p : Int) = some (0, bs', gs', bk', gr', ht', dr', (o' : Int), (c' : Int), va_up out 0 (ab_grade (ab_col a p) 0), P') := by
        unfold sh_L_draw
        rw [e1, Option.bind_some]
        exact wl_0 gg
      refine ⟨bs', gs', bk', gr', ht', dr', 0, now', D', va_up out 0 (ab_grade (ab_col a p) 0), P', ab_take a p, o', c', nx', ?_, R', M', ab_take_wf W hp hs0, H'.mono (by omega), (S.mono (by omega)).pool hP⟩
      rw [e3, Option.bind_some, e2, Option.bind_some]
      dsimp only
      exact tl_0 rfl gg
    · rw [if_neg hs0] at r1 r2
      have e1 : sh_X8_draw F size ne nc lim hs bs gs bk gr ht dr (o : Int) (c : Int) P (p : Int) = some (3, 0, bs, gs, bk, gr, ht, dr, (o : Int), (c : Int), P) := by
        unfold sh_X8_draw
        rw [rp_in G hp, Option.bind_some, if_pos rfl, r1, Option.bind_some, zkr_t (by decide) (by decide), if_pos rfl]
      have e2 : sh_X9_draw F (h : Int) (w : Int) (c : Int) (nx : Int) now D (p : Int) = some (0, 2, (c : Int), (nx : Int), now, D) := by
        unfold sh_X9_draw
        rw [ip_in hh hw hp, Option.bind_some, zkr_t (by decide) (by decide), if_neg (by decide), r2, Option.bind_some, zkr_t (by decide) (by decide), if_pos rfl, rf_2, Option.bind_some]
        dsimp only
        rw [zkr_t (by decide) (by decide), if_neg (by decide)]
      have e3 : sh_L_draw F size ne nc lim hs bs gs bk gr ht dr (o : Int) (c : Int) out P 1 (p : Int) = some (2, bs, gs, bk, gr, ht, dr, (o : Int), (c : Int), out, P) := by
        unfold sh_L_draw
        rw [e1, Option.bind_some]
        exact wl_31
      refine ⟨bs, gs, bk, gr, ht, dr, 2, now, D, out, P, a, o, c, nx, ?_, R, M, W.mono (by omega), H.mono (by omega), S.mono (by omega)⟩
      rw [e3, Option.bind_some, e2, Option.bind_some]
      dsimp only
      exact tl_z (by decide) (by decide)
  · have e1 : sh_X8_draw F size ne nc lim hs bs gs bk gr ht dr (o : Int) (c : Int) P y = some (1, 0, bs, gs, bk, gr, ht, dr, (o : Int), (c : Int), P) := by
      unfold sh_X8_draw
      rw [rp_out G hx1 hp, Option.bind_some, if_neg (by decide)]
    have e2 : sh_X9_draw F (h : Int) (w : Int) (c : Int) (nx : Int) now D y = some (0, 1, (c : Int), (nx : Int), now, D) := by
      unfold sh_X9_draw
      rw [ip_out hh hw hx1 hp, Option.bind_some, zkr_t (by decide) (by decide), if_pos rfl, rf_1, Option.bind_some]
      dsimp only
      rw [zkr_t (by decide) (by decide), if_neg (by decide)]
    have e3 : sh_L_draw F size ne nc lim hs bs gs bk gr ht dr (o : Int) (c : Int) out P 1 y = some (1, bs, gs, bk, gr, ht, dr, (o : Int), (c : Int), out, P) := by
      unfold sh_L_draw
      rw [e1, Option.bind_some]
      exact wl_1
    refine ⟨bs, gs, bk, gr, ht, dr, 1, now, D, out, P, a, o, c, nx, ?_, R, M, W.mono (by omega), H.mono (by omega), S.mono (by omega)⟩
    rw [e3, Option.bind_some, e2, Option.bind_some]
    dsimp only
    exact tl_z (by decide) (by decide)
theorem k_drawByOrder (hF : 20000 ≤ F) (G : gz_ok h w size ro co ne nc) (R : Rc (h * w) bk gr ht dr lim hs bs gs a) (M : Rm (h * w) 0 now a) (W : ab_wf (h * w) w b a) (hb : b ≤ 100000) (H : zHR (h * w) w b P o c D nx) (S : zSR (h * w) w b P fl ik K) (hx : xs_ok x) (hi : i + 4 ≤ n) (hn : n ≤ 2048) (out : Nat → Int) : ∃ bs' gs' bk' gr' ht' dr' rf now' D' out' P' a', ∃ o' c' nx' : Nat, sh_L_case14 F x n (i : Int) size ne nc lim hs bs gs bk gr ht dr (o : Int) (c : Int) (h : Int) (w : Int) (c : Int) (nx : Int) now D out P = some (bs', gs', bk', gr', ht', dr', (o' : Int), (c' : Int), rf, (c' : Int), (nx' : Int), now', D', out', P') ∧ Rc (h * w) bk' gr' ht' dr' lim hs bs' gs' a' ∧ Rm (h * w) 0 now' a' ∧ ab_wf (h * w) w (b + 99) a' ∧ zHR (h * w) w (b + 99) P' o' c' D' nx' ∧ zSR (h * w) w (b + 99) P' fl ik K := by
  have hn16 := gz_n16 G.2.1 G.2.2.2.1
  have hh : 1 ≤ h ∧ h ≤ 4 := ⟨G.1, G.2.1⟩
  have hw : 1 ≤ w ∧ w ≤ 4 := ⟨G.2.2.1, G.2.2.2.1⟩
  have hx1 := hx (i + 1)
  unfold sh_L_case14
  rw [zkx_t (by omega) (by omega), ix_i1]
  generalize x (i + 1) = y at *
  have mi := m_in F y 1 99 (by omega) (by decide) (by decide)
  by_cases hy : 1 ≤ y ∧ y ≤ 99
  · rw [if_pos hy] at mi
    have rr := rr_in (F := F) (x := y) (lo := 1) (hi := 99) (by decide) (by decide) hy
    obtain ⟨Q, rfl⟩ : ∃ Q : Nat, y = (Q : Int) := ⟨y.toNat, by omega⟩
    obtain ⟨bs', gs', bk', gr', ht', dr', t1, R'⟩ := R.go (F := F) (by omega) G W Q (by omega) (by omega)
    obtain ⟨now', t2, M', -⟩ := M.go (F := F) (n0 := 243) (by omega) hh hw W Q (by omega) (by omega) (by omega) (by omega)
    obtain ⟨P', o', c', D', nx', n1, n2, hP, H'⟩ := hist_note (F := F) (by omega) hn16 H R M W
    have gr0 := ab_go_rng Q b a W
    have gg : -2147483648 ≤ (ab_go (h * w) w Q a).1 ∧ (ab_go (h * w) w Q a).1 ≤ 2147483647 := by omega
    have e1 : sh_X8_drawByOrder F size ne nc lim hs bs gs bk gr ht dr (o : Int) (c : Int) P (Q : Int) = some (0, (ab_go (h * w) w Q a).1, bs', gs', bk', gr', ht', dr', (o' : Int), (c' : Int), P') := by
      unfold sh_X8_drawByOrder
      rw [rr, Option.bind_some, if_pos rfl, n1, Option.bind_some, t1, Option.bind_some]
    have e2 : sh_X9_drawByOrder F (h : Int) (w : Int) (c : Int) (nx : Int) now D (Q : Int) = some ((ab_go (h * w) w Q a).1, 0, (c' : Int), (nx' : Int), now', D') := by
      unfold sh_X9_drawByOrder
      rw [zkr_t (by omega) (by omega), mi, Option.bind_some, zkr_t (by decide) (by decide), if_neg (by decide), rf_0, Option.bind_some]
      dsimp only
      rw [zkr_t (by decide) (by decide), if_pos rfl, n2, Option.bind_some, t2, Option.bind_some]
    have e3 : sh_L_drawByOrder F size ne nc lim hs bs gs bk gr ht dr (o : Int) (c : Int) out P 1 (Q : Int) = some (0, bs', gs', bk', gr', ht', dr', (o' : Int), (c' : Int), va_up out 0 (ab_go (h * w) w Q a).1, P') := by
      unfold sh_L_drawByOrder
      rw [e1, Option.bind_some]
      exact wl_0 gg
    refine ⟨bs', gs', bk', gr', ht', dr', 0, now', D', va_up out 0 (ab_go (h * w) w Q a).1, P', (ab_go (h * w) w Q a).2, o', c', nx', ?_, R', M', gr0.2.mono (by omega), H'.mono (by omega), (S.mono (by omega)).pool hP⟩
    rw [e3, Option.bind_some, e2, Option.bind_some]
    dsimp only
    exact tl_0 rfl gg
  · rw [if_neg hy] at mi
    have rr := rr_out (F := F) (x := y) (lo := 1) (hi := 99) (by decide) (by decide) hx1 hy
    have e1 : sh_X8_drawByOrder F size ne nc lim hs bs gs bk gr ht dr (o : Int) (c : Int) P y = some (2, 0, bs, gs, bk, gr, ht, dr, (o : Int), (c : Int), P) := by
      unfold sh_X8_drawByOrder
      rw [rr, Option.bind_some, if_neg (by decide)]
    have e2 : sh_X9_drawByOrder F (h : Int) (w : Int) (c : Int) (nx : Int) now D y = some (0, 1, (c : Int), (nx : Int), now, D) := by
      unfold sh_X9_drawByOrder
      rw [zkr_t (by omega) (by omega), mi, Option.bind_some, zkr_t (by decide) (by decide), if_pos rfl, rf_1, Option.bind_some]
      dsimp only
      rw [zkr_t (by decide) (by decide), if_neg (by decide)]
    have e3 : sh_L_drawByOrder F size ne nc lim hs bs gs bk gr ht dr (o : Int) (c : Int) out P 1 y = some (1, bs, gs, bk, gr, ht, dr, (o : Int), (c : Int), out, P) := by
      unfold sh_L_drawByOrder
      rw [e1, Option.bind_some]
      exact wl_2
    refine ⟨bs, gs, bk, gr, ht, dr, 1, now, D, out, P, a, o, c, nx, ?_, R, M, W.mono (by omega), H.mono (by omega), S.mono (by omega)⟩
    rw [e3, Option.bind_some, e2, Option.bind_some]
    dsimp only
    exact tl_z (by decide) (by decide)
theorem k_hang (hF : 20000 ≤ F) (G : gz_ok h w size ro co ne nc) (R : Rc (h * w) bk gr ht dr lim hs bs gs a) (M : Rm (h * w) 0 now a) (W : ab_wf (h * w) w b a) (hb : b ≤ 100000) (H : zHR (h * w) w b P o c D nx) (S : zSR (h * w) w b P fl ik K) (hx : xs_ok x) (hi : i + 4 ≤ n) (hn : n ≤ 2048) (out : Nat → Int) : ∃ hs' rf now' D' out' P' a', ∃ o' c' nx' : Nat, sh_L_case15 F x n (i : Int) size lim hs bs gs bk gr ht dr (o : Int) (c : Int) (h : Int) (w : Int) (c : Int) (nx : Int) now D out P = some (hs', (o' : Int), (c' : Int), rf, (c' : Int), (nx' : Int), now', D', out', P') ∧ Rc (h * w) bk gr ht dr lim hs' bs gs a' ∧ Rm (h * w) 0 now' a' ∧ ab_wf (h * w) w b a' ∧ zHR (h * w) w b P' o' c' D' nx' ∧ zSR (h * w) w b P' fl ik K := by
  have hn16 := gz_n16 G.2.1 G.2.2.2.1
  have hh : 1 ≤ h ∧ h ≤ 4 := ⟨G.1, G.2.1⟩
  have hw : 1 ≤ w ∧ w ≤ 4 := ⟨G.2.2.1, G.2.2.2.1⟩
  have hx1 := hx (i + 1)
  unfold sh_L_case15
  rw [zkx_t (by omega) (by omega), ix_i1]
  generalize x (i + 1) = y at *
  rcases pt_cases (h := h) (w := w) y with ⟨p, rfl, hp⟩ | hp
  · have ix_151 : (((15 : Int) * (p : Int)) + (1 : Int)).toNat = 15 * p + 1 := by omega
    have m0 := (M.at0 hp).2
    cases hg : ab_hg a p
    · have m1 : now (15 * p + 1) = 0 := by rw [m0, hg]; rfl
      have r1 := R.hangs (F := F) hn16 hp
      rw [hg] at r1
      have r1' : sh_X0_hangs F hs (p : Int) = some 0 := r1
      obtain ⟨hs', t1, R'⟩ := R.flip (F := F) hn16 hp
      have M' := M.flip hn16 hp 1 (by rw [hg]; rfl)
      obtain ⟨P', o', c', D', nx', n1, n2, hP, H'⟩ := hist_note (F := F) (by omega) hn16 H R M W
      have W' := ab_flip_wf W p
      have q1 := R'.hcount (F := F) hn16
      have q2 := M'.hcount (F := F) (by omega) hh hw
      have hr := ab_hcnt_rng (ab_flip a p) (h * w)
      have gg : -2147483648 ≤ ab_hcnt (ab_flip a p) (h * w) ∧ ab_hcnt (ab_flip a p) (h * w) ≤ 2147483647 := by omega
      have e1 : sh_X8_hang F size lim hs bs gs bk gr ht dr (o : Int) (c : Int) P (p : Int) = some (0, ab_hcnt (ab_flip a p) (h * w), hs', (o' : Int), (c' : Int), P') := by
        unfold sh_X8_hang
        rw [rp_in G hp, Option.bind_some, if_pos rfl, r1', Option.bind_some, zkr_t (by decide) (by decide), if_pos rfl, n1, Option.bind_some, t1, Option.bind_some, q1, Option.bind_some]
      have e2 : sh_X9_hang F (h : Int) (w : Int) (c : Int) (nx : Int) now D (p : Int) = some (ab_hcnt (ab_flip a p) (h * w), 0, (c' : Int), (nx' : Int), va_up now (15 * p + 1) 1, D') := by
        unfold sh_X9_hang
        rw [ip_in hh hw hp, Option.bind_some, zkr_t (by decide) (by decide), if_neg (by decide), zkx_t (by omega) (by omega), ix_151, m1, zkr_t (by decide) (by decide), if_neg (by decide), rf_0, Option.bind_some]
        dsimp only
        rw [zkr_t (by decide) (by decide), if_pos rfl, n2, Option.bind_some, q2, Option.bind_some]
      have e3 : sh_L_hang F size lim hs bs gs bk gr ht dr (o : Int) (c : Int) out P 1 (p : Int) = some (0, hs', (o' : Int), (c' : Int), va_up out 0 (ab_hcnt (ab_flip a p) (h * w)), P') := by
        unfold sh_L_hang
        rw [e1, Option.bind_some]
        exact wl_0 gg
      refine ⟨hs', 0, va_up now (15 * p + 1) 1, D', va_up out 0 (ab_hcnt (ab_flip a p) (h * w)), P', ab_flip a p, o', c', nx', ?_, R', M', W', H', S.pool hP⟩
      rw [e3, Option.bind_some, e2, Option.bind_some]
      dsimp only
      exact tl_0 rfl gg
    · have m1 : now (15 * p + 1) = 1 := by rw [m0, hg]; rfl
      have r1 := R.hangs (F := F) hn16 hp
      rw [hg] at r1
      have r1' : sh_X0_hangs F hs (p : Int) = some 1 := r1
      have e1 : sh_X8_hang F size lim hs bs gs bk gr ht dr (o : Int) (c : Int) P (p : Int) = some (3, 0, hs, (o : Int), (c : Int), P) := by
        unfold sh_X8_hang
        rw [rp_in G hp, Option.bind_some, if_pos rfl, r1', Option.bind_some, zkr_t (by decide) (by decide), if_neg (by decide)]
      have e2 : sh_X9_hang F (h : Int) (w : Int) (c : Int) (nx : Int) now D (p : Int) = some (0, 2, (c : Int), (nx : Int), now, D) := by
        unfold sh_X9_hang
        rw [ip_in hh hw hp, Option.bind_some, zkr_t (by decide) (by decide), if_neg (by decide), zkx_t (by omega) (by omega), ix_151, m1, zkr_t (by decide) (by decide), if_pos rfl, rf_2, Option.bind_some]
        dsimp only
        rw [zkr_t (by decide) (by decide), if_neg (by decide)]
      have e3 : sh_L_hang F size lim hs bs gs bk gr ht dr (o : Int) (c : Int) out P 1 (p : Int) = some (2, hs, (o : Int), (c : Int), out, P) := by
        unfold sh_L_hang
        rw [e1, Option.bind_some]
        exact wl_31
      refine ⟨hs, 2, now, D, out, P, a, o, c, nx, ?_, R, M, W, H, S⟩
      rw [e3, Option.bind_some, e2, Option.bind_some]
      dsimp only
      exact tl_z (by decide) (by decide)
  · have e1 : sh_X8_hang F size lim hs bs gs bk gr ht dr (o : Int) (c : Int) P y = some (1, 0, hs, (o : Int), (c : Int), P) := by
      unfold sh_X8_hang
      rw [rp_out G hx1 hp, Option.bind_some, if_neg (by decide)]
    have e2 : sh_X9_hang F (h : Int) (w : Int) (c : Int) (nx : Int) now D y = some (0, 1, (c : Int), (nx : Int), now, D) := by
      unfold sh_X9_hang
      rw [ip_out hh hw hx1 hp, Option.bind_some, zkr_t (by decide) (by decide), if_pos rfl, rf_1, Option.bind_some]
      dsimp only
      rw [zkr_t (by decide) (by decide), if_neg (by decide)]
    have e3 : sh_L_hang F size lim hs bs gs bk gr ht dr (o : Int) (c : Int) out P 1 y = some (1, hs, (o : Int), (c : Int), out, P) := by
      unfold sh_L_hang
      rw [e1, Option.bind_some]
      exact wl_1
    refine ⟨hs, 1, now, D, out, P, a, o, c, nx, ?_, R, M, W, H, S⟩
    rw [e3, Option.bind_some, e2, Option.bind_some]
    dsimp only
    exact tl_z (by decide) (by decide)
theorem k_release (hF : 20000 ≤ F) (G : gz_ok h w size ro co ne nc) (R : Rc (h * w) bk gr ht dr lim hs bs gs a) (M : Rm (h * w) 0 now a) (W : ab_wf (h * w) w b a) (hb : b ≤ 100000) (H : zHR (h * w) w b P o c D nx) (S : zSR (h * w) w b P fl ik K) (hx : xs_ok x) (hi : i + 4 ≤ n) (hn : n ≤ 2048) (out : Nat → Int) : ∃ hs' rf now' D' out' P' a', ∃ o' c' nx' : Nat, sh_L_case16 F x n (i : Int) size lim hs bs gs bk gr ht dr (o : Int) (c : Int) (h : Int) (w : Int) (c : Int) (nx : Int) now D out P = some (hs', (o' : Int), (c' : Int), rf, (c' : Int), (nx' : Int), now', D', out', P') ∧ Rc (h * w) bk gr ht dr lim hs' bs gs a' ∧ Rm (h * w) 0 now' a' ∧ ab_wf (h * w) w b a' ∧ zHR (h * w) w b P' o' c' D' nx' ∧ zSR (h * w) w b P' fl ik K := by
  have hn16 := gz_n16 G.2.1 G.2.2.2.1
  have hh : 1 ≤ h ∧ h ≤ 4 := ⟨G.1, G.2.1⟩
  have hw : 1 ≤ w ∧ w ≤ 4 := ⟨G.2.2.1, G.2.2.2.1⟩
  have hx1 := hx (i + 1)
  unfold sh_L_case16
  rw [zkx_t (by omega) (by omega), ix_i1]
  generalize x (i + 1) = y at *
  rcases pt_cases (h := h) (w := w) y with ⟨p, rfl, hp⟩ | hp
  · have ix_151 : (((15 : Int) * (p : Int)) + (1 : Int)).toNat = 15 * p + 1 := by omega
    have m0 := (M.at0 hp).2
    cases hg : ab_hg a p
    · have m1 : now (15 * p + 1) = 0 := by rw [m0, hg]; rfl
      have r1 := R.hangs (F := F) hn16 hp
      rw [hg] at r1
      have r1' : sh_X0_hangs F hs (p : Int) = some 0 := r1
      have e1 : sh_X8_release F size lim hs bs gs bk gr ht dr (o : Int) (c : Int) P (p : Int) = some (3, 0, hs, (o : Int), (c : Int), P) := by
        unfold sh_X8_release
        rw [rp_in G hp, Option.bind_some, if_pos rfl, r1', Option.bind_some, zkr_t (by decide) (by decide), if_pos rfl]
      have e2 : sh_X9_release F (h : Int) (w : Int) (c : Int) (nx : Int) now D (p : Int) = some (0, 2, (c : Int), (nx : Int), now, D) := by
        unfold sh_X9_release
        rw [ip_in hh hw hp, Option.bind_some, zkr_t (by decide) (by decide), if_neg (by decide), zkx_t (by omega) (by omega), ix_151, m1, zkr_t (by decide) (by decide), if_pos rfl, rf_2, Option.bind_some]
        dsimp only
        rw [zkr_t (by decide) (by decide), if_neg (by decide)]
      have e3 : sh_L_release F size lim hs bs gs bk gr ht dr (o : Int) (c : Int) out P 1 (p : Int) = some (2, hs, (o : Int), (c : Int), out, P) := by
        unfold sh_L_release
        rw [e1, Option.bind_some]
        exact wl_31
      refine ⟨hs, 2, now, D, out, P, a, o, c, nx, ?_, R, M, W, H, S⟩
      rw [e3, Option.bind_some, e2, Option.bind_some]
      dsimp only
      exact tl_z (by decide) (by decide)
    · have m1 : now (15 * p + 1) = 1 := by rw [m0, hg]; rfl
      have r1 := R.hangs (F := F) hn16 hp
      rw [hg] at r1
      have r1' : sh_X0_hangs F hs (p : Int) = some 1 := r1
      obtain ⟨hs', t1, R'⟩ := R.flip (F := F) hn16 hp
      have M' := M.flip hn16 hp 0 (by rw [hg]; rfl)
      obtain ⟨P', o', c', D', nx', n1, n2, hP, H'⟩ := hist_note (F := F) (by omega) hn16 H R M W
      have W' := ab_flip_wf W p
      have q1 := R'.hcount (F := F) hn16
      have q2 := M'.hcount (F := F) (by omega) hh hw
      have hr := ab_hcnt_rng (ab_flip a p) (h * w)
      have gg : -2147483648 ≤ ab_hcnt (ab_flip a p) (h * w) ∧ ab_hcnt (ab_flip a p) (h * w) ≤ 2147483647 := by omega
      have e1 : sh_X8_release F size lim hs bs gs bk gr ht dr (o : Int) (c : Int) P (p : Int) = some (0, ab_hcnt (ab_flip a p) (h * w), hs', (o' : Int), (c' : Int), P') := by
        unfold sh_X8_release
        rw [rp_in G hp, Option.bind_some, if_pos rfl, r1', Option.bind_some, zkr_t (by decide) (by decide), if_neg (by decide), n1, Option.bind_some, t1, Option.bind_some, q1, Option.bind_some]
      have e2 : sh_X9_release F (h : Int) (w : Int) (c : Int) (nx : Int) now D (p : Int) = some (ab_hcnt (ab_flip a p) (h * w), 0, (c' : Int), (nx' : Int), va_up now (15 * p + 1) 0, D') := by
        unfold sh_X9_release
        rw [ip_in hh hw hp, Option.bind_some, zkr_t (by decide) (by decide), if_neg (by decide), zkx_t (by omega) (by omega), ix_151, m1, zkr_t (by decide) (by decide), if_neg (by decide), rf_0, Option.bind_some]
        dsimp only
        rw [zkr_t (by decide) (by decide), if_pos rfl, n2, Option.bind_some, q2, Option.bind_some]
      have e3 : sh_L_release F size lim hs bs gs bk gr ht dr (o : Int) (c : Int) out P 1 (p : Int) = some (0, hs', (o' : Int), (c' : Int), va_up out 0 (ab_hcnt (ab_flip a p) (h * w)), P') := by
        unfold sh_L_release
        rw [e1, Option.bind_some]
        exact wl_0 gg
      refine ⟨hs', 0, va_up now (15 * p + 1) 0, D', va_up out 0 (ab_hcnt (ab_flip a p) (h * w)), P', ab_flip a p, o', c', nx', ?_, R', M', W', H', S.pool hP⟩
      rw [e3, Option.bind_some, e2, Option.bind_some]
      dsimp only
      exact tl_0 rfl gg
  · have e1 : sh_X8_release F size lim hs bs gs bk gr ht dr (o : Int) (c : Int) P y = some (1, 0, hs, (o : Int), (c : Int), P) := by
      unfold sh_X8_release
      rw [rp_out G hx1 hp, Option.bind_some, if_neg (by decide)]
    have e2 : sh_X9_release F (h : Int) (w : Int) (c : Int) (nx : Int) now D y = some (0, 1, (c : Int), (nx : Int), now, D) := by
      unfold sh_X9_release
      rw [ip_out hh hw hx1 hp, Option.bind_some, zkr_t (by decide) (by decide), if_pos rfl, rf_1, Option.bind_some]
      dsimp only
      rw [zkr_t (by decide) (by decide), if_neg (by decide)]
    have e3 : sh_L_release F size lim hs bs gs bk gr ht dr (o : Int) (c : Int) out P 1 y = some (1, hs, (o : Int), (c : Int), out, P) := by
      unfold sh_L_release
      rw [e1, Option.bind_some]
      exact wl_1
    refine ⟨hs, 1, now, D, out, P, a, o, c, nx, ?_, R, M, W, H, S⟩
    rw [e3, Option.bind_some, e2, Option.bind_some]
    dsimp only
    exact tl_z (by decide) (by decide)
end CASES
