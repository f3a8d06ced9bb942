/-! CALLS that change the cave, continued: setBound, undo, save, restore -/
section CASES
variable {F h w : Nat} {size : Int} {ro co ne nc : Nat → Int} {bk gr ht dr now D fl ik K : Nat → Int} {lim hs bs gs b : Int} {a : zAb} {x : Nat → Int} {n i o c nx : Nat} {P : Nat → zCv}

theorem k_setBound (hF : 20000 ≤ F) (G : gz_ok h w size ro co ne nc) (R : Rc (h * w) bk gr ht dr lim hs bs gs a) (M : Rm (h * w) 0 now a) (W : ab_wf (h * w) w b a) (hb : b ≤ 100000) (H : zHR (h * w) w b P o c D nx) (S : zSR (h * w) w b P fl ik K) (hx : xs_ok x) (hi : i + 4 ≤ n) (hn : n ≤ 2048) (out : Nat → Int) : ∃ lim' rf now' D' out' P' a', ∃ o' c' nx' : Nat, sh_L_case18 F x n (i : Int) size ne nc lim hs bs gs bk gr ht dr (o : Int) (c : Int) (h : Int) (w : Int) (c : Int) (nx : Int) now D out P = some (lim', (o' : Int), (c' : Int), rf, (c' : Int), (nx' : Int), now', D', out', P') ∧ Rc (h * w) bk gr ht dr lim' hs bs gs a' ∧ Rm (h * w) 0 now' a' ∧ ab_wf (h * w) w b a' ∧ zHR (h * w) w b P' o' c' D' nx' ∧ zSR (h * w) w b P' fl ik K := by
  have hn16 := gz_n16 G.2.1 G.2.2.2.1
  have hh : 1 ≤ h ∧ h ≤ 4 := ⟨G.1, G.2.1⟩
  have hw : 1 ≤ w ∧ w ≤ 4 := ⟨G.2.2.1, G.2.2.2.1⟩
  have hx1 := hx (i + 1)
  unfold sh_L_case18
  rw [zkx_t (by omega) (by omega), ix_i1]
  generalize x (i + 1) = y at *
  have mi := m_in F y 1 9 (by omega) (by decide) (by decide)
  by_cases hy : 1 ≤ y ∧ y ≤ 9
  · rw [if_pos hy] at mi
    have rr := rr_in (F := F) (x := y) (lo := 1) (hi := 9) (by decide) (by decide) hy
    have r1 := R.fits (F := F) (l2 := y) (by omega) G W (by omega) (by omega)
    have r2 := M.kept (F := F) (l2 := y) (by omega) hh hw W (by omega) (by omega)
    have wl := W.2.2.1
    cases hf : ab_fits (h * w) w a y
    · rw [hf] at r1 r2
      have r1' : sh_X0_fits F dr size ne nc y = some 0 := r1
      have r2' : sh_X9_isKeptBy F (h : Int) (w : Int) now y = some 0 := r2
      have e1 : sh_X8_setBound F size ne nc lim hs bs gs bk gr ht dr (o : Int) (c : Int) P y = some (3, 0, lim, (o : Int), (c : Int), P) := by
        unfold sh_X8_setBound
        rw [rr, Option.bind_some, if_pos rfl, r1', Option.bind_some, zkr_t (by decide) (by decide), if_pos rfl]
      have e2 : sh_X9_setBound F (h : Int) (w : Int) (c : Int) (nx : Int) now D y = some (0, 2, (c : Int), (nx : Int), now, D) := by
        unfold sh_X9_setBound
        rw [zkr_t (by omega) (by omega), mi, Option.bind_some, zkr_t (by decide) (by decide), if_neg (by decide), r2', Option.bind_some, zkr_t (by decide) (by decide), if_pos rfl, rf_2, Option.bind_some]
        dsimp only
        rw [zkr_t (by decide) (by decide), if_neg (by decide)]
      have e3 : sh_L_setBound F size ne nc lim hs bs gs bk gr ht dr (o : Int) (c : Int) out P 1 y = some (2, lim, (o : Int), (c : Int), out, P) := by
        unfold sh_L_setBound
        rw [e1, Option.bind_some]
        exact wl_32
      refine ⟨lim, 2, now, D, out, P, a, o, c, nx, ?_, R, M, W, H, S⟩
      rw [e3, Option.bind_some, e2, Option.bind_some]
      dsimp only
      exact tl_z (by decide) (by decide)
    · rw [hf] at r1 r2
      have r1' : sh_X0_fits F dr size ne nc y = some 1 := r1
      have r2' : sh_X9_isKeptBy F (h : Int) (w : Int) now y = some 1 := r2
      obtain ⟨P', o', c', D', nx', n1, n2, hP, H'⟩ := hist_note (F := F) (by omega) hn16 H R M W
      have m1 : now 240 = ab_lim a := M.2.1
      have l1 : lim = ab_lim a := R.2.2.1
      have gg : -2147483648 ≤ ab_lim a ∧ ab_lim a ≤ 2147483647 := by omega
      have e1 : sh_X8_setBound F size ne nc lim hs bs gs bk gr ht dr (o : Int) (c : Int) P y = some (0, ab_lim a, y, (o' : Int), (c' : Int), P') := by
        unfold sh_X8_setBound sh_X0_limit sh_X0_changeLimit
        rw [rr, Option.bind_some, if_pos rfl, r1', Option.bind_some, zkr_t (by decide) (by decide), if_neg (by decide), n1, Option.bind_some, Option.bind_some, Option.bind_some, l1]
      have e2 : sh_X9_setBound F (h : Int) (w : Int) (c : Int) (nx : Int) now D y = some (ab_lim a, 0, (c' : Int), (nx' : Int), va_up now 240 y, D') := by
        unfold sh_X9_setBound
        rw [zkr_t (by omega) (by omega), mi, Option.bind_some, zkr_t (by decide) (by decide), if_neg (by decide), r2', Option.bind_some, zkr_t (by decide) (by decide), if_neg (by decide), rf_0, Option.bind_some]
        dsimp only
        rw [zkr_t (by decide) (by decide), if_pos rfl, n2, Option.bind_some, ← m1]
        rfl
      have e3 : sh_L_setBound F size ne nc lim hs bs gs bk gr ht dr (o : Int) (c : Int) out P 1 y = some (0, y, (o' : Int), (c' : Int), va_up out 0 (ab_lim a), P') := by
        unfold sh_L_setBound
        rw [e1, Option.bind_some]
        exact wl_0 gg
      refine ⟨y, 0, va_up now 240 y, D', va_up out 0 (ab_lim a), P', ab_lims a y, o', c', nx', ?_, R.lims, M.lims hn16, ab_lims_wf W hf hy, H', S.pool hP⟩
      rw [e3, Option.bind_some, e2, Option.bind_some]
      dsimp only
      exact tl_0 rfl gg
  · rw [if_neg hy] at mi
    have rr := rr_out (F := F) (x := y) (lo := 1) (hi := 9) (by decide) (by decide) hx1 hy
    have e1 : sh_X8_setBound F size ne nc lim hs bs gs bk gr ht dr (o : Int) (c : Int) P y = some (2, 0, lim, (o : Int), (c : Int), P) := by
      unfold sh_X8_setBound
      rw [rr, Option.bind_some, if_neg (by decide)]
    have e2 : sh_X9_setBound F (h : Int) (w : Int) (c : Int) (nx : Int) now D y = some (0, 1, (c : Int), (nx : Int), now, D) := by
      unfold sh_X9_setBound
      rw [zkr_t (by omega) (by omega), mi, Option.bind_some, zkr_t (by decide) (by decide), if_pos rfl, rf_1, Option.bind_some]
      dsimp only
      rw [zkr_t (by decide) (by decide), if_neg (by decide)]
    have e3 : sh_L_setBound F size ne nc lim hs bs gs bk gr ht dr (o : Int) (c : Int) out P 1 y = some (1, lim, (o : Int), (c : Int), out, P) := by
      unfold sh_L_setBound
      rw [e1, Option.bind_some]
      exact wl_2
    refine ⟨lim, 1, now, D, out, P, a, o, c, nx, ?_, R, M, W, H, S⟩
    rw [e3, Option.bind_some, e2, Option.bind_some]
    dsimp only
    exact tl_z (by decide) (by decide)
theorem k_undo (hF : 20000 ≤ F) (hn16 : h * w ≤ 16) (R : Rc (h * w) bk gr ht dr lim hs bs gs a) (M : Rm (h * w) 0 now a) (W : ab_wf (h * w) w b a) (hb : b ≤ 100000) (H : zHR (h * w) w b P o c D nx) (S : zSR (h * w) w b P fl ik K) (out : Nat → Int) : ∃ lim' hs' bs' gs' bk' gr' ht' dr' rf now' out' a', ∃ c' nx' : Nat, sh_L_case19 F lim hs bs gs bk gr ht dr (o : Int) (c : Int) (c : Int) (nx : Int) now D out P = some (lim', hs', bs', gs', bk', gr', ht', dr', (c' : Int), rf, (c' : Int), (nx' : Int), now', out') ∧ Rc (h * w) bk' gr' ht' dr' lim' hs' bs' gs' a' ∧ Rm (h * w) 0 now' a' ∧ ab_wf (h * w) w b a' ∧ zHR (h * w) w b P o c' D nx' := by
  have h2 := H.2.1
  unfold sh_L_case19
  cases c with
  | zero =>
    have e1 : sh_X8_undo F lim hs bs gs bk gr ht dr (o : Int) ((0 : Nat) : Int) P = some (3, 0, lim, hs, bs, gs, bk, gr, ht, dr, ((0 : Nat) : Int)) := by
      unfold sh_X8_undo sh_X4_isEmpty
      rw [zkr_t (by decide) (by decide), if_pos (by omega), Option.bind_some, zkr_t (by decide) (by decide), if_neg (by decide)]
    have e2 : sh_X9_undo F ((0 : Nat) : Int) (nx : Int) now D = some (0, 1, ((0 : Nat) : Int), (nx : Int), now) := by
      unfold sh_X9_undo
      rw [zkr_t (by decide) (by decide), if_pos (by omega), rf_1, Option.bind_some]
      dsimp only
      rw [zkr_t (by decide) (by decide), if_neg (by decide)]
    have e3 : sh_L_undo F lim hs bs gs bk gr ht dr (o : Int) ((0 : Nat) : Int) out P 1 = some (1, lim, hs, bs, gs, bk, gr, ht, dr, ((0 : Nat) : Int), out) := by
      unfold sh_L_undo
      rw [e1, Option.bind_some]
      exact wl_3
    refine ⟨lim, hs, bs, gs, bk, gr, ht, dr, 1, now, out, a, 0, nx, ?_, R, M, W, H⟩
    rw [e3, Option.bind_some, e2, Option.bind_some]
    dsimp only
    exact tl_z (by decide) (by decide)
  | succ c =>
    obtain ⟨bk', gr', ht', dr', lim', hs', bs', gs', f', nx', a', x1, x2, R', M', W', H'⟩ := hist_undo (F := F) (f := now) (bk := bk) (gr := gr) (ht := ht) (dr := dr) (lim := lim) (hs := hs) (bs := bs) (gs := gs) (by omega) hn16 H
    have gg : -2147483648 ≤ (c : Int) ∧ (c : Int) ≤ 2147483647 := by omega
    have e1 : sh_X8_undo F lim hs bs gs bk gr ht dr (o : Int) ((c + 1 : Nat) : Int) P = some (0, (c : Int), lim', hs', bs', gs', bk', gr', ht', dr', (c : Int)) := by
      unfold sh_X8_undo sh_X4_isEmpty
      rw [zkr_t (by omega) (by omega), if_neg (by omega), Option.bind_some, zkr_t (by decide) (by decide), if_pos rfl, x1, Option.bind_some]
    have e3 : sh_L_undo F lim hs bs gs bk gr ht dr (o : Int) ((c + 1 : Nat) : Int) out P 1 = some (0, lim', hs', bs', gs', bk', gr', ht', dr', (c : Int), va_up out 0 (c : Int)) := by
      unfold sh_L_undo
      rw [e1, Option.bind_some]
      exact wl_0 gg
    refine ⟨lim', hs', bs', gs', bk', gr', ht', dr', 0, f', va_up out 0 (c : Int), a', c, nx', ?_, R', M', W', H'⟩
    rw [e3, Option.bind_some, x2, Option.bind_some]
    dsimp only
    exact tl_0 rfl gg
theorem k_save (hF : 20000 ≤ F) (hn16 : h * w ≤ 16) (R : Rc (h * w) bk gr ht dr lim hs bs gs a) (M : Rm (h * w) 0 now a) (W : ab_wf (h * w) w b a) (hb : b ≤ 100000) (H : zHR (h * w) w b P o c D nx) (S : zSR (h * w) w b P fl ik K) (hx : xs_ok x) (hi : i + 4 ≤ n) (hn : n ≤ 2048) (out : Nat → Int) : ∃ fl' rf K' ik' out' P', sh_L_case32 F x n (i : Int) lim hs bs gs bk gr ht dr fl now K ik out P = some (fl', rf, K', ik', out', P') ∧ zHR (h * w) w b P' o c D nx ∧ zSR (h * w) w b P' fl' ik' K' := by
  have hx1 := hx (i + 1)
  unfold sh_L_case32
  rw [zkx_t (by omega) (by omega), ix_i1]
  generalize x (i + 1) = y at *
  have mi := m_in F y 0 1 (by omega) (by decide) (by decide)
  by_cases hy : 0 ≤ y ∧ y ≤ 1
  · rw [if_pos hy] at mi
    obtain ⟨s, rfl, hs2⟩ : ∃ s : Nat, y = (s : Int) ∧ s < 2 := ⟨y.toNat, by omega, by omega⟩
    have b1 : bs = ab_bs a := R.2.2.2.1
    have m1 : now 241 = ab_bs a := M.2.2.1
    have wb := W.2.2.2.1
    have gg : -2147483648 ≤ bs ∧ bs ≤ 2147483647 := by omega
    have ec : sh_X9_copy F now K 243 486 (0 : Int) ((243 : Int) * (s : Int)) = some (cp_of now K 0 (243 * s)) := by
      have := m_copy (F := F) (f := now) (g := K) (n0 := 243) (n2 := 486) (o1 := 0) (o2 := 243 * s) (by omega) (by omega) (by omega)
      rw [Int.natCast_mul] at this
      exact this
    have e1 : sh_X8_save F lim hs bs gs bk gr ht dr fl P (s : Int) = some (0, bs, va_up fl s 1, zput P (14 + s) bk gr ht dr lim hs bs gs) := by
      unfold sh_X8_save sh_X7_store sh_X0_become sh_X0_bucketSum
      rw [rs_in hs2, Option.bind_some, if_pos rfl, zkx_t (by omega) (by omega), Option.bind_some, Option.bind_some, Option.bind_some, ix_n]
      rfl
    have e2 : sh_X9_save F now K ik (s : Int) = some (bs, 0, cp_of now K 0 (243 * s), va_up ik s 1) := by
      unfold sh_X9_save
      rw [zkr_t (by omega) (by omega), mi, Option.bind_some, zkr_t (by decide) (by decide), if_neg (by decide), rf_0, Option.bind_some]
      dsimp only
      rw [zkr_t (by decide) (by decide), if_pos rfl, zkx_t (by omega) (by omega), ec, Option.bind_some, ix_n, b1, ← m1]
      rfl
    have e3 : sh_L_save F lim hs bs gs bk gr ht dr fl out P 1 (s : Int) = some (0, va_up fl s 1, va_up out 0 bs, zput P (14 + s) bk gr ht dr lim hs bs gs) := by
      unfold sh_L_save
      rw [e1, Option.bind_some]
      exact wl_0 gg
    refine ⟨va_up fl s 1, 0, cp_of now K 0 (243 * s), va_up ik s 1, va_up out 0 bs, zput P (14 + s) bk gr ht dr lim hs bs gs, ?_, H.pool (fun j hj => zput_n (by omega)), fun t ht2 => ?_⟩
    · rw [e3, Option.bind_some, e2, Option.bind_some]
      dsimp only
      exact tl_0 rfl gg
    · by_cases e : t = s
      · subst e
        rw [up_s, up_s]
        exact ⟨rfl, Or.inr ⟨rfl, a, zput_s R hn16, M.cp hn16, W⟩⟩
      · obtain ⟨q1, q2⟩ := S t ht2
        rw [up_n _ _ _ e, up_n _ _ _ e, zput_n (by omega)]
        refine ⟨q1, ?_⟩
        rcases q2 with q2 | ⟨q2, a2, x1, x2, x3⟩
        · exact Or.inl q2
        · exact Or.inr ⟨q2, a2, x1, x2.cp_out hn16 (by omega), x3⟩
  · rw [if_neg hy] at mi
    have e1 : sh_X8_save F lim hs bs gs bk gr ht dr fl P y = some (1, 0, fl, P) := by
      unfold sh_X8_save
      rw [rs_out hx1 hy, Option.bind_some, if_neg (by decide)]
    have e2 : sh_X9_save F now K ik y = some (0, 1, K, ik) := by
      unfold sh_X9_save
      rw [zkr_t (by omega) (by omega), mi, Option.bind_some, zkr_t (by decide) (by decide), if_pos rfl, rf_1, Option.bind_some]
      dsimp only
      rw [zkr_t (by decide) (by decide), if_neg (by decide)]
    have e3 : sh_L_save F lim hs bs gs bk gr ht dr fl out P 1 y = some (1, fl, out, P) := by
      unfold sh_L_save
      rw [e1, Option.bind_some]
      exact wl_1
    refine ⟨fl, 1, K, ik, out, P, ?_, H, S⟩
    rw [e3, Option.bind_some, e2, Option.bind_some]
    dsimp only
    exact tl_z (by decide) (by decide)
theorem k_restore (hF : 20000 ≤ F) (hn16 : h * w ≤ 16) (R : Rc (h * w) bk gr ht dr lim hs bs gs a) (M : Rm (h * w) 0 now a) (W : ab_wf (h * w) w b a) (hb : b ≤ 100000) (H : zHR (h * w) w b P o c D nx) (S : zSR (h * w) w b P fl ik K) (hx : xs_ok x) (hi : i + 4 ≤ n) (hn : n ≤ 2048) (out : Nat → Int) : ∃ lim' hs' bs' gs' bk' gr' ht' dr' rf now' out' a', ∃ o' c' : Nat, sh_L_case33 F x n (i : Int) lim hs bs gs bk gr ht dr (o : Int) (c : Int) fl (c : Int) now K ik out P = some (lim', hs', bs', gs', bk', gr', ht', dr', (o' : Int), (c' : Int), rf, (c' : Int), now', out') ∧ Rc (h * w) bk' gr' ht' dr' lim' hs' bs' gs' a' ∧ Rm (h * w) 0 now' a' ∧ ab_wf (h * w) w b a' ∧ zHR (h * w) w b P o' c' D nx := by
  have hx1 := hx (i + 1)
  unfold sh_L_case33
  rw [zkx_t (by omega) (by omega), ix_i1]
  generalize x (i + 1) = y at *
  have mi := m_in F y 0 1 (by omega) (by decide) (by decide)
  by_cases hy : 0 ≤ y ∧ y ≤ 1
  · rw [if_pos hy] at mi
    obtain ⟨s, rfl, hs2⟩ : ∃ s : Nat, y = (s : Int) ∧ s < 2 := ⟨y.toNat, by omega, by omega⟩
    obtain ⟨q1, q2⟩ := S s hs2
    rcases q2 with q2 | ⟨q2, a2, x1, x2, x3⟩
    · have e0 : sh_X7_isFilled F fl (s : Int) = some 0 := by
        unfold sh_X7_isFilled
        rw [zkx_t (by omega) (by omega), ix_n, q1, q2, zkc_t (Or.inl rfl)]
      have e1 : sh_X8_restore F lim hs bs gs bk gr ht dr (o : Int) (c : Int) fl P (s : Int) = some (3, 0, lim, hs, bs, gs, bk, gr, ht, dr, (o : Int), (c : Int)) := by
        unfold sh_X8_restore
        rw [rs_in hs2, Option.bind_some, if_pos rfl, e0, Option.bind_some, zkr_t (by decide) (by decide), if_pos rfl]
      have e2 : sh_X9_restore F (c : Int) now K ik (s : Int) = some (0, 2, (c : Int), now) := by
        unfold sh_X9_restore
        rw [zkr_t (by omega) (by omega), mi, Option.bind_some, zkr_t (by decide) (by decide), if_neg (by decide), zkx_t (by omega) (by omega), ix_n, q2, zkr_t (by decide) (by decide), if_pos rfl, rf_2, Option.bind_some]
        dsimp only
        rw [zkr_t (by decide) (by decide), if_neg (by decide)]
      have e3 : sh_L_restore F lim hs bs gs bk gr ht dr (o : Int) (c : Int) fl out P 1 (s : Int) = some (2, lim, hs, bs, gs, bk, gr, ht, dr, (o : Int), (c : Int), out) := by
        unfold sh_L_restore
        rw [e1, Option.bind_some]
        exact wl_31
      refine ⟨lim, hs, bs, gs, bk, gr, ht, dr, 2, now, out, a, o, c, ?_, R, M, W, H⟩
      rw [e3, Option.bind_some, e2, Option.bind_some]
      dsimp only
      exact tl_z (by decide) (by decide)
    · have e0 : sh_X7_isFilled F fl (s : Int) = some 1 := by
        unfold sh_X7_isFilled
        rw [zkx_t (by omega) (by omega), ix_n, q1, q2, zkc_t (Or.inr rfl)]
      have R' := x1.become (bk2 := bk) (gr2 := gr) (ht2 := ht) (dr2 := dr) hn16
      have M' := x2.cp (o2 := 0) (g := now) hn16
      have b1 : (P (14 + s)).2.2.2.2.2.2.1 = ab_bs a2 := R'.2.2.2.1
      have m1 : cp_of K now (243 * s) 0 241 = ab_bs a2 := M'.2.2.1
      have wb := x3.2.2.2.1
      have gg : -2147483648 ≤ ab_bs a2 ∧ ab_bs a2 ≤ 2147483647 := by omega
      have ec : sh_X9_copy F K now 486 243 ((243 : Int) * (s : Int)) (0 : Int) = some (cp_of K now (243 * s) 0) := by
        have := m_copy (F := F) (f := K) (g := now) (n0 := 486) (n2 := 243) (o1 := 243 * s) (o2 := 0) (by omega) (by omega) (by omega)
        rw [Int.natCast_mul] at this
        exact this
      have e1 : sh_X8_restore F lim hs bs gs bk gr ht dr (o : Int) (c : Int) fl P (s : Int) = some (0, ab_bs a2, (P (14 + s)).2.2.2.2.1, (P (14 + s)).2.2.2.2.2.1, (P (14 + s)).2.2.2.2.2.2.1, (P (14 + s)).2.2.2.2.2.2.2, va_cpy (P (14 + s)).1 bk 0 0 96, va_cpy (P (14 + s)).2.1 gr 0 0 96, va_cpy (P (14 + s)).2.2.1 ht 0 0 16, va_cpy (P (14 + s)).2.2.2.1 dr 0 0 16, 0, 0) := by
        unfold sh_X8_restore sh_X7_fetch sh_X0_become sh_X4_forget sh_X0_bucketSum
        rw [rs_in hs2, Option.bind_some, if_pos rfl, e0, Option.bind_some, zkr_t (by decide) (by decide), if_neg (by decide), zkx_t (by omega) (by omega), Option.bind_some, Option.bind_some, Option.bind_some, Option.bind_some, ix_n, ← b1]
        rfl
      have e2 : sh_X9_restore F (c : Int) now K ik (s : Int) = some (ab_bs a2, 0, 0, cp_of K now (243 * s) 0) := by
        unfold sh_X9_restore
        rw [zkr_t (by omega) (by omega), mi, Option.bind_some, zkr_t (by decide) (by decide), if_neg (by decide), zkx_t (by omega) (by omega), ix_n, q2, zkr_t (by decide) (by decide), if_neg (by decide), rf_0, Option.bind_some]
        dsimp only
        rw [zkr_t (by decide) (by decide), if_pos rfl, ec, Option.bind_some, ← m1]
        rfl
      have e3 : sh_L_restore F lim hs bs gs bk gr ht dr (o : Int) (c : Int) fl out P 1 (s : Int) = some (0, (P (14 + s)).2.2.2.2.1, (P (14 + s)).2.2.2.2.2.1, (P (14 + s)).2.2.2.2.2.2.1, (P (14 + s)).2.2.2.2.2.2.2, va_cpy (P (14 + s)).1 bk 0 0 96, va_cpy (P (14 + s)).2.1 gr 0 0 96, va_cpy (P (14 + s)).2.2.1 ht 0 0 16, va_cpy (P (14 + s)).2.2.2.1 dr 0 0 16, 0, 0, va_up out 0 (ab_bs a2)) := by
        unfold sh_L_restore
        rw [e1, Option.bind_some]
        exact wl_0 gg
      refine ⟨_, _, _, _, _, _, _, _, 0, cp_of K now (243 * s) 0, va_up out 0 (ab_bs a2), a2, 0, 0, ?_, R', M', x3, zHR.zero H.2.2.1⟩
      rw [e3, Option.bind_some, e2, Option.bind_some]
      dsimp only
      exact tl_0 rfl gg
  · rw [if_neg hy] at mi
    have e1 : sh_X8_restore F lim hs bs gs bk gr ht dr (o : Int) (c : Int) fl P y = some (1, 0, lim, hs, bs, gs, bk, gr, ht, dr, (o : Int), (c : Int)) := by
      unfold sh_X8_restore
      rw [rs_out hx1 hy, Option.bind_some, if_neg (by decide)]
    have e2 : sh_X9_restore F (c : Int) now K ik y = some (0, 1, (c : Int), now) := by
      unfold sh_X9_restore
      rw [zkr_t (by omega) (by omega), mi, Option.bind_some, zkr_t (by decide) (by decide), if_pos rfl, rf_1, Option.bind_some]
      dsimp only
      rw [zkr_t (by decide) (by decide), if_neg (by decide)]
    have e3 : sh_L_restore F lim hs bs gs bk gr ht dr (o : Int) (c : Int) fl out P 1 y = some (1, lim, hs, bs, gs, bk, gr, ht, dr, (o : Int), (c : Int), out) := by
      unfold sh_L_restore
      rw [e1, Option.bind_some]
      exact wl_1
    refine ⟨lim, hs, bs, gs, bk, gr, ht, dr, 1, now, out, a, o, c, ?_, R, M, W, H⟩
    rw [e3, Option.bind_some, e2, Option.bind_some]
    dsimp only
    exact tl_z (by decide) (by decide)
end CASES
