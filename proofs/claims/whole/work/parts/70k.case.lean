/-! CALLS that change the cave, continued -/
def ab_add (a : zAb) (p : Nat) (x y : Int) : zAb := (fun q => if q = p then ab_col a q ++ [(x, y)] else ab_col a q, ab_dr a, ab_hg a, ab_lim a, ab_bs a, ab_gs a)
theorem ab_add_wf {n w : Nat} {b : Int} {a : zAb} (W : ab_wf n w b a) {p : Nat} {x y : Int} (hl : (ab_col a p).length < 6) (hx : 1 ≤ x ∧ x ≤ 9) (hy : 0 ≤ y ∧ y ≤ 9) : ab_wf n w b (ab_add a p x y) := by
  refine ⟨fun q hq => ⟨?_, (W.1 q hq).2⟩, W.2⟩
  have r := (W.1 q hq).1
  show ab_ok (if q = p then ab_col a q ++ [(x, y)] else ab_col a q)
  split
  · rename_i e
    subst e
    refine ⟨by rw [List.length_append, List.length_singleton]; omega, fun z hz => ?_⟩
    rcases List.mem_append.mp hz with hz | hz
    · exact r.2 z hz
    · rw [List.mem_singleton] at hz
      subst hz
      exact ⟨hx.1, hx.2, hy.1, hy.2⟩
  · exact r
theorem Rc.pile {F n : Nat} {bk gr ht dr : Nat → Int} {lim hs bs gs : Int} {a : zAb} (R : Rc n bk gr ht dr lim hs bs gs a) (hn : n ≤ 16) {p j : Nat} (hp : p < n) (hj : ht p = (j : Int)) (h6 : j < 6) (x y : Int) : sh_X0_pile F bk gr ht (p : Int) x y = some (va_up bk (6 * p + j) x, va_up gr (6 * p + j) y, va_up ht p ((j + 1 : Nat) : Int)) ∧ Rc n (va_up bk (6 * p + j) x) (va_up gr (6 * p + j) y) (va_up ht p ((j + 1 : Nat) : Int)) dr lim hs bs gs (ab_add a p x y) := by
  refine ⟨c_pile (by omega) h6 hj, fun q hq => ?_, R.2⟩
  have r := R.1 q hq
  by_cases e : q = p
  · subst e
    rw [up_s]
    refine ⟨by omega, ?_, r.2.2⟩
    rw [Int.toNat_natCast, cl_snoc, up_s, up_s]
    show _ = (if q = q then ab_col a q ++ [(x, y)] else ab_col a q)
    rw [if_pos rfl, ← r.2.1, hj, Int.toNat_natCast]
    refine congrArg (· ++ [(x, y)]) (cl_congr _ _ _ (fun i hi => ?_))
    rw [up_n _ _ _ (by omega), up_n _ _ _ (by omega)]
    exact ⟨rfl, rfl⟩
  · rw [up_n _ _ _ e]
    refine ⟨r.1, ?_, r.2.2⟩
    show _ = (if q = p then ab_col a q ++ [(x, y)] else ab_col a q)
    rw [if_neg e, ← r.2.1]
    refine cl_congr _ _ _ (fun i hi => ?_)
    have r1 := r.1
    rw [up_n _ _ _ (by omega), up_n _ _ _ (by omega)]
    exact ⟨rfl, rfl⟩
def m_ww (f : Nat → Int) (p j : Nat) (x y : Int) : Nat → Int := va_up (va_up (va_up f (15 * p + 3 + 2 * j) x) (15 * p + 3 + 2 * j + 1) y) (15 * p + 2) ((j : Int) + (1 : Int))
theorem Rm.pile {n : Nat} {f : Nat → Int} {a : zAb} (M : Rm n 0 f a) (hn : n ≤ 16) {p j : Nat} (hp : p < n) (hj : f (15 * p + 2) = (j : Int)) (h6 : j < 6) (x y : Int) : Rm n 0 (m_ww f p j x y) (ab_add a p x y) := by
  have k1 : m_ww f p j x y (15 * p + 2) = ((j + 1 : Nat) : Int) := up_s _ _ _
  have k3 : m_ww f p j x y (15 * p + 3 + 2 * j + 1) = y := by unfold m_ww; rw [up_n _ _ _ (by omega), up_s]
  have k2 : m_ww f p j x y (15 * p + 3 + 2 * j) = x := by unfold m_ww; rw [up_n _ _ _ (by omega), up_n _ _ _ (by omega), up_s]
  have k4 : ∀ k, k ≠ 15 * p + 2 → k ≠ 15 * p + 3 + 2 * j → k ≠ 15 * p + 3 + 2 * j + 1 → m_ww f p j x y k = f k := fun k h1 h2 h3 => by unfold m_ww; rw [up_n _ _ _ h1, up_n _ _ _ h3, up_n _ _ _ h2]
  refine ⟨fun q hq => ?_, ?_, ?_, ?_⟩
  · have r := M.1 q hq
    rw [Nat.zero_add] at r ⊢
    rw [k4 (15 * q) (by omega) (by omega) (by omega), k4 (15 * q + 1) (by omega) (by omega) (by omega)]
    by_cases e : q = p
    · subst e
      rw [k1]
      refine ⟨by omega, ?_, r.2.2⟩
      rw [Int.toNat_natCast, ml_snoc, k2, k3]
      show _ = (if q = q then ab_col a q ++ [(x, y)] else ab_col a q)
      rw [if_pos rfl, ← r.2.1, hj, Int.toNat_natCast]
      refine congrArg (· ++ [(x, y)]) (ml_congr _ _ _ (fun i hi => ?_))
      rw [k4 _ (by omega) (by omega) (by omega)]
    · rw [k4 (15 * q + 2) (by omega) (by omega) (by omega)]
      refine ⟨r.1, ?_, r.2.2⟩
      show _ = (if q = p then ab_col a q ++ [(x, y)] else ab_col a q)
      rw [if_neg e, ← r.2.1]
      have r1 := r.1
      refine ml_congr _ _ _ (fun i hi => ?_)
      rw [k4 _ (by omega) (by omega) (by omega)]
  · rw [k4 _ (by omega) (by omega) (by omega)]; exact M.2.1
  · rw [k4 _ (by omega) (by omega) (by omega)]; exact M.2.2.1
  · rw [k4 _ (by omega) (by omega) (by omega)]; exact M.2.2.2
def ab_lims (a : zAb) (l : Int) : zAb := (ab_col a, ab_dr a, ab_hg a, l, ab_bs a, ab_gs a)
theorem ab_lims_wf {n w : Nat} {b l : Int} {a : zAb} (W : ab_wf n w b a) (hf : ab_fits n w a l = true) (hl : 1 ≤ l ∧ l ≤ 9) : ab_wf n w b (ab_lims a l) := by
  refine ⟨W.1, fun p q hp hq hd => ?_, hl, W.2.2.2⟩
  have h1 := List.all_eq_true.mp hf p (List.mem_range'_1.mpr (by omega))
  have h2 := List.all_eq_true.mp h1 q (gz_nb_mem.mpr ⟨hq, hd⟩)
  exact of_decide_eq_true h2
theorem Rc.lims {n : Nat} {bk gr ht dr : Nat → Int} {lim hs bs gs l : Int} {a : zAb} (R : Rc n bk gr ht dr lim hs bs gs a) : Rc n bk gr ht dr l hs bs gs (ab_lims a l) := ⟨R.1, R.2.1, rfl, R.2.2.2.1, R.2.2.2.2⟩
theorem Rm.lims {n : Nat} {f : Nat → Int} {l : Int} {a : zAb} (M : Rm n 0 f a) (hn : n ≤ 16) : Rm n 0 (va_up f 240 l) (ab_lims a l) := by
  refine ⟨fun q hq => ?_, ?_, ?_, ?_⟩
  · have r := M.1 q hq
    rw [Nat.zero_add] at r ⊢
    rw [up_n _ _ _ (show 15 * q + 2 ≠ 240 by omega), up_n _ _ _ (show 15 * q ≠ 240 by omega), up_n _ _ _ (show 15 * q + 1 ≠ 240 by omega)]
    refine ⟨r.1, Eq.trans (ml_congr _ _ _ (fun i hi => ?_)) r.2.1, r.2.2⟩
    have r1 := r.1
    rw [up_n _ _ _ (by omega)]
  · exact up_s _ _ _
  · rw [up_n _ _ _ (by omega)]; exact M.2.2.1
  · rw [up_n _ _ _ (by omega)]; exact M.2.2.2
theorem c_forget7 {F : Nat} (hF : 20 ≤ F) (fl : Nat → Int) : sh_X7_forget F fl = some (va_up (va_up fl 0 0) 1 0) := by
  obtain ⟨N, rfl⟩ : ∃ M, F = M + 3 := ⟨F - 3, by omega⟩
  unfold sh_X7_forget
  rw [sh_X7_forget_L2, zkr_t (by decide) (by decide), if_pos (by decide), zkx_t (by decide) (by decide), sh_X7_forget_L2, zkr_t (by decide) (by decide), if_pos (by decide), zkx_t (by decide) (by decide), sh_X7_forget_L2, zkr_t (by decide) (by decide), if_neg (by decide)]
  rfl
theorem rs_in {F s : Nat} (hs : s < 2) : sh_X8_requireSlot F (s : Int) = some 0 := by
  unfold sh_X8_requireSlot
  rw [zkr_t (by omega) (by omega), if_neg (by omega), if_pos (by omega)]
theorem rs_out {F : Nat} {y : Int} (hx : -2147483648 ≤ y ∧ y ≤ 2147483647) (h : ¬ (0 ≤ y ∧ y ≤ 1)) : sh_X8_requireSlot F y = some 1 := by
  unfold sh_X8_requireSlot
  rw [zkr_t hx.1 hx.2]
  by_cases c : y < 0
  · rw [if_pos c]
  · rw [if_neg c, if_neg (by omega)]
section CASES
variable {F h w : Nat} {size : Int} {ro co ne nc : Nat → Int} {bk gr ht dr now D fl ik K : Nat → Int} {lim hs bs gs b : Int} {a : zAb} {x : Nat → Int} {n i o c nx : Nat} {P : Nat → zCv}

theorem k_addSlice (hF : 20000 ≤ F) (G : gz_ok h w size ro co ne nc) (R : Rc (h * w) bk gr ht dr lim hs bs gs a) (M : Rm (h * w) 0 now a) (W : ab_wf (h * w) w b a) (hb : b ≤ 100000) (H : zHR (h * w) w b P o c D nx) (S : zSR (h * w) w b P fl ik K) (hx : xs_ok x) (hi : i + 4 ≤ n) (hn : n ≤ 2048) (out : Nat → Int) : ∃ bk' gr' ht' rf now' D' out' P' a', ∃ o' c' nx' : Nat, sh_L_case17 F x n (i : Int) size lim hs bs gs bk gr ht dr (o : Int) (c : Int) (h : Int) (w : Int) (c : Int) (nx : Int) now D out P = some (bk', gr', ht', (o' : Int), (c' : Int), rf, (c' : Int), (nx' : Int), now', D', out', P') ∧ Rc (h * w) bk' gr' ht' dr lim hs bs gs a' ∧ Rm (h * w) 0 now' a' ∧ ab_wf (h * w) w b a' ∧ zHR (h * w) w b P' o' c' D' nx' ∧ zSR (h * w) w b P' fl ik K := by
  have hn16 := gz_n16 G.2.1 G.2.2.2.1
  have hh : 1 ≤ h ∧ h ≤ 4 := ⟨G.1, G.2.1⟩
  have hw : 1 ≤ w ∧ w ≤ 4 := ⟨G.2.2.1, G.2.2.2.1⟩
  have hx1 := hx (i + 1)
  have hx2 := hx (i + 2)
  have hx3 := hx (i + 3)
  unfold sh_L_case17
  rw [zkx_t (by omega) (by omega), zkx_t (by omega) (by omega), zkx_t (by omega) (by omega), ix_i1, ix_i2, ix_i3]
  generalize x (i + 1) = y at *
  generalize x (i + 2) = y2 at *
  generalize x (i + 3) = y3 at *
  have mi2 := m_in F y2 1 9 (by omega) (by decide) (by decide)
  have mi3 := m_in F y3 0 9 (by omega) (by decide) (by decide)
  rcases pt_cases (h := h) (w := w) y with ⟨p, rfl, hp⟩ | hp
  · by_cases h2 : 1 ≤ y2 ∧ y2 ≤ 9
    · rw [if_pos h2] at mi2
      have rr2 := rr_in (F := F) (x := y2) (lo := 1) (hi := 9) (by decide) (by decide) h2
      by_cases h3 : 0 ≤ y3 ∧ y3 ≤ 9
      · rw [if_pos h3] at mi3
        have rr3 := rr_in (F := F) (x := y3) (lo := 0) (hi := 9) (by decide) (by decide) h3
        have r := R.1 p hp
        have m := M.1 p hp
        rw [Nat.zero_add] at m
        have l1 := congrArg List.length r.2.1
        have l2 := congrArg List.length m.2.1
        rw [cl_len] at l1
        rw [ml_len] at l2
        obtain ⟨j, hj⟩ : ∃ j : Nat, ht p = (j : Int) := ⟨(ht p).toNat, by omega⟩
        have hj2 : now (15 * p + 2) = (j : Int) := by omega
        have i2 : (((15 : Int) * (p : Int)) + (2 : Int)).toNat = 15 * p + 2 := by omega
        have i3 : ((((15 : Int) * (p : Int)) + (3 : Int)) + ((2 : Int) * (j : Int))).toNat = 15 * p + 3 + 2 * j := by omega
        have i4 : (((((15 : Int) * (p : Int)) + (3 : Int)) + ((2 : Int) * (j : Int))) + (1 : Int)).toNat = 15 * p + 3 + 2 * j + 1 := by omega
        have eh : sh_X0_height F ht (p : Int) = some (j : Int) := by
          unfold sh_X0_height
          rw [zkx_t (by omega) (by omega), ix_n, hj]
        by_cases h6 : j < 6
        · obtain ⟨t1, R'⟩ := R.pile (F := F) hn16 hp hj h6 y2 y3
          have M' := M.pile hn16 hp hj2 h6 y2 y3
          have hl : (ab_col a p).length < 6 := by omega
          have W' := ab_add_wf W hl h2 h3
          obtain ⟨P', o', c', D', nx', n1, n2, hP, H'⟩ := hist_note (F := F) (by omega) hn16 H R M W
          have eh2 : sh_X0_height F (va_up ht p ((j + 1 : Nat) : Int)) (p : Int) = some ((j + 1 : Nat) : Int) := by
            unfold sh_X0_height
            rw [zkx_t (by omega) (by omega), ix_n, up_s]
          have gg : -2147483648 ≤ ((j + 1 : Nat) : Int) ∧ ((j + 1 : Nat) : Int) ≤ 2147483647 := by omega
          have e1 : sh_X8_addSlice F size lim hs bs gs bk gr ht dr (o : Int) (c : Int) P (p : Int) y2 y3 = some (0, ((j + 1 : Nat) : Int), va_up bk (6 * p + j) y2, va_up gr (6 * p + j) y3, va_up ht p ((j + 1 : Nat) : Int), (o' : Int), (c' : Int), P') := by
            unfold sh_X8_addSlice
            rw [rp_in G hp, Option.bind_some, if_pos rfl, rr2, Option.bind_some, if_pos rfl, rr3, Option.bind_some, if_pos rfl, eh, Option.bind_some, zkr_t (by omega) (by omega), if_pos (by omega), n1, Option.bind_some, t1, Option.bind_some]
            dsimp only
            rw [eh2, Option.bind_some]
          have e2 : sh_X9_addSlice F (h : Int) (w : Int) (c : Int) (nx : Int) now D (p : Int) y2 y3 = some (((j + 1 : Nat) : Int), 0, (c' : Int), (nx' : Int), m_ww now p j y2 y3, D') := by
            unfold sh_X9_addSlice
            rw [zkr_t (by omega) (by omega), mi2, Option.bind_some, zkr_t (by decide) (by decide), if_neg (by decide), zkr_t (by omega) (by omega), mi3, Option.bind_some, zkr_t (by decide) (by decide), if_neg (by decide), ip_in hh hw hp, Option.bind_some, zkr_t (by decide) (by decide), if_neg (by decide), if_neg (by decide), zkx_t (by omega) (by omega), i2, hj2, zkr_t (by omega) (by omega), if_neg (by omega), rf_0, Option.bind_some]
            dsimp only
            rw [zkr_t (by decide) (by decide), if_pos rfl, n2, Option.bind_some, zkx_t (by omega) (by omega), zkx_t (by omega) (by omega), i3, i4, up_n _ _ _ (show 15 * p + 2 ≠ 15 * p + 3 + 2 * j + 1 by omega), up_n _ _ _ (show 15 * p + 2 ≠ 15 * p + 3 + 2 * j by omega), hj2, up_s]
            rfl
          have e3 : sh_L_addSlice F size lim hs bs gs bk gr ht dr (o : Int) (c : Int) out P 1 (p : Int) y2 y3 = some (0, va_up bk (6 * p + j) y2, va_up gr (6 * p + j) y3, va_up ht p ((j + 1 : Nat) : Int), (o' : Int), (c' : Int), va_up out 0 ((j + 1 : Nat) : Int), P') := by
            unfold sh_L_addSlice
            rw [e1, Option.bind_some]
            exact wl_0 gg
          refine ⟨_, _, _, 0, m_ww now p j y2 y3, D', va_up out 0 ((j + 1 : Nat) : Int), P', ab_add a p y2 y3, o', c', nx', ?_, R', M', W', H', S.pool hP⟩
          rw [e3, Option.bind_some, e2, Option.bind_some]
          dsimp only
          exact tl_0 rfl gg
        · have hj6 : j = 6 := by omega
          subst hj6
          have e1 : sh_X8_addSlice F size lim hs bs gs bk gr ht dr (o : Int) (c : Int) P (p : Int) y2 y3 = some (3, 0, bk, gr, ht, (o : Int), (c : Int), P) := by
            unfold sh_X8_addSlice
            rw [rp_in G hp, Option.bind_some, if_pos rfl, rr2, Option.bind_some, if_pos rfl, rr3, Option.bind_some, if_pos rfl, eh, Option.bind_some, zkr_t (by omega) (by omega), if_neg (by omega)]
          have e2 : sh_X9_addSlice F (h : Int) (w : Int) (c : Int) (nx : Int) now D (p : Int) y2 y3 = some (0, 3, (c : Int), (nx : Int), now, D) := by
            unfold sh_X9_addSlice
            rw [zkr_t (by omega) (by omega), mi2, Option.bind_some, zkr_t (by decide) (by decide), if_neg (by decide), zkr_t (by omega) (by omega), mi3, Option.bind_some, zkr_t (by decide) (by decide), if_neg (by decide), ip_in hh hw hp, Option.bind_some, zkr_t (by decide) (by decide), if_neg (by decide), if_neg (by decide), zkx_t (by omega) (by omega), i2, hj2, zkr_t (by omega) (by omega), if_pos (by omega), rf_3, Option.bind_some]
            dsimp only
            rw [zkr_t (by decide) (by decide), if_neg (by decide)]
          have e3 : sh_L_addSlice F size lim hs bs gs bk gr ht dr (o : Int) (c : Int) out P 1 (p : Int) y2 y3 = some (3, bk, gr, ht, (o : Int), (c : Int), out, P) := by
            unfold sh_L_addSlice
            rw [e1, Option.bind_some]
            exact wl_321
          refine ⟨bk, gr, ht, 3, now, D, out, P, a, o, c, nx, ?_, R, M, W, H, S⟩
          rw [e3, Option.bind_some, e2, Option.bind_some]
          dsimp only
          exact tl_z (by decide) (by decide)
      · rw [if_neg h3] at mi3
        have rr3 := rr_out (F := F) (x := y3) (lo := 0) (hi := 9) (by decide) (by decide) hx3 h3
        have e1 : sh_X8_addSlice F size lim hs bs gs bk gr ht dr (o : Int) (c : Int) P (p : Int) y2 y3 = some (2, 0, bk, gr, ht, (o : Int), (c : Int), P) := by
          unfold sh_X8_addSlice
          rw [rp_in G hp, Option.bind_some, if_pos rfl, rr2, Option.bind_some, if_pos rfl, rr3, Option.bind_some, if_neg (by decide)]
        have e2 : sh_X9_addSlice F (h : Int) (w : Int) (c : Int) (nx : Int) now D (p : Int) y2 y3 = some (0, 2, (c : Int), (nx : Int), now, D) := by
          unfold sh_X9_addSlice
          rw [zkr_t (by omega) (by omega), mi2, Option.bind_some, zkr_t (by decide) (by decide), if_neg (by decide), zkr_t (by omega) (by omega), mi3, Option.bind_some, zkr_t (by decide) (by decide), if_pos rfl, ip_in hh hw hp, Option.bind_some, zkr_t (by decide) (by decide), if_neg (by decide), if_pos rfl, rf_2, Option.bind_some]
          dsimp only
          rw [zkr_t (by decide) (by decide), if_neg (by decide)]
        have e3 : sh_L_addSlice F size lim hs bs gs bk gr ht dr (o : Int) (c : Int) out P 1 (p : Int) y2 y3 = some (2, bk, gr, ht, (o : Int), (c : Int), out, P) := by
          unfold sh_L_addSlice
          rw [e1, Option.bind_some]
          exact wl_21
        refine ⟨bk, gr, ht, 2, now, D, out, P, a, o, c, nx, ?_, R, M, W, H, S⟩
        rw [e3, Option.bind_some, e2, Option.bind_some]
        dsimp only
        exact tl_z (by decide) (by decide)
    · rw [if_neg h2] at mi2
      have rr2 := rr_out (F := F) (x := y2) (lo := 1) (hi := 9) (by decide) (by decide) hx2 h2
      have e1 : sh_X8_addSlice F size lim hs bs gs bk gr ht dr (o : Int) (c : Int) P (p : Int) y2 y3 = some (2, 0, bk, gr, ht, (o : Int), (c : Int), P) := by
        unfold sh_X8_addSlice
        rw [rp_in G hp, Option.bind_some, if_pos rfl, rr2, Option.bind_some, if_neg (by decide)]
      have e2 : sh_X9_addSlice F (h : Int) (w : Int) (c : Int) (nx : Int) now D (p : Int) y2 y3 = some (0, 2, (c : Int), (nx : Int), now, D) := by
        unfold sh_X9_addSlice
        rw [zkr_t (by omega) (by omega), mi2, Option.bind_some, zkr_t (by decide) (by decide), if_pos rfl, ip_in hh hw hp, Option.bind_some, zkr_t (by decide) (by decide), if_neg (by decide), if_pos rfl, rf_2, Option.bind_some]
        dsimp only
        rw [zkr_t (by decide) (by decide), if_neg (by decide)]
      have e3 : sh_L_addSlice F size lim hs bs gs bk gr ht dr (o : Int) (c : Int) out P 1 (p : Int) y2 y3 = some (2, bk, gr, ht, (o : Int), (c : Int), out, P) := by
        unfold sh_L_addSlice
        rw [e1, Option.bind_some]
        exact wl_21
      refine ⟨bk, gr, ht, 2, now, D, out, P, a, o, c, nx, ?_, R, M, W, H, S⟩
      rw [e3, Option.bind_some, e2, Option.bind_some]
      dsimp only
      exact tl_z (by decide) (by decide)
  · have e1 : sh_X8_addSlice F size lim hs bs gs bk gr ht dr (o : Int) (c : Int) P y y2 y3 = some (1, 0, bk, gr, ht, (o : Int), (c : Int), P) := by
      unfold sh_X8_addSlice
      rw [rp_out G hx1 hp, Option.bind_some, if_neg (by decide)]
    have e2 : sh_X9_addSlice F (h : Int) (w : Int) (c : Int) (nx : Int) now D y y2 y3 = some (0, 1, (c : Int), (nx : Int), now, D) := by
      unfold sh_X9_addSlice
      by_cases h2 : 1 ≤ y2 ∧ y2 ≤ 9
      · rw [if_pos h2] at mi2
        by_cases h3 : 0 ≤ y3 ∧ y3 ≤ 9
        · rw [if_pos h3] at mi3
          rw [zkr_t (by omega) (by omega), mi2, Option.bind_some, zkr_t (by decide) (by decide), if_neg (by decide), zkr_t (by omega) (by omega), mi3, Option.bind_some, zkr_t (by decide) (by decide), if_neg (by decide), ip_out hh hw hx1 hp, Option.bind_some, zkr_t (by decide) (by decide), if_pos rfl, rf_1, Option.bind_some]
          dsimp only
          rw [zkr_t (by decide) (by decide), if_neg (by decide)]
        · rw [if_neg h3] at mi3
          rw [zkr_t (by omega) (by omega), mi2, Option.bind_some, zkr_t (by decide) (by decide), if_neg (by decide), zkr_t (by omega) (by omega), mi3, Option.bind_some, zkr_t (by decide) (by decide), if_pos rfl, ip_out hh hw hx1 hp, Option.bind_some, zkr_t (by decide) (by decide), if_pos rfl, rf_1, Option.bind_some]
          dsimp only
          rw [zkr_t (by decide) (by decide), if_neg (by decide)]
      · rw [if_neg h2] at mi2
        rw [zkr_t (by omega) (by omega), mi2, Option.bind_some, zkr_t (by decide) (by decide), if_pos rfl, ip_out hh hw hx1 hp, Option.bind_some, zkr_t (by decide) (by decide), if_pos rfl, rf_1, Option.bind_some]
        dsimp only
        rw [zkr_t (by decide) (by decide), if_neg (by decide)]
    have e3 : sh_L_addSlice F size lim hs bs gs bk gr ht dr (o : Int) (c : Int) out P 1 y y2 y3 = some (1, bk, gr, ht, (o : Int), (c : Int), out, P) := by
      unfold sh_L_addSlice
      rw [e1, Option.bind_some]
      exact wl_1
    refine ⟨bk, gr, ht, 1, now, D, out, P, a, o, c, nx, ?_, R, M, W, H, S⟩
    rw [e3, Option.bind_some, e2, Option.bind_some]
    dsimp only
    exact tl_z (by decide) (by decide)
end CASES
