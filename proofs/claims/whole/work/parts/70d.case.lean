/-! CALLS that try on a copy -/
theorem ab_go_short {n w : Nat} : ∀ (m : Nat) (a : zAb), (ab_go n w m a).1 ≠ (m : Int) → ab_next n w (ab_go n w m a).2 = -9
  | 0, a, h => absurd rfl h
  | m + 1, a, h => by
    rw [ab_go] at h ⊢
    by_cases c : ab_next n w a = -9
    · rw [if_pos c]; exact c
    · rw [if_neg c] at h ⊢
      exact ab_go_short m _ (fun z => h (by show _ + (1 : Int) = _; omega))
section CASES
variable {F h w : Nat} {size : Int} {ro co ne nc : Nat → Int} {bk gr ht dr now : Nat → Int} {lim hs bs gs b : Int} {a : zAb} {x : Nat → Int} {n i : Nat}
theorem k_orderAhead (hF : 20000 ≤ F) (G : gz_ok h w size ro co ne nc) (R : Rc (h * w) bk gr ht dr lim hs bs gs a) (M : Rm (h * w) 0 now a) (W : ab_wf (h * w) w b a) (hb : b ≤ 100000) (hx : xs_ok x) (hi : i + 4 ≤ n) (hn : n ≤ 2048) (c1 c2 c3 c4 : Int) (d1 d2 d3 d4 tr out : Nat → Int) : ∃ e1 e2 e3 e4 g1 g2 g3 g4 rf tr' out', sh_L_case24 F x n (i : Int) size ne nc lim hs bs gs bk gr ht dr c1 c2 c3 c4 d1 d2 d3 d4 (h : Int) (w : Int) now tr out = some (e1, e2, e3, e4, g1, g2, g3, g4, rf, tr', out') := by
  have hn16 := gz_n16 G.2.1 G.2.2.2.1
  have hh : 1 ≤ h ∧ h ≤ 4 := ⟨G.1, G.2.1⟩
  have hw : 1 ≤ w ∧ w ≤ 4 := ⟨G.2.2.1, G.2.2.2.1⟩
  have hx1 := hx (i + 1)
  unfold sh_L_case24 sh_L_orderAhead sh_X8_orderAhead sh_X9_orderAhead sh_X9_thrown
  simp (disch := omega) only [zkx_t, ix_i1]
  generalize x (i + 1) = y at *
  have mi := m_in F y 0 99 (by omega) (by decide) (by decide)
  by_cases hy : 0 ≤ y ∧ y ≤ 99
  · rw [if_pos hy] at mi
    have rr := rr_in (F := F) (x := y) (lo := 0) (hi := 99) (by decide) (by decide) hy
    obtain ⟨P, rfl⟩ : ∃ P : Nat, y = (P : Int) := ⟨y.toNat, by omega⟩
    have eb : sh_X0_become F d1 d2 d3 d4 lim hs bs gs bk gr ht dr = some (lim, hs, bs, gs, va_cpy bk d1 0 0 96, va_cpy gr d2 0 0 96, va_cpy ht d3 0 0 16, va_cpy dr d4 0 0 16) := rfl
    have ec : sh_X9_copy F now tr 243 243 (0 : Int) (0 : Int) = some (cp_of now tr 0 0) := m_copy (o1 := 0) (o2 := 0) (by omega) (by omega) (by omega)
    have M1 : Rm (h * w) 0 (cp_of now tr 0 0) a := M.cp hn16
    have hg := ab_go_rng P b a W
    obtain ⟨bs', gs', bk', gr', ht', dr', u1, u2⟩ := (R.become (bk2 := d1) (gr2 := d2) (ht2 := d3) (dr2 := d4) hn16).go (F := F) (by omega) G W P (by omega) (by omega)
    obtain ⟨f', v1, v2, v3⟩ := M1.go (F := F) (n0 := 243) (by omega) hh hw W P (by omega) (by omega) (by omega) (by omega)
    have e1 := u2.next (F := F) (by omega) G hg.2 (by omega)
    have e2 := v2.next (F := F) (n0 := 243) (by omega) hh hw hg.2 (by omega) (by omega) (by omega)
    have rg : -9 ≤ ab_next (h * w) w (ab_go (h * w) w P a).2 ∧ ab_next (h * w) w (ab_go (h * w) w P a).2 ≤ 16 := by rcases ab_next_rng (h * w) w (ab_go (h * w) w P a).2 with z | ⟨p, z1, z2, -⟩ <;> omega
    simp (disch := omega) only [mi, rr, eb, ec, u1, v1, e1, e2, Option.bind_some, rf_0, zkr_t, zkl_t, zkx_t, if_true, if_pos, if_neg, ix_o, up_s]
    by_cases q : (ab_go (h * w) w P a).1 = (P : Int)
    · simp (disch := omega) only [q, if_true, Option.bind_some, zkr_t, zkl_t, if_pos]
      exact ⟨_, _, _, _, _, _, _, _, _, _, _, rfl⟩
    · have sh := ab_go_short P a q
      simp (disch := omega) only [q, sh, if_false, Option.bind_some, zkr_t, zkl_t, if_pos, if_true]
      exact ⟨_, _, _, _, _, _, _, _, _, _, _, rfl⟩
  · rw [if_neg hy] at mi
    have rr := rr_out (F := F) (x := y) (lo := 0) (hi := 99) (by decide) (by decide) hx1 hy
    simp (disch := omega) only [mi, rr, Option.bind_some, rf_1, zkr_t, zkl_t, zkx_t, if_true, if_pos, if_neg]
    exact ⟨_, _, _, _, _, _, _, _, _, _, _, rfl⟩
end CASES
