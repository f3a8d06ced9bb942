section CASES
variable {F h w : Nat} {size : Int} {ro co ne nc : Nat → Int} {bk gr ht dr now : Nat → Int} {lim hs bs gs b : Int} {a : zAb} {x : Nat → Int} {n i : Nat}
theorem k_runScript (hF : 20000 ≤ F) (G : gz_ok h w size ro co ne nc) (R : Rc (h * w) bk gr ht dr lim hs bs gs a) (M : Rm (h * w) 0 now a) (W : ab_wf (h * w) w b a) (hb : b ≤ 100000) (hx : xs_ok x) (hi : i + 4 ≤ n) (hn : n ≤ 2048) (c1 c2 c3 c4 c5 : Int) (d1 d2 d3 d4 d5 tr out : Nat → Int) : ∃ e1 e2 e3 e4 g1 g2 g3 g4 e5 g5 rf tr' out', sh_L_case30 F x n (i : Int) size ne nc lim hs bs gs bk gr ht dr c1 c2 c3 c4 d1 d2 d3 d4 c5 d5 (h : Int) (w : Int) now tr out = some (e1, e2, e3, e4, g1, g2, g3, g4, e5, g5, rf, tr', out') := by
  have hn16 := gz_n16 G.2.1 G.2.2.2.1
  have hh : 1 ≤ h ∧ h ≤ 4 := ⟨G.1, G.2.1⟩
  have hw : 1 ≤ w ∧ w ≤ 4 := ⟨G.2.2.1, G.2.2.2.1⟩
  have hx1 := hx (i + 1)
  have hx2 := hx (i + 2)
  have hx3 := hx (i + 3)
  unfold sh_L_case30 sh_L_runScript sh_X8_runScript sh_X9_runScript sh_X9_thrown
  simp (disch := omega) only [zkx_t, zkr_t, ix_i1, ix_i2, ix_i3]
  have hsd := zlor_rng (zlshl (x (i + 2)) (32 : Int)) (zland (x (i + 3)) (4294967295 : Int))
  generalize zlor (zlshl (x (i + 2)) (32 : Int)) (zland (x (i + 3)) (4294967295 : Int)) = z at *
  generalize x (i + 1) = y at *
  have mi := m_in F y 1 4 (by omega) (by decide) (by decide)
  by_cases hy : 1 ≤ y ∧ y ≤ 4
  · rw [if_pos hy] at mi
    have rr := rr_in (F := F) (x := y) (lo := 1) (hi := 4) (by decide) (by decide) hy
    obtain ⟨m, rfl⟩ : ∃ m : Nat, y = (m : Int) := ⟨y.toNat, by omega⟩
    obtain ⟨c', v', s1, s2⟩ := c_split (F := F) (B := 10000) (n := m) (by omega) (by decide) (by omega) c5 d5 (x := z) hsd
    have s1' : sh_X3_split F c5 d5 z (m : Int) (10000 : Int) = _ := s1
    have et : sh_X9_tens F ((4 : Int) * (m : Int)) = some ((10000 ^ m : Nat) : Int) := by
      rw [← p4]
      exact m_tens (n := 4 * m) (by omega) (by omega)
    have ht0 := ten_le (n := 4 * m) (by omega)
    rw [p4] at ht0
    have mz := m_in F z 0 (((10000 ^ m : Nat) : Int) - 1) (by omega) (by decide) (by omega)
    by_cases hz : 0 ≤ z ∧ z.toNat < 10000 ^ m
    · rw [if_pos hz] at s1'
      rw [if_pos (by omega)] at mz
      obtain ⟨s3, s4⟩ := s2 hz.1
      subst s3
      have eb : sh_X0_become F d1 d2 d3 d4 lim hs bs gs bk gr ht dr = some (lim, hs, bs, gs, va_cpy bk d1 0 0 96, va_cpy gr d2 0 0 96, va_cpy ht d3 0 0 16, va_cpy dr d4 0 0 16) := rfl
      have ec : sh_X9_copy F now tr 243 243 (0 : Int) (0 : Int) = some (cp_of now tr 0 0) := m_copy (o1 := 0) (o2 := 0) (by omega) (by omega) (by omega)
      have M1 : Rm (h * w) 0 (cp_of now tr 0 0) a := M.cp hn16
      obtain ⟨hs', bs', gs', bk', gr', ht', dr', u1⟩ := c_scr_L (F := F) (x := z.toNat) (n0 := m) (by omega) G (by omega) s4 m F 0 _ _ _ _ hs bs gs b a (R.become (bk2 := d1) (gr2 := d2) (ht2 := d3) (dr2 := d4) hn16) W (by omega) (by omega) (by omega)
      have u1' : sh_X5_firstFailure F size ne nc lim hs bs gs (va_cpy bk d1 0 0 96) (va_cpy gr d2 0 0 96) (va_cpy ht d3 0 0 16) (va_cpy dr d4 0 0 16) (m : Int) v' = _ := u1
      obtain ⟨f', v1⟩ := m_scr_L (F := F) (x := z.toNat) (n0 := m) (y := 0) (by omega) hh hw (by omega) (by omega) ((0 : Int), (0 : Int)) rfl m F 0 (cp_of now tr 0 0) b a M1 W (by omega) (by omega) (by omega)
      rw [show ((z.toNat : Nat) : Int) = z by omega, show ((0 : Nat) : Int) = (0 : Int) from rfl] at v1
      have rg := ab_scr_rng (n := h * w) (w := w) (x := z.toNat) (n0 := m) m 0 a (by omega)
      simp (disch := omega) only [mi, rr, s1', et, mz, eb, ec, u1', Option.bind_some, rf_0, zkr_t, zkl_t, zkx_t, if_true, if_pos, if_neg, ix_o, up_s]
      simp (disch := omega) only [v1, Option.bind_some, zkr_t, zkl_t, if_true, if_pos, ix_o, up_s]
      first | exact ⟨_, _, _, _, _, _, _, _, _, _, _, _, _, rfl⟩ | (rw [if_pos trivial]; exact ⟨_, _, _, _, _, _, _, _, _, _, _, _, _, rfl⟩)
    · rw [if_neg hz] at s1'
      rw [if_neg (by omega)] at mz
      simp (disch := omega) only [mi, rr, s1', et, mz, Option.bind_some, rf_1, zkr_t, zkl_t, zkx_t, if_true, if_pos, if_neg]
      first | exact ⟨_, _, _, _, _, _, _, _, _, _, _, _, _, rfl⟩ | (rw [if_pos trivial]; exact ⟨_, _, _, _, _, _, _, _, _, _, _, _, _, rfl⟩)
  · rw [if_neg hy] at mi
    have rr := rr_out (F := F) (x := y) (lo := 1) (hi := 4) (by decide) (by decide) hx1 hy
    simp (disch := omega) only [mi, rr, Option.bind_some, rf_1, zkr_t, zkl_t, zkx_t, if_true, if_pos, if_neg]
    exact ⟨_, _, _, _, _, _, _, _, _, _, _, _, _, rfl⟩
end CASES
