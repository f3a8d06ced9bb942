theorem zlor_rng (x y : Int) : -9223372036854775808 ≤ zlor x y ∧ zlor x y ≤ 9223372036854775807 := by
  unfold zlor
  have h1 := Int64.toInt_lt (zl x ||| zl y)
  have h2 := Int64.le_toInt (zl x ||| zl y)
  omega
section CASES
variable {F h w : Nat} {size : Int} {ro co ne nc : Nat → Int} {bk gr ht dr now : Nat → Int} {lim hs bs gs b : Int} {a : zAb} {x : Nat → Int} {n i : Nat}
theorem k_simulate (hF : 20000 ≤ F) (G : gz_ok h w size ro co ne nc) (R : Rc (h * w) bk gr ht dr lim hs bs gs a) (M : Rm (h * w) 0 now a) (W : ab_wf (h * w) w b a) (hb : b ≤ 100000) (hx : xs_ok x) (hi : i + 4 ≤ n) (hn : n ≤ 2048) (c1 c2 c3 c4 : Int) (d1 d2 d3 d4 tr out : Nat → Int) : ∃ e1 e2 e3 e4 g1 g2 g3 g4 rf tr' out', sh_L_case31 F x n (i : Int) size ne nc lim hs bs gs bk gr ht dr c1 c2 c3 c4 d1 d2 d3 d4 (h : Int) (w : Int) now tr out = some (e1, e2, e3, e4, g1, g2, g3, g4, rf, tr', out') := by
  have hn16 := gz_n16 G.2.1 G.2.2.2.1
  have hh : 1 ≤ h ∧ h ≤ 4 := ⟨G.1, G.2.1⟩
  have hw : 1 ≤ w ∧ w ≤ 4 := ⟨G.2.2.1, G.2.2.2.1⟩
  have hx1 := hx (i + 1)
  have hx2 := hx (i + 2)
  have hx3 := hx (i + 3)
  unfold sh_L_case31 sh_L_simulate sh_X8_simulate sh_X9_simulate sh_X9_thrown
  simp (disch := omega) only [zkx_t, zkr_t, ix_i1, ix_i2, ix_i3]
  generalize zlor (zlshl (x (i + 1)) (32 : Int)) (zland (x (i + 2)) (4294967295 : Int)) = sd
  generalize x (i + 3) = y at *
  have mi := m_in F y 1 100 (by omega) (by decide) (by decide)
  by_cases hy : 1 ≤ y ∧ y ≤ 100
  · rw [if_pos hy] at mi
    have rr := rr_in (F := F) (x := y) (lo := 1) (hi := 100) (by decide) (by decide) hy
    obtain ⟨P, rfl⟩ : ∃ P : Nat, y = (P : Int) := ⟨y.toNat, by omega⟩
    have eb : sh_X0_become F d1 d2 d3 d4 lim hs bs gs bk gr ht dr = some (lim, hs, bs, gs, va_cpy bk d1 0 0 96, va_cpy gr d2 0 0 96, va_cpy ht d3 0 0 16, va_cpy dr d4 0 0 16) := rfl
    have ec : sh_X9_copy F now tr 243 243 (0 : Int) (0 : Int) = some (cp_of now tr 0 0) := m_copy (o1 := 0) (o2 := 0) (by omega) (by omega) (by omega)
    have M1 : Rm (h * w) 0 (cp_of now tr 0 0) a := M.cp hn16
    have eg : now 242 = gs := by
      have := M.2.2.2
      rw [Nat.zero_add] at this
      rw [this, R.2.2.2.2]
    have wg := W.2.2.2.2
    have wg2 := (ab_sim_wf P sd b a W).2.2.2.2
    have egs := R.2.2.2.2
    obtain ⟨hs', bs', gs', bk', gr', ht', dr', u1⟩ := c_sim_L (F := F) (gs0 := gs) (by omega) G (by omega : P ≤ 100) (lim, hs, bs, gs, va_cpy bk d1 0 0 96, va_cpy gr d2 0 0 96, va_cpy ht d3 0 0 16, va_cpy dr d4 0 0 16) rfl P F 0 sd _ _ _ _ hs bs gs b a (R.become (bk2 := d1) (gr2 := d2) (ht2 := d3) (dr2 := d4) hn16) W (by omega) (by omega) (by omega)
    obtain ⟨f', v1⟩ := m_sim_L (F := F) (g0 := gs) (y := 0) (by omega) hh hw (by omega : P ≤ 100) eg P F 0 sd (cp_of now tr 0 0) b a M1 W (by omega) (by omega) (by omega)
    rw [show ((0 : Nat) : Int) = (0 : Int) from rfl] at u1 v1
    simp (disch := omega) only [mi, rr, eb, ec, Option.bind_some, rf_0, zkr_t, if_true]
    dsimp only at u1 v1
    rw [if_neg (show ¬ (1 : Int) = 0 by decide), u1, v1]
    simp (disch := omega) only [Option.bind_some, zkr_t, zkl_t, zkx_t, if_true, if_pos, ix_o, up_s]
    first | exact ⟨_, _, _, _, _, _, _, _, _, _, _, rfl⟩ | (rw [if_pos trivial]; exact ⟨_, _, _, _, _, _, _, _, _, _, _, rfl⟩)
  · rw [if_neg hy] at mi
    have rr := rr_out (F := F) (x := y) (lo := 1) (hi := 100) (by decide) (by decide) hx3 hy
    simp (disch := omega) only [mi, rr, Option.bind_some, rf_1, zkr_t, zkl_t, zkx_t, if_true, if_pos, if_neg]
    exact ⟨_, _, _, _, _, _, _, _, _, _, _, rfl⟩
end CASES
