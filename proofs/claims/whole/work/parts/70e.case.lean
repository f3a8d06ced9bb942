section CASES
variable {F h w : Nat} {size : Int} {ro co ne nc : Nat → Int} {bk gr ht dr now : Nat → Int} {lim hs bs gs b : Int} {a : zAb} {x : Nat → Int} {n i : Nat}
theorem k_origins (hF : 20000 ≤ F) (G : gz_ok h w size ro co ne nc) (R : Rc (h * w) bk gr ht dr lim hs bs gs a) (M : Rm (h * w) 0 now a) (W : ab_wf (h * w) w b a) (hb : b ≤ 100000) (hx : xs_ok x) (hi : i + 4 ≤ n) (hn : n ≤ 2048) (c1 : Int) (v out : Nat → Int) : ∃ c1' v' rf out', sh_L_case29 F x n (i : Int) size bk gr ht c1 v (h : Int) (w : Int) now out = some (c1', v', rf, out') := by
  have hn16 := gz_n16 G.2.1 G.2.2.2.1
  have hh : 1 ≤ h ∧ h ≤ 4 := ⟨G.1, G.2.1⟩
  have hw : 1 ≤ w ∧ w ≤ 4 := ⟨G.2.2.1, G.2.2.2.1⟩
  have hx1 := hx (i + 1)
  have hx2 := hx (i + 2)
  unfold sh_L_case29 sh_L_origins sh_X8_origins sh_X9_origins sh_X9_thrown
  simp (disch := omega) only [zkx_t, ix_i1, ix_i2]
  generalize x (i + 1) = y at *
  generalize x (i + 2) = z at *
  have mi := m_in F y 1 9 (by omega) (by decide) (by decide)
  by_cases hy : 1 ≤ y ∧ y ≤ 9
  · rw [if_pos hy] at mi
    have rr := rr_in (F := F) (x := y) (lo := 1) (hi := 9) (by decide) (by decide) hy
    obtain ⟨m, rfl⟩ : ∃ m : Nat, y = (m : Int) := ⟨y.toNat, by omega⟩
    obtain ⟨c', v', s1, s2⟩ := c_split (F := F) (B := 10) (n := m) (by omega) (by decide) (by omega) c1 v (x := z) (by omega)
    have s1' : sh_X3_split F c1 v z (m : Int) (10 : Int) = _ := s1
    have et := m_tens (F := F) (n := m) (by omega) (by omega)
    have ht := ten_le (n := m) (by omega)
    have mz := m_in F z 0 (((10 ^ m : Nat) : Int) - 1) (by omega) (by decide) (by omega)
    by_cases hz : 0 ≤ z ∧ z.toNat < 10 ^ m
    · rw [if_pos hz] at s1'
      rw [if_pos (by omega)] at mz
      obtain ⟨s3, s4⟩ := s2 hz.1
      subst s3
      have hd : ∀ t, t < m → v' t = og_d z.toNat m t := s4
      have hv : ∀ t, t < m → 0 ≤ v' t ∧ v' t ≤ 9 := fun t ht => by rw [hd t ht]; unfold og_d; omega
      have e1 := R.org (F := F) (by omega) G W (m0 := m) (by omega) hv
      rw [ab_org_congr hd] at e1
      have e2 := m_org_46 (F := F) (y := 0) (x := z.toNat) (m0 := m) (by omega) hh hw M W (by omega) (by omega) (h * w) F 0 0 (by omega) (by omega) (by decide)
      rw [show ((z.toNat : Nat) : Int) = z by omega] at e2
      have e2' : sh_X9_origins_L46_3 F (m : Int) z (h : Int) (w : Int) now (fun v108 _ => some (v108, 0)) F (0 : Int) (0 : Int) = some (ab_org (h * w) a (og_d z.toNat m) m, 0) := e2
      have hl : 0 ≤ ab_org (h * w) a (og_d z.toNat m) m ∧ ab_org (h * w) a (og_d z.toNat m) m < 65536 := by
        unfold ab_org
        have := ab_blk_lt (fun p => ab_beg a (og_d z.toNat m) p m 0) (List.range' 0 (h * w)) 0 (fun q hq => by rw [← List.range_eq_range'] at hq; have := List.mem_range.mp hq; omega) (by decide)
        omega
      simp (disch := omega) only [mi, rr, s1', et, mz, e1, e2', Option.bind_some, rf_0, zkr_t, zkl_t, zkx_t, if_true, if_pos, if_neg, ix_o, up_s]
      first | exact ⟨_, _, _, _, rfl⟩ | (rw [if_pos trivial]; exact ⟨_, _, _, _, rfl⟩)
    · rw [if_neg hz] at s1'
      rw [if_neg (by omega)] at mz
      simp (disch := omega) only [mi, rr, s1', et, mz, Option.bind_some, rf_1, zkr_t, zkl_t, zkx_t, if_true, if_pos, if_neg]
      first | exact ⟨_, _, _, _, rfl⟩ | (rw [if_pos trivial]; exact ⟨_, _, _, _, rfl⟩)
  · rw [if_neg hy] at mi
    have rr := rr_out (F := F) (x := y) (lo := 1) (hi := 9) (by decide) (by decide) hx1 hy
    simp (disch := omega) only [mi, rr, Option.bind_some, rf_1, zkr_t, zkl_t, zkx_t, if_true, if_pos, if_neg]
    first | exact ⟨_, _, _, _, rfl⟩ | (rw [if_pos trivial]; exact ⟨_, _, _, _, rfl⟩)
end CASES
