/-! THE CALLS, one after another: what both sides answer -/
theorem ix_i1 (i : Nat) : ((i : Int) + (1 : Int)).toNat = i + 1 := by omega
theorem ix_i2 (i : Nat) : ((i : Int) + (2 : Int)).toNat = i + 2 := by omega
theorem ix_i3 (i : Nat) : ((i : Int) + (3 : Int)).toNat = i + 3 := by omega
theorem ix_o : (0 : Int).toNat = 0 := rfl
def xs_ok (x : Nat → Int) : Prop := ∀ j, -2147483648 ≤ x j ∧ x j ≤ 2147483647
theorem rp_in {F h w p : Nat} {size : Int} {ro co ne nc : Nat → Int} (G : gz_ok h w size ro co ne nc) (hp : p < h * w) : sh_X8_requirePoint F size (p : Int) = some 0 := by
  have hn := gz_n16 G.2.1 G.2.2.2.1
  unfold sh_X8_requirePoint
  rw [c_has F h w size (p : Int) ro co ne nc G (by omega), Option.bind_some, if_pos (by omega)]
  rfl
theorem rp_out {F h w : Nat} {x size : Int} {ro co ne nc : Nat → Int} (G : gz_ok h w size ro co ne nc) (hx : -2147483648 ≤ x ∧ x ≤ 2147483647) (hp : ¬ (0 ≤ x ∧ x < ((h * w : Nat) : Int))) : sh_X8_requirePoint F size x = some 1 := by
  unfold sh_X8_requirePoint
  rw [c_has F h w size x ro co ne nc G hx, Option.bind_some, if_neg hp]
  rfl
theorem ip_in {F h w p : Nat} (hh : 1 ≤ h ∧ h ≤ 4) (hw : 1 ≤ w ∧ w ≤ 4) (hp : p < h * w) : sh_X9_isPoint F (h : Int) (w : Int) (p : Int) = some 1 := by
  have hn := gz_n16 hh.2 hw.2
  rw [m_isPoint F h w (p : Int) hh hw (by omega), if_pos (by omega)]
theorem ip_out {F h w : Nat} {x : Int} (hh : 1 ≤ h ∧ h ≤ 4) (hw : 1 ≤ w ∧ w ≤ 4) (hx : -2147483648 ≤ x ∧ x ≤ 2147483647) (hp : ¬ (0 ≤ x ∧ x < ((h * w : Nat) : Int))) : sh_X9_isPoint F (h : Int) (w : Int) x = some 0 := by
  rw [m_isPoint F h w x hh hw hx, if_neg hp]
theorem rf_0 (F : Nat) : sh_X9_refused F 0 = some (0, 0) := rfl
theorem rf_1 (F : Nat) : sh_X9_refused F 1 = some (1, 1) := rfl
theorem rf_2 (F : Nat) : sh_X9_refused F 2 = some (1, 2) := rfl
theorem rf_3 (F : Nat) : sh_X9_refused F 3 = some (1, 3) := rfl
theorem pt_cases {h w : Nat} (x : Int) : (∃ p : Nat, x = (p : Int) ∧ p < h * w) ∨ ¬ (0 ≤ x ∧ x < ((h * w : Nat) : Int)) := by
  by_cases c : 0 ≤ x ∧ x < ((h * w : Nat) : Int)
  · exact Or.inl ⟨x.toNat, by omega, by omega⟩
  · exact Or.inr c
section CASES
variable {F h w : Nat} {size : Int} {ro co ne nc : Nat → Int} {bk gr ht dr now : Nat → Int} {lim hs bs gs b : Int} {a : zAb} {x : Nat → Int} {n i : Nat}
theorem k_drawn (hF : 20000 ≤ F) (G : gz_ok h w size ro co ne nc) (R : Rc (h * w) bk gr ht dr lim hs bs gs a) (M : Rm (h * w) 0 now a) (W : ab_wf (h * w) w b a) (hb : b ≤ 100000) (hx : xs_ok x) (hi : i + 4 ≤ n) (hn : n ≤ 2048) (out : Nat → Int) : ∃ rf out', sh_L_case6 F x n (i : Int) size dr (h : Int) (w : Int) now out = some (rf, out') := by
  have hn16 := gz_n16 G.2.1 G.2.2.2.1
  have hh : 1 ≤ h ∧ h ≤ 4 := ⟨G.1, G.2.1⟩
  have hw : 1 ≤ w ∧ w ≤ 4 := ⟨G.2.2.1, G.2.2.2.1⟩
  have hx1 := hx (i + 1)
  unfold sh_L_case6 sh_L_drawn sh_X8_drawn sh_X9_drawn sh_X9_thrown
  simp (disch := omega) only [zkx_t, ix_i1]
  generalize x (i + 1) = y at *
  rcases pt_cases (h := h) (w := w) y with ⟨p, rfl, hp⟩ | hp
  · have e1 : sh_X0_drawnFrom F dr (p : Int) = some (ab_dr a p) := by
      unfold sh_X0_drawnFrom
      rw [zkx_t (by omega) (by omega), ix_n, (R.1 p hp).2.2.1]
    have e2 := (M.at0 hp).1
    have w1 := W.1 p hp
    simp (disch := omega) only [rp_in G hp, ip_in hh hw hp, Option.bind_some, e1, rf_0, zkr_t, zkl_t, zkx_t, if_true, if_pos, if_neg, ix_15, e2, ix_o, up_s]
    exact ⟨_, _, rfl⟩
  · simp (disch := omega) only [rp_out G hx1 hp, ip_out hh hw hx1 hp, Option.bind_some, rf_1, zkr_t, zkl_t, zkx_t, if_true, if_pos, if_neg]
    exact ⟨_, _, rfl⟩
end CASES
