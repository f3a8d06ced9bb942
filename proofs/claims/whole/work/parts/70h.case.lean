theorem fo_inv {P : zBst → Prop} {f : Nat → zBst → zBst} {n : Nat} (hf : ∀ p B, p < n → P B → P (f p B)) : ∀ (c p : Nat) (B : zBst), p + c ≤ n → P B → P (fo f c p B)
  | 0, _, _, _, h => h
  | c + 1, p, B, hp, h => fo_inv hf c (p + 1) _ (by omega) (hf p B (by omega) h)
def bs_q (N : Nat) (B : zBst) : Prop := (B.1 = -9 → ∀ j, B.2 j = -9) ∧ ∀ j, -9 ≤ B.2 j ∧ B.2 j ≤ (N : Int)
theorem bs_qq {n w N : Nat} (hnN : n ≤ N) : ∀ (m d : Nat) (s b : Int) (tr : Nat → Int) (a : zAb) (B : zBst), ab_wf n w b a → 0 ≤ s → (∀ j, -9 ≤ tr j ∧ tr j ≤ (N : Int)) → bs_q N B → bs_q N (bs n w m d s tr a B)
  | 0, d, s, b, tr, a, B, W, h0, ht, hB => by
    rw [bs]
    split
    · exact ⟨fun z => by have z' : s = -9 := z; omega, ht⟩
    · exact hB
  | m + 1, d, s, b, tr, a, B, W, h0, ht, hB => by
    rw [bs_s]
    refine fo_inv (P := bs_q N) (n := n) (fun p B hp hB => ?_) n 0 B (by omega) hB
    unfold bs_f
    split
    · rename_i hsl
      have hg := ab_grade0 (W.1 p hp).1 (ab_slack_pos W hp hsl).2.1
      exact bs_qq hnN m (d + 1) _ (b + 1) _ _ B (ab_take_wf W hp hsl) (by omega) (fun j => by
        by_cases e : j = d
        · subst e; rw [up_s]; omega
        · rw [up_n _ _ _ e]; exact ht j) hB
    · exact hB
section CASES
variable {F h w : Nat} {size : Int} {ro co ne nc : Nat → Int} {bk gr ht dr now : Nat → Int} {lim hs bs2 gs b : Int} {a : zAb} {x : Nat → Int} {n i : Nat}
theorem k_best (hF : 20000 ≤ F) (G : gz_ok h w size ro co ne nc) (R : Rc (h * w) bk gr ht dr lim hs bs2 gs a) (M : Rm (h * w) 0 now a) (W : ab_wf (h * w) w b a) (hb : b ≤ 100000) (hx : xs_ok x) (hi : i + 4 ≤ n) (hn : n ≤ 2048) (c1 c2 c3 : Int) (d1 d2 d3 d4 d5 d6 lv ch bt out : Nat → Int) : ∃ e1 e2 e3 g1 g2 g3 g4 g5 g6 rf lv' ch' bt' out', sh_L_case28 F x n (i : Int) size ne nc lim hs bk gr ht dr c1 c2 c3 d1 d2 d3 d4 d5 d6 (h : Int) (w : Int) now lv ch bt out = some (e1, e2, e3, g1, g2, g3, g4, g5, g6, rf, lv', ch', bt', out') := by
  have hn16 := gz_n16 G.2.1 G.2.2.2.1
  have hh : 1 ≤ h ∧ h ≤ 4 := ⟨G.1, G.2.1⟩
  have hw : 1 ≤ w ∧ w ≤ 4 := ⟨G.2.2.1, G.2.2.2.1⟩
  have hx1 := hx (i + 1)
  have hx2 := hx (i + 2)
  unfold sh_L_case28 sh_L_bestSequence sh_X8_bestSequence sh_X9_bestSequence sh_X9_thrown sh_X6_sum sh_X6_point
  simp (maxSteps := 4000000) (disch := omega) only [zkx_t, zkr_t, ix_i1, ix_i2]
  generalize x (i + 1) = y at *
  generalize x (i + 2) = z at *
  have mi := m_in F y 1 4 (by omega) (by decide) (by decide)
  by_cases hy : 1 ≤ y ∧ y ≤ 4
  · rw [if_pos hy] at mi
    have rr := rr_in (F := F) (x := y) (lo := 1) (hi := 4) (by decide) (by decide) hy
    obtain ⟨m, rfl⟩ : ∃ m : Nat, y = (m : Int) := ⟨y.toNat, by omega⟩
    have mz := m_in F z 0 (m : Int) (by omega) (by decide) (by omega)
    by_cases hz : 0 ≤ z ∧ z ≤ (m : Int)
    · rw [if_pos hz] at mz
      have rz := rr_in (F := F) (x := z) (lo := 0) (hi := (m : Int)) (by decide) (by omega) hz
      obtain ⟨k, rfl⟩ : ∃ k : Nat, z = (k : Int) := ⟨z.toNat, by omega⟩
      obtain ⟨ah, d2', tk, MM, ta, be, u1, u2⟩ := R.best (F := F) (by omega) G W (by omega) (n := m) (by omega) d1 d2 d3 d4 d5 d6
      obtain ⟨lv', ch', bt', v1, v2, v3⟩ := M.best (F := F) (by omega) hh hw W (by omega) (n := m) (by omega) lv ch bt
      have ok := bs_rng (n := h * w) (w := w) m 0 0 b (fun _ => -9) a (-9, fun _ => -9) W (by decide) (by omega) ⟨by decide, by decide⟩
      have qq := bs_qq (n := h * w) (w := w) (N := 16) hn16 m 0 0 b (fun _ => -9) a (-9, fun _ => -9) W (by decide) (fun _ => ⟨by decide, by decide⟩) ⟨fun _ _ => rfl, fun _ => ⟨show (-9 : Int) ≤ -9 by decide, show (-9 : Int) ≤ ((16 : Nat) : Int) by decide⟩⟩
      have ok' : -9 ≤ (bs_0 (h * w) w m a).1 ∧ (bs_0 (h * w) w m a).1 ≤ 100 := ok
      have qq' : bs_q 16 (bs_0 (h * w) w m a) := qq
      generalize bs_0 (h * w) w m a = B at *
      have i4 : (4 : Int).toNat = 4 := rfl
      have qk := qq'.2 k
      by_cases ck : k = m
      · subst ck
        by_cases c9 : B.1 = -9
        · simp (maxSteps := 4000000) (disch := omega) only [mi, rr, mz, rz, u1, v1, Option.bind_some, rf_0, zkr_t, zkl_t, zkx_t, if_true, if_pos, if_neg, ix_o, up_s, i4, v2, c9]
          first | exact ⟨_, _, _, _, _, _, _, _, _, _, _, _, _, _, rfl⟩ | (rw [if_pos trivial]; exact ⟨_, _, _, _, _, _, _, _, _, _, _, _, _, _, rfl⟩)
        · simp (maxSteps := 4000000) (disch := omega) only [mi, rr, mz, rz, u1, v1, Option.bind_some, rf_0, zkr_t, zkl_t, zkx_t, if_true, if_pos, if_neg, ix_o, up_s, i4, v2]
          first | exact ⟨_, _, _, _, _, _, _, _, _, _, _, _, _, _, rfl⟩ | (rw [if_pos trivial]; exact ⟨_, _, _, _, _, _, _, _, _, _, _, _, _, _, rfl⟩)
      · have eb := u2 k (by omega)
        by_cases c9 : B.1 = -9
        · have e9 := qq'.1 c9 k
          rw [e9] at eb
          simp (maxSteps := 4000000) (disch := omega) only [mi, rr, mz, rz, u1, v1, Option.bind_some, rf_0, zkr_t, zkl_t, zkx_t, if_true, if_pos, if_neg, ix_o, up_s, i4, v2, c9, ix_n, eb]
          first | exact ⟨_, _, _, _, _, _, _, _, _, _, _, _, _, _, rfl⟩ | (rw [if_pos trivial]; exact ⟨_, _, _, _, _, _, _, _, _, _, _, _, _, _, rfl⟩)
        · have ev := v3 c9 k (by omega)
          simp (maxSteps := 4000000) (disch := omega) only [mi, rr, mz, rz, u1, v1, Option.bind_some, rf_0, zkr_t, zkl_t, zkx_t, if_true, if_pos, if_neg, ix_o, up_s, i4, v2, ix_n, eb, ev]
          first | exact ⟨_, _, _, _, _, _, _, _, _, _, _, _, _, _, rfl⟩ | (rw [if_pos trivial]; exact ⟨_, _, _, _, _, _, _, _, _, _, _, _, _, _, rfl⟩)
    · rw [if_neg hz] at mz
      have rz := rr_out (F := F) (x := z) (lo := 0) (hi := (m : Int)) (by decide) (by omega) hx2 hz
      simp (maxSteps := 4000000) (disch := omega) only [mi, rr, mz, rz, Option.bind_some, rf_1, zkr_t, zkl_t, zkx_t, if_true, if_pos, if_neg]
      first | exact ⟨_, _, _, _, _, _, _, _, _, _, _, _, _, _, rfl⟩ | (rw [if_pos trivial]; exact ⟨_, _, _, _, _, _, _, _, _, _, _, _, _, _, rfl⟩)
  · rw [if_neg hy] at mi
    have rr := rr_out (F := F) (x := y) (lo := 1) (hi := 4) (by decide) (by decide) hx1 hy
    simp (maxSteps := 4000000) (disch := omega) only [mi, rr, Option.bind_some, rf_1, zkr_t, zkl_t, zkx_t, if_true, if_pos, if_neg]
    first | exact ⟨_, _, _, _, _, _, _, _, _, _, _, _, _, _, rfl⟩ | (rw [if_pos trivial]; exact ⟨_, _, _, _, _, _, _, _, _, _, _, _, _, _, rfl⟩)
end CASES
