/-! THE BEST SEQUENCE: all of them, in order, the first of the best stays -/
abbrev zBst : Type := Int × (Nat → Int)
def fo (f : Nat → zBst → zBst) : Nat → Nat → zBst → zBst
  | 0, _, B => B
  | c + 1, p, B => fo f c (p + 1) (f p B)
def bs (n w : Nat) : Nat → Nat → Int → (Nat → Int) → zAb → zBst → zBst
  | 0, _, s, tr, _, B => if B.1 < s then (s, tr) else B
  | m + 1, d, s, tr, a, B => fo (fun p B => if 0 < ab_slack n w a p then bs n w m (d + 1) (s + ab_grade (ab_col a p) 0) (va_up tr d (p : Int)) (ab_take a p) B else B) n 0 B
def bs_f (n w m d : Nat) (s : Int) (tr : Nat → Int) (a : zAb) (p : Nat) (B : zBst) : zBst := if 0 < ab_slack n w a p then bs n w m (d + 1) (s + ab_grade (ab_col a p) 0) (va_up tr d (p : Int)) (ab_take a p) B else B
theorem bs_s (n w m d : Nat) (s : Int) (tr : Nat → Int) (a : zAb) (B : zBst) : bs n w (m + 1) d s tr a B = fo (bs_f n w m d s tr a) n 0 B := rfl
def bs_ok (B : zBst) : Prop := -9 ≤ B.1 ∧ B.1 ≤ 100
theorem fo_ok {f : Nat → zBst → zBst} {n : Nat} (hf : ∀ p B, p < n → bs_ok B → bs_ok (f p B)) : ∀ (c p : Nat) (B : zBst), p + c ≤ n → bs_ok B → bs_ok (fo f c p B)
  | 0, _, _, _, h => h
  | c + 1, p, B, hp, h => fo_ok hf c (p + 1) _ (by omega) (hf p B (by omega) h)
theorem bs_rng {n w : Nat} : ∀ (m d : Nat) (s b : Int) (tr : Nat → Int) (a : zAb) (B : zBst), ab_wf n w b a → 0 ≤ s → s + 9 * m ≤ 100 → bs_ok B → bs_ok (bs n w m d s tr a B)
  | 0, d, s, b, tr, a, B, W, h0, hs, hB => by
    rw [bs]
    split
    · exact ⟨by show (-9 : Int) ≤ s; omega, by show s ≤ (100 : Int); omega⟩
    · exact hB
  | m + 1, d, s, b, tr, a, B, W, h0, hs, hB => by
    rw [bs_s]
    refine fo_ok (n := n) (fun p B hp hB => ?_) n 0 B (by omega) hB
    unfold bs_f
    split
    · rename_i hsl
      have hg := ab_grade0 (W.1 p hp).1 (ab_slack_pos W hp hsl).2.1
      exact bs_rng m (d + 1) _ (b + 1) _ _ B (ab_take_wf W hp hsl) (by omega) (by omega) hB
    · exact hB
def zMB (n : Nat) (g : Nat → Int) (B : zBst) : Prop := g 4 = B.1 ∧ (B.1 ≠ -9 → ∀ j, j < n → g j = B.2 j)