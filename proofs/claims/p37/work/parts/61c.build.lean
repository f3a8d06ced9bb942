/-! THE CAVE that a text describes, in the class -/
theorem cl_snoc (b g : Nat → Int) : ∀ (n o : Nat), cl_of b g o (n + 1) = cl_of b g o n ++ [(b (o + n), g (o + n))]
  | 0, o => by rw [cl_of, cl_of, cl_of]; rfl
  | n + 1, o => by
    have h := cl_snoc b g n (o + 1)
    rw [cl_of, h, cl_of, List.cons_append, show o + 1 + n = o + (n + 1) by omega]
theorem c_pile {F p i : Nat} {bk gr ht : Nat → Int} {x y : Int} (hp : p < 16) (hi : i < 6) (hh : ht p = (i : Int)) : sh_X0_pile F bk gr ht (p : Int) x y = some (va_up bk (6 * p + i) x, va_up gr (6 * p + i) y, va_up ht p ((i + 1 : Nat) : Int)) := by
  unfold sh_X0_pile
  have e : (((p : Int) * (6 : Int)) + (i : Int)).toNat = 6 * p + i := by omega
  rw [zkx_t (by omega) (by omega), ix_n, hh, zkr_t (by omega) (by omega), if_pos (by omega), zkx_t (by omega) (by omega), e]
  rfl
theorem c_bcol_L {F L p : Nat} {s : Nat → Int} (T : tx_ok L s) (hp : p < 16) : ∀ (m N at0 i : Nat) (bk gr ht : Nat → Int) (r : Nat × zSl), i + m = 6 → m < N → at0 ≤ L → pc L s m at0 = .inr r → ht p = (i : Int) → ∃ bk' gr' ht', sh_X1_buildColumn_L6 F (p : Int) (L : Int) s (fun v23 _ (v25 : Nat → Int) (v26 : Nat → Int) (v27 : Nat → Int) => some (v23 + (1 : Int), v25, v26, v27)) N (at0 : Int) (i : Int) bk gr ht = some ((r.1 : Int), bk', gr', ht') ∧ ht' p = ((i + r.2.length : Nat) : Int) ∧ cl_of bk' gr' (6 * p) (i + r.2.length) = cl_of bk gr (6 * p) i ++ r.2 ∧ (∀ q, q ≠ p → ht' q = ht q) ∧ ∀ c, (c < 6 * p + i ∨ 6 * p + 6 ≤ c) → bk' c = bk c ∧ gr' c = gr c := by
  have hL := T.1
  intro m
  induction m with
  | zero =>
    intro N at0 i bk gr ht r hi hN ha hpc hh
    obtain ⟨N, rfl⟩ : ∃ M, N = M + 1 := ⟨N - 1, by omega⟩
    rw [pc] at hpc
    split at hpc
    · injection hpc with hpc
      subst hpc
      refine ⟨bk, gr, ht, ?_, hh, by rw [List.append_nil]; rfl, fun _ _ => rfl, fun _ _ => ⟨rfl, rfl⟩⟩
      rw [sh_X1_buildColumn_L6, zkr_t (by omega) (by omega), if_neg (by omega)]
      rfl
    · cases hpc
  | succ m ih =>
    intro N at0 i bk gr ht r hi hN ha hpc hh
    obtain ⟨N, rfl⟩ : ∃ M, N = M + 1 := ⟨N - 1, by omega⟩
    have h := sg_rng T at0
    rw [pc] at hpc
    by_cases c : sg_of L s at0 = 59
    · rw [if_pos c] at hpc
      injection hpc with hpc
      subst hpc
      refine ⟨bk, gr, ht, ?_, hh, by rw [List.append_nil]; rfl, fun _ _ => rfl, fun _ _ => ⟨rfl, rfl⟩⟩
      rw [sh_X1_buildColumn_L6, zkr_t (by omega) (by omega), if_pos (by omega), c_sign T (by omega), Option.bind_some, zkr_t (by omega) (by omega), if_pos c]
      rfl
    · rw [if_neg c] at hpc
      split at hpc
      · rename_i d1
        split at hpc
        · rename_i d2
          have l2 := sg_in (L := L) (s := s) (j := at0 + 1) (by omega)
          have e2 : sh_X1_digit F (L : Int) s ((at0 : Int) + (1 : Int)) = _ := c_digit (F := F) T (j := at0 + 1) (by omega)
          cases hq : pc L s m (at0 + 2) with
          | inl e => rw [hq] at hpc; cases hpc
          | inr r1 =>
            rw [hq] at hpc
            injection hpc with hpc
            subst hpc
            obtain ⟨bk', gr', ht', x1, x2, x3, x4, x5⟩ := ih N (at0 + 2) (i + 1) (va_up bk (6 * p + i) (sg_of L s at0 - 48)) (va_up gr (6 * p + i) (sg_of L s (at0 + 1) - 48)) (va_up ht p ((i + 1 : Nat) : Int)) r1 (by omega) (by omega) (by omega) hq (up_s _ _ _)
            refine ⟨bk', gr', ht', ?_, ?_, ?_, fun q hq => by rw [x4 q hq, up_n _ _ _ hq], fun cc hc => ?_⟩
            · rw [sh_X1_buildColumn_L6, zkr_t (by omega) (by omega), if_pos (by omega), c_sign T (by omega), Option.bind_some, zkr_t (by omega) (by omega), if_neg c, c_digit T (by omega), Option.bind_some, e2, Option.bind_some, c_pile hp (by omega) hh, Option.bind_some]
              exact x1
            · rw [x2, List.length_cons, show i + 1 + r1.2.length = i + (r1.2.length + 1) by omega]
            · rw [List.length_cons, show i + (r1.2.length + 1) = i + 1 + r1.2.length by omega, x3, cl_snoc, up_s, up_s, List.append_assoc]
              have ec : cl_of (va_up bk (6 * p + i) (sg_of L s at0 - 48)) (va_up gr (6 * p + i) (sg_of L s (at0 + 1) - 48)) (6 * p) i = cl_of bk gr (6 * p) i := cl_congr i _ _ (fun j hj => by
                rw [up_n _ _ _ (by omega), up_n _ _ _ (by omega)]
                exact ⟨rfl, rfl⟩)
              rw [ec]
              rfl
            · rw [(x5 cc (by omega)).1, (x5 cc (by omega)).2, up_n _ _ _ (by omega), up_n _ _ _ (by omega)]
              exact ⟨rfl, rfl⟩
        · cases hpc
      · cases hpc
theorem c_bcols_L {F L n : Nat} {s : Nat → Int} {β : Type} (hF : 5000 ≤ F) (T : tx_ok L s) (hn : n ≤ 16) (q5 : Int × (Nat → Int) × (Nat → Int) × (Nat → Int) × (Nat → Int)) (hq : q5.1 = (n : Int)) (k : (Nat → Int) → (Nat → Int) → (Nat → Int) → Option (Int × (Nat → Int) × (Nat → Int) × (Nat → Int) × (Nat → Int) × Int × Int × Int × Int × (Nat → Int) × (Nat → Int) × (Nat → Int) × (Nat → Int))) : ∀ (m N p at0 : Nat) (bk gr ht : Nat → Int) (r : Nat × List zSl), p + m = n → m < N → at0 ≤ L → ps L s m at0 = .inr r → (∀ q, p ≤ q → q < n → ht q = 0) → ∃ bk' gr' ht', sh_X1_build_L28 F (L : Int) s q5 (fun _ _ (v31 : Nat → Int) (v32 : Nat → Int) (v33 : Nat → Int) => k v31 v32 v33) N (at0 : Int) (p : Int) bk gr ht = k bk' gr' ht' ∧ (∀ j l, r.2[j]? = some l → ht' (p + j) = ((List.length l : Nat) : Int) ∧ cl_of bk' gr' (6 * (p + j)) (List.length l) = l) ∧ (∀ q, q < p → ht' q = ht q) ∧ ∀ c, c < 6 * p → bk' c = bk c ∧ gr' c = gr c := by
  intro m
  induction m with
  | zero =>
    intro N p at0 bk gr ht r hp hN ha hps h0
    obtain ⟨N, rfl⟩ : ∃ M, N = M + 1 := ⟨N - 1, by omega⟩
    rw [ps] at hps
    injection hps with hps
    subst hps
    refine ⟨bk, gr, ht, ?_, fun j l hj => (by cases hj), fun _ _ => rfl, fun _ _ => ⟨rfl, rfl⟩⟩
    rw [sh_X1_build_L28, sh_X2_size, Option.bind_some, hq, zkr_t (by omega) (by omega), zkr_t (by omega) (by omega), if_neg (by omega)]
  | succ m ih =>
    intro N p at0 bk gr ht r hp hN ha hps h0
    obtain ⟨N, rfl⟩ : ∃ M, N = M + 1 := ⟨N - 1, by omega⟩
    rw [ps] at hps
    have h1 := pc_le (L := L) (s := s) 6 at0 ha
    cases hc : pc L s 6 at0 with
    | inl e => rw [hc] at hps; cases hps
    | inr r1 =>
      rw [hc] at hps
      dsimp only at hps
      have h2 := h1.2 r1 hc
      cases hd : ps L s m r1.1 with
      | inl e => rw [hd] at hps; cases hps
      | inr r2 =>
        rw [hd] at hps
        injection hps with hps
        subst hps
        obtain ⟨bk1, gr1, ht1, y1, y2, y3, y4, y5⟩ := c_bcol_L (F := F) T (p := p) (by omega) 6 F at0 0 bk gr ht r1 (by omega) (by omega) ha hc (h0 p (by omega) (by omega))
        have eb : sh_X1_buildColumn F (L : Int) s bk gr ht (p : Int) (at0 : Int) = _ := y1
        obtain ⟨bk', gr', ht', x1, x2, x3, x4⟩ := ih N (p + 1) r1.1 bk1 gr1 ht1 r2 (by omega) (by omega) h2.1 hd (fun q a b => by rw [y4 q (by omega)]; exact h0 q (by omega) b)
        rw [Nat.zero_add] at y2 y3
        refine ⟨bk', gr', ht', ?_, fun j l hj => ?_, fun q a => by rw [x3 q (by omega), y4 q (by omega)], fun c a => by rw [(x4 c (by omega)).1, (x4 c (by omega)).2]; exact y5 c (by omega)⟩
        · rw [← x1, sh_X1_build_L28, sh_X2_size, Option.bind_some, hq, zkr_t (by omega) (by omega), zkr_t (by omega) (by omega), if_pos (by omega), eb, Option.bind_some]
          rfl
        · cases j with
          | zero =>
            injection hj with hj
            subst hj
            rw [Nat.add_zero]
            refine ⟨by rw [x3 p (by omega), y2], ?_⟩
            refine Eq.trans (cl_congr _ _ _ (fun i hi => ?_)) y3
            exact x4 _ (by have := h2.2.1; omega)
          | succ j =>
            have := x2 j l hj
            rw [show p + 1 + j = p + (j + 1) by omega] at this
            exact this
def ab_new (ls : List zSl) (b : Int) : zAb := (fun p => ls[p]?.getD [], fun _ => 0, fun _ => false, b, 0, 0)
theorem ab_new_wf {ls : List zSl} {b c : Int} {n w : Nat} (hl : ∀ l ∈ ls, ab_ok l) (hb : 1 ≤ b ∧ b ≤ 9) (hc : 0 ≤ c) : ab_wf n w c (ab_new ls b) := by
  refine ⟨fun p hp => ⟨?_, Int.le_refl _, hc⟩, fun p q _ _ _ => ?_, hb, ⟨Int.le_refl _, hc⟩, ⟨Int.le_refl _, by show (0 : Int) ≤ 9 * c; omega⟩⟩
  · show ab_ok (ls[p]?.getD [])
    cases h : ls[p]? with
    | none => exact ⟨Nat.zero_le _, fun x hx => by cases hx⟩
    | some l => exact hl l (List.mem_of_getElem? h)
  · show (0 : Int) - 0 ≤ b
    omega
theorem c_build {F L h w : Nat} {s : Nat → Int} {b : Int} (hF : 5000 ≤ F) (T : tx_ok L s) (hh : 1 ≤ h ∧ h ≤ 4) (hw : 1 ≤ w ∧ w ≤ 4) (hb : 1 ≤ b ∧ b ≤ 9) (s1 : sg_of L s 1 - 48 = (h : Int)) (s2 : sg_of L s 2 - 48 = (w : Int)) (s3 : sg_of L s 3 - 48 = b) {r : Nat × List zSl} (hps : ps L s (h * w) 4 = .inr r) (ro co ne nc bk gr ht dr : Nat → Int) : ∃ ro' co' ne' nc' bk' gr' ht' dr', sh_X1_build F (L : Int) s ro co ne nc bk gr ht dr = some (((h * w : Nat) : Int), ro', co', ne', nc', b, 0, 0, 0, bk', gr', ht', dr') ∧ gz_ok h w ((h * w : Nat) : Int) ro' co' ne' nc' ∧ Rc (h * w) bk' gr' ht' dr' b 0 0 0 (ab_new r.2 b) := by
  have hn := gz_n16 hh.2 hw.2
  have l3 := sg_in (L := L) (s := s) (j := 3) (by omega)
  obtain ⟨ro', co', ne', nc', g1, g2⟩ := c_shape (F := F) hF hh hw ro co ne nc
  obtain ⟨ht1, f1, f2⟩ := c_fill (F := F) (n := 16) (v := 0) hF (by omega) ht
  obtain ⟨dr1, k1, k2⟩ := c_fill (F := F) (n := 16) (v := 0) hF (by omega) dr
  have d1 : sh_X1_digit F (L : Int) s (1 : Int) = some (h : Int) := by rw [← s1]; exact c_digit T (j := 1) (by omega)
  have d2 : sh_X1_digit F (L : Int) s (2 : Int) = some (w : Int) := by rw [← s2]; exact c_digit T (j := 2) (by omega)
  have d3 : sh_X1_digit F (L : Int) s (3 : Int) = some b := by rw [← s3]; exact c_digit T (j := 3) (by omega)
  obtain ⟨bk', gr', ht', x1, x2, x3, x4⟩ := c_bcols_L (F := F) (β := Int) hF T hn (((h * w : Nat) : Int), ro', co', ne', nc') rfl (fun v31 v32 v33 => some (((h * w : Nat) : Int), ro', co', ne', nc', b, 0, 0, 0, v31, v32, v33, dr1)) (h * w) F 0 4 bk gr ht1 r (by omega) (by omega) (by omega) hps (fun q _ hq => f2 q (by omega))
  have hlen := ((ps_le (L := L) (s := s) (h * w) 4 (by omega)).2 r hps).2
  refine ⟨ro', co', ne', nc', bk', gr', ht', dr1, ?_, g2, fun p hp => ?_, ⟨Int.le_refl _, Nat.pow_pos (by decide)⟩, rfl, rfl, rfl⟩
  · unfold sh_X1_build sh_X0_clear
    rw [d1, Option.bind_some, d2, Option.bind_some, g1, Option.bind_some, d3, Option.bind_some, f1, Option.bind_some, k1, Option.bind_some, Option.bind_some]
    exact x1
  · have hj : r.2[p]? = some r.2[p] := List.getElem?_eq_getElem (by omega)
    have hx := x2 p _ hj
    rw [Nat.zero_add] at hx
    have hok := hlen.2 r.2[p] (List.getElem_mem _)
    have hok1 := hok.1
    refine ⟨by omega, ?_, k2 p (by omega), Nat.zero_testBit p⟩
    rw [hx.1, Int.toNat_natCast, hx.2]
    show _ = r.2[p]?.getD []
    rw [hj]
    rfl
