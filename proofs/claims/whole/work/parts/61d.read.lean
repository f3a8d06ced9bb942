/-! HOW THE REFERENCE reads a text -/
theorem pc_cg {L : Nat} {s s' : Nat → Int} (h : ∀ j, sg_of L s j = sg_of L s' j) : ∀ (m at0 : Nat), pc L s m at0 = pc L s' m at0
  | 0, at0 => by rw [pc, pc, h]
  | m + 1, at0 => by rw [pc, pc, h, h, pc_cg h m]
theorem ps_cg {L : Nat} {s s' : Nat → Int} (h : ∀ j, sg_of L s j = sg_of L s' j) : ∀ (m at0 : Nat), ps L s m at0 = ps L s' m at0
  | 0, at0 => rfl
  | m + 1, at0 => by
    rw [ps, ps, pc_cg h]
    cases pc L s' 6 at0 with
    | inl e => rfl
    | inr r => dsimp only; rw [ps_cg h m]
theorem tx_cg {L : Nat} {s s' : Nat → Int} (h : ∀ j, sg_of L s j = sg_of L s' j) : tx_err L s = tx_err L s' := by
  unfold tx_err
  rw [h, h, h, h, ps_cg h]
theorem m_letter {F L : Nat} {s : Nat → Int} (T : tx_ok L s) {j : Nat} (hj : j ≤ L) {c : Int} (hc : 0 ≤ c ∧ c ≤ 255) : sh_X9_readLetter F (L : Int) (j : Int) s c = some (if sg_of L s j = c then (1, ((j + 1 : Nat) : Int)) else (0, (j : Int))) := by
  have hL := T.1
  unfold sh_X9_readLetter sg_of
  rw [zkr_t (by omega) (by omega), zkr_t (by omega) (by omega)]
  by_cases h : j < L
  · have h2 := T.2 j h
    rw [if_pos (by omega), if_pos h, zkx_t (by omega) (by omega), ix_n, zkr_t (by omega) (by omega), zkr_t (by omega) (by omega)]
    by_cases e : s j = c
    · rw [if_pos e, if_pos e, if_neg (by decide)]; rfl
    · rw [if_neg e, if_neg e, if_pos rfl, Int.add_zero]
  · rw [if_neg (by omega), if_neg h, if_pos rfl, if_neg (by omega), Int.add_zero]
theorem m_dig {F L : Nat} {s : Nat → Int} (T : tx_ok L s) {j : Nat} (hj : j ≤ L) {lo hi : Int} (hl : 0 ≤ lo ∧ lo ≤ 9) (hh : 0 ≤ hi ∧ hi ≤ 9) : sh_X9_digit F (L : Int) (j : Int) s lo hi = some (if lo ≤ sg_of L s j - 48 ∧ sg_of L s j - 48 ≤ hi then (sg_of L s j - 48, ((j + 1 : Nat) : Int)) else (-9, (j : Int))) := by
  have hL := T.1
  unfold sh_X9_digit sg_of
  rw [zkr_t (by omega) (by omega), zkr_t (by omega) (by omega)]
  by_cases h : j < L
  · have h2 := T.2 j h
    rw [if_pos (by omega), if_pos h, zkx_t (by omega) (by omega), ix_n, zkr_t (by omega) (by omega), zkr_t (by omega) (by omega), zkr_t (by omega) (by omega), m_in F _ _ _ (by omega) (by omega) (by omega), Option.bind_some]
    by_cases e : lo ≤ s j - 48 ∧ s j - 48 ≤ hi
    · rw [if_pos e, if_pos e, zkr_t (by omega) (by omega), if_neg (by decide)]; rfl
    · rw [if_neg e, if_neg e, zkr_t (by omega) (by omega), if_pos rfl]
  · rw [if_neg (by omega), if_neg h, zkr_t (by omega) (by omega), zkr_t (by omega) (by omega), m_in F _ _ _ (by omega) (by omega) (by omega), Option.bind_some, if_neg (by omega), zkr_t (by omega) (by omega), if_pos rfl, if_neg (by omega)]
theorem ml_snoc (f : Nat → Int) : ∀ (n o : Nat), ml_of f o (n + 1) = ml_of f o n ++ [(f (o + 2 * n), f (o + 2 * n + 1))]
  | 0, o => by rw [ml_of, ml_of, ml_of]; rfl
  | n + 1, o => by
    have h := ml_snoc f n (o + 2)
    rw [ml_of, h, ml_of, List.cons_append, show o + 2 + 2 * n = o + 2 * (n + 1) by omega]
theorem m_rcol_L {F L p : Nat} {s : Nat → Int} (T : tx_ok L s) (hp : p < 16) : ∀ (m N at0 i : Nat) (f : Nat → Int), i + m = 6 → m < N → at0 ≤ L → f (15 * p + 2) = (i : Int) → ∃ f', (match pc L s m at0 with
    | .inl e => sh_X9_readColumn_L0 F (p : Int) (L : Int) s (fun v13 (v14 : Nat → Int) => some (0, v13, v14)) N (at0 : Int) f = some (0, (e : Int), f')
    | .inr r => sh_X9_readColumn_L0 F (p : Int) (L : Int) s (fun v13 (v14 : Nat → Int) => some (0, v13, v14)) N (at0 : Int) f = some (1, (r.1 : Int), f') ∧ f' (15 * p + 2) = ((i + r.2.length : Nat) : Int) ∧ ml_of f' (15 * p + 3) (i + r.2.length) = ml_of f (15 * p + 3) i ++ r.2 ∧ ∀ c, (c < 15 * p + 2 ∨ 15 * p + 15 ≤ c) → f' c = f c) := by
  have hL := T.1
  intro m
  induction m with
  | zero =>
    intro N at0 i f hi hN ha hf
    obtain ⟨N, rfl⟩ : ∃ M, N = M + 1 := ⟨N - 1, by omega⟩
    have i2 : (((15 : Int) * (p : Int)) + (2 : Int)).toNat = 15 * p + 2 := by omega
    refine ⟨f, ?_⟩
    rw [pc]
    by_cases c : sg_of L s at0 = 59
    · rw [if_pos c]
      refine ⟨?_, hf, by rw [List.append_nil]; rfl, fun _ _ => rfl⟩
      rw [sh_X9_readColumn_L0, m_letter T ha (by decide), if_pos c, Option.bind_some]
      dsimp only
      rw [zkr_t (by omega) (by omega), if_neg (by decide)]
    · rw [if_neg c]
      dsimp only
      rw [sh_X9_readColumn_L0, m_letter T ha (by decide), if_neg c, Option.bind_some, zkr_t (by omega) (by omega), if_pos rfl, zkx_t (by omega) (by omega), i2, hf, zkr_t (by omega) (by omega), if_pos (by omega)]
  | succ m ih =>
    intro N at0 i f hi hN ha hf
    obtain ⟨N, rfl⟩ : ∃ M, N = M + 1 := ⟨N - 1, by omega⟩
    have i2 : (((15 : Int) * (p : Int)) + (2 : Int)).toNat = 15 * p + 2 := by omega
    have i3 : ((((15 : Int) * (p : Int)) + (3 : Int)) + ((2 : Int) * (i : Int))).toNat = 15 * p + 3 + 2 * i := by omega
    have i4 : (((((15 : Int) * (p : Int)) + (3 : Int)) + ((2 : Int) * (i : Int))) + (1 : Int)).toNat = 15 * p + 3 + 2 * i + 1 := by omega
    rw [pc]
    by_cases c : sg_of L s at0 = 59
    · rw [if_pos c]
      refine ⟨f, ?_, hf, by rw [List.append_nil]; rfl, fun _ _ => rfl⟩
      rw [sh_X9_readColumn_L0, m_letter T ha (by decide), if_pos c, Option.bind_some]
      dsimp only
      rw [zkr_t (by omega) (by omega), if_neg (by decide)]
    · rw [if_neg c]
      have e0 : ∀ N', sh_X9_readColumn_L0 F (p : Int) (L : Int) s (fun v13 (v14 : Nat → Int) => some (0, v13, v14)) (N' + 1) (at0 : Int) f = (sh_X9_readSlice F (L : Int) (at0 : Int) s f (p : Int)).bind (fun (q10 : Int × Int × (Nat → Int)) => zkr q10.1 (if q10.1 = (0 : Int) then some (0, q10.2.1, q10.2.2) else sh_X9_readColumn_L0 F (p : Int) (L : Int) s (fun v13 (v14 : Nat → Int) => some (0, v13, v14)) N' q10.2.1 q10.2.2)) := by
        intro N'
        rw [sh_X9_readColumn_L0, m_letter T ha (by decide), if_neg c, Option.bind_some, zkr_t (by omega) (by omega), if_pos rfl, zkx_t (by omega) (by omega), i2, hf, zkr_t (by omega) (by omega), if_neg (by omega)]
      have m1 := m_dig (F := F) T ha (lo := 1) (hi := 9) (by decide) (by decide)
      by_cases d1 : 1 ≤ sg_of L s at0 - 48 ∧ sg_of L s at0 - 48 ≤ 9
      · have l1 := sg_in (L := L) (s := s) (j := at0) (by omega)
        have m2 := m_dig (F := F) T (j := at0 + 1) (by omega) (lo := 0) (hi := 9) (by decide) (by decide)
        rw [if_pos d1] at m1 ⊢
        by_cases d2 : 0 ≤ sg_of L s (at0 + 1) - 48 ∧ sg_of L s (at0 + 1) - 48 ≤ 9
        · have l2 := sg_in (L := L) (s := s) (j := at0 + 1) (by omega)
          rw [if_pos d2] at m2 ⊢
          have er : sh_X9_readSlice F (L : Int) (at0 : Int) s f (p : Int) = some (1, ((at0 + 2 : Nat) : Int), va_up (va_up (va_up f (15 * p + 3 + 2 * i) (sg_of L s at0 - 48)) (15 * p + 3 + 2 * i + 1) (sg_of L s (at0 + 1) - 48)) (15 * p + 2) ((i + 1 : Nat) : Int)) := by
            unfold sh_X9_readSlice
            rw [m1, Option.bind_some]
            dsimp only
            rw [zkr_t (by omega) (by omega), if_neg (by omega), m2, Option.bind_some]
            dsimp only
            rw [zkr_t (by omega) (by omega), if_neg (by omega), i2, hf, zkx_t (by omega) (by omega), zkx_t (by omega) (by omega), zkx_t (by omega) (by omega), i3, i4, up_n _ _ _ (show 15 * p + 2 ≠ 15 * p + 3 + 2 * i + 1 by omega), up_n _ _ _ (show 15 * p + 2 ≠ 15 * p + 3 + 2 * i by omega), hf]
            rfl
          obtain ⟨f', x⟩ := ih N (at0 + 2) (i + 1) _ (by omega) (by omega) (by omega) (up_s (va_up (va_up f (15 * p + 3 + 2 * i) (sg_of L s at0 - 48)) (15 * p + 3 + 2 * i + 1) (sg_of L s (at0 + 1) - 48)) (15 * p + 2) ((i + 1 : Nat) : Int))
          refine ⟨f', ?_⟩
          cases hq : pc L s m (at0 + 2) with
          | inl e =>
            rw [hq] at x
            dsimp only at x ⊢
            rw [e0 N, er, Option.bind_some]
            dsimp only
            rw [zkr_t (by omega) (by omega), if_neg (by decide)]
            exact x
          | inr r =>
            rw [hq] at x
            dsimp only at x ⊢
            obtain ⟨x1, x2, x3, x4⟩ := x
            refine ⟨?_, ?_, ?_, fun cc hc => ?_⟩
            · rw [e0 N, er, Option.bind_some]
              dsimp only
              rw [zkr_t (by omega) (by omega), if_neg (by decide)]
              exact x1
            · rw [x2, List.length_cons, show i + 1 + r.2.length = i + (r.2.length + 1) by omega]
            · rw [List.length_cons, show i + (r.2.length + 1) = i + 1 + r.2.length by omega, x3, ml_snoc, up_n _ _ _ (show 15 * p + 3 + 2 * i ≠ 15 * p + 2 by omega), up_n _ _ _ (show 15 * p + 3 + 2 * i ≠ 15 * p + 3 + 2 * i + 1 by omega), up_s, up_n _ _ _ (show 15 * p + 3 + 2 * i + 1 ≠ 15 * p + 2 by omega), up_s, List.append_assoc]
              have ec : ml_of (va_up (va_up (va_up f (15 * p + 3 + 2 * i) (sg_of L s at0 - 48)) (15 * p + 3 + 2 * i + 1) (sg_of L s (at0 + 1) - 48)) (15 * p + 2) ((i + 1 : Nat) : Int)) (15 * p + 3) i = ml_of f (15 * p + 3) i := ml_congr i _ _ (fun j hj => by
                rw [up_n _ _ _ (by omega), up_n _ _ _ (by omega), up_n _ _ _ (by omega)])
              rw [ec]
              rfl
            · rw [x4 cc hc, up_n _ _ _ (by omega), up_n _ _ _ (by omega), up_n _ _ _ (by omega)]
        · rw [if_neg d2] at m2 ⊢
          refine ⟨f, ?_⟩
          dsimp only
          rw [e0 N]
          unfold sh_X9_readSlice
          rw [m1, Option.bind_some]
          dsimp only
          rw [zkr_t (by omega) (by omega), if_neg (by omega), m2]
          rfl
      · rw [if_neg d1] at m1 ⊢
        refine ⟨f, ?_⟩
        dsimp only
        rw [e0 N]
        unfold sh_X9_readSlice
        rw [m1]
        rfl
theorem m_rcols_L {F L n : Nat} {s : Nat → Int} (hF : 5000 ≤ F) (T : tx_ok L s) (hn : n ≤ 16) (q13 q16 : Int × Int) (hq : q13.1 * q16.1 = (n : Int)) : ∀ (m N p at0 : Nat) (f : Nat → Int), p + m = n → m < N → at0 ≤ L → (∀ q, p ≤ q → q < n → f (15 * q + 2) = 0) → ∃ sp f', sh_X9_readText_L124 F (L : Int) s q13 q16 (fun _ v35 (v36 : Nat → Int) => zkr v35 (zkr (L : Int) (if v35 = (L : Int) then some (-9, v35, q13.1, q16.1, v36) else some (v35, v35, q13.1, q16.1, v36)))) N (p : Int) (at0 : Int) f = some (tx_end L (ps L s m at0), sp, q13.1, q16.1, f') ∧ ∀ r, ps L s m at0 = .inr r → (∀ j l, r.2[j]? = some l → f' (15 * (p + j) + 2) = ((List.length l : Nat) : Int) ∧ ml_of f' (15 * (p + j) + 3) (List.length l) = l) ∧ ∀ c, (c < 15 * p ∨ c % 15 < 2 ∨ 240 ≤ c) → f' c = f c := by
  have hL := T.1
  intro m
  induction m with
  | zero =>
    intro N p at0 f hp hN ha h0
    obtain ⟨N, rfl⟩ : ∃ M, N = M + 1 := ⟨N - 1, by omega⟩
    refine ⟨(at0 : Int), f, ?_, fun r hr => ?_⟩
    · rw [sh_X9_readText_L124, hq, zkr_t (by omega) (by omega), zkr_t (by omega) (by omega), if_neg (by omega), zkr_t (by omega) (by omega), zkr_t (by omega) (by omega), ps]
      unfold tx_end
      dsimp only
      by_cases c : at0 < L
      · rw [if_neg (by omega), if_pos c]
      · rw [if_pos (by omega), if_neg c]
    · rw [ps] at hr
      injection hr with hr
      subst hr
      exact ⟨fun j l hj => (by cases hj), fun _ _ => rfl⟩
  | succ m ih =>
    intro N p at0 f hp hN ha h0
    obtain ⟨N, rfl⟩ : ∃ M, N = M + 1 := ⟨N - 1, by omega⟩
    have h1 := pc_le (L := L) (s := s) 6 at0 ha
    obtain ⟨f1, y⟩ := m_rcol_L (F := F) T (p := p) (by omega) 6 F at0 0 f (by omega) (by omega) ha (h0 p (by omega) (by omega))
    rw [ps]
    cases hc : pc L s 6 at0 with
    | inl e =>
      rw [hc] at y
      have ec : sh_X9_readColumn F (L : Int) (at0 : Int) s f (p : Int) = some (0, (e : Int), f1) := y
      refine ⟨(e : Int), f1, ?_, fun r hr => by cases hr⟩
      rw [sh_X9_readText_L124, hq, zkr_t (by omega) (by omega), zkr_t (by omega) (by omega), if_pos (by omega), ec]
      rfl
    | inr r1 =>
      rw [hc] at y
      obtain ⟨y1, y2, y3, y4⟩ := y
      have h2 := h1.2 r1 hc
      have ec : sh_X9_readColumn F (L : Int) (at0 : Int) s f (p : Int) = some (1, (r1.1 : Int), f1) := y1
      rw [Nat.zero_add] at y2 y3
      obtain ⟨sp, f', x1, x2⟩ := ih N (p + 1) r1.1 f1 (by omega) (by omega) h2.1 (fun q a b => by rw [y4 _ (by omega)]; exact h0 q (by omega) b)
      dsimp only
      refine ⟨sp, f', ?_, fun r hr => ?_⟩
      · rw [sh_X9_readText_L124, hq, zkr_t (by omega) (by omega), zkr_t (by omega) (by omega), if_pos (by omega), ec, Option.bind_some]
        refine Eq.trans x1 ?_
        cases ps L s m r1.1 <;> rfl
      · cases hd : ps L s m r1.1 with
        | inl e => rw [hd] at hr; cases hr
        | inr r2 =>
          rw [hd] at hr
          injection hr with hr
          subst hr
          obtain ⟨z1, z2⟩ := x2 r2 hd
          refine ⟨fun j l hj => ?_, fun c hcc => by rw [z2 c (by omega), y4 c (by omega)]⟩
          cases j with
          | zero =>
            injection hj with hj
            subst hj
            show f' (15 * p + 2) = _ ∧ ml_of f' (15 * p + 3) _ = _
            refine ⟨by rw [z2 _ (by omega), y2], ?_⟩
            refine Eq.trans (ml_congr _ _ _ (fun i hi => ?_)) y3
            exact z2 _ (by have := h2.2.1; omega)
          | succ j =>
            have := z1 j l hj
            rw [show p + 1 + j = p + (j + 1) by omega] at this
            exact this
