/-! THE REMEMBERED STATES and the save slots -/
theorem md_n (x k : Nat) : zmod (x : Int) (k : Int) = ((x % k : Nat) : Int) := by
  unfold zmod
  rw [Int.tmod_eq_emod_of_nonneg (by omega), Int.natCast_emod]
theorem dv_n (x k : Nat) : zdiv (x : Int) (k : Int) = ((x / k : Nat) : Int) := by
  unfold zdiv
  rw [Int.tdiv_eq_ediv_of_nonneg (by omega), Int.natCast_ediv]
abbrev Rp (n : Nat) (v : zCv) (a : zAb) : Prop := Rc n v.1 v.2.1 v.2.2.1 v.2.2.2.1 v.2.2.2.2.1 v.2.2.2.2.2.1 v.2.2.2.2.2.2.1 v.2.2.2.2.2.2.2 a
def zHR (n w : Nat) (b : Int) (P : Nat → zCv) (o c : Nat) (D : Nat → Int) (nx : Nat) : Prop := o < 14 ∧ c ≤ 14 ∧ nx < 14 ∧ ∃ H : Nat → zAb, ∀ i, i < c → Rp n (P ((o + i) % 14)) (H i) ∧ Rm n (243 * ((nx + 14 - c + i) % 14)) D (H i) ∧ ab_wf n w b (H i)
theorem zHR.mono {n w : Nat} {b b' : Int} {P : Nat → zCv} {o c nx : Nat} {D : Nat → Int} (h : zHR n w b P o c D nx) (hb : b ≤ b') : zHR n w b' P o c D nx := by
  obtain ⟨h1, h2, h3, H, hH⟩ := h
  exact ⟨h1, h2, h3, H, fun i hi => ⟨(hH i hi).1, (hH i hi).2.1, (hH i hi).2.2.mono hb⟩⟩
theorem zHR.zero {n w : Nat} {b : Int} {P : Nat → zCv} {D : Nat → Int} {nx : Nat} (h : nx < 14) : zHR n w b P 0 0 D nx := ⟨by omega, by omega, h, fun _ => default, fun i hi => absurd hi (Nat.not_lt_zero _)⟩
theorem up_s2 {α : Type} {f : Nat → α} {k : Nat} {v : α} : va_up f k v k = v := if_pos rfl
theorem up_n2 {α : Type} {f : Nat → α} {k : Nat} {v : α} {j : Nat} (h : j ≠ k) : va_up f k v j = f j := if_neg h
theorem m_note {F nx c : Nat} {f D : Nat → Int} (hF : 5000 ≤ F) (hnx : nx < 14) (hc : c ≤ 14) : sh_X9_note F (c : Int) (nx : Int) f D = some (((if c < 14 then c + 1 else 14 : Nat) : Int), (((nx + 1) % 14 : Nat) : Int), cp_of f D 0 (243 * nx)) := by
  have e : sh_X9_copy F f D 243 3402 (0 : Int) ((243 : Int) * (nx : Int)) = some (cp_of f D 0 (243 * nx)) := by
    have := m_copy (f := f) (g := D) (n0 := 243) (n2 := 3402) (o1 := 0) (o2 := 243 * nx) hF (by omega) (by omega)
    rw [Int.natCast_mul] at this
    exact this
  have e2 : zmod ((nx : Int) + (1 : Int)) (14 : Int) = (((nx + 1) % 14 : Nat) : Int) := md_n (nx + 1) 14
  unfold sh_X9_note
  rw [e, Option.bind_some, zkr_t (by omega) (by omega), zkr_t (by omega) (by omega), e2]
  by_cases h : c < 14
  · rw [if_pos (by omega), if_pos h]; rfl
  · rw [if_neg (by omega), if_neg h]; rfl
def zput (P : Nat → zCv) (i : Nat) (bk gr ht dr : Nat → Int) (lim hs bs gs : Int) : Nat → zCv := va_up P i (va_cpy bk (P i).1 0 0 96, va_cpy gr (P i).2.1 0 0 96, va_cpy ht (P i).2.2.1 0 0 16, va_cpy dr (P i).2.2.2.1 0 0 16, lim, hs, bs, gs)
theorem zput_s {P : Nat → zCv} {i n : Nat} {bk gr ht dr : Nat → Int} {lim hs bs gs : Int} {a : zAb} (R : Rc n bk gr ht dr lim hs bs gs a) (hn : n ≤ 16) : Rp n (zput P i bk gr ht dr lim hs bs gs i) a := by
  unfold zput
  rw [up_s2]
  exact R.become hn
theorem zput_n {P : Nat → zCv} {i j : Nat} {bk gr ht dr : Nat → Int} {lim hs bs gs : Int} (h : j ≠ i) : zput P i bk gr ht dr lim hs bs gs j = P j := up_n2 h
theorem hist_note {F n w nx o c : Nat} {b : Int} {P : Nat → zCv} {f D bk gr ht dr : Nat → Int} {lim hs bs gs : Int} {a : zAb} (hF : 5000 ≤ F) (hn : n ≤ 16) (H : zHR n w b P o c D nx) (R : Rc n bk gr ht dr lim hs bs gs a) (M : Rm n 0 f a) (W : ab_wf n w b a) : ∃ P' o' c' D' nx', sh_X4_remember F (o : Int) (c : Int) lim hs bs gs bk gr ht dr P = some (((o' : Nat) : Int), ((c' : Nat) : Int), P') ∧ sh_X9_note F (c : Int) (nx : Int) f D = some (((c' : Nat) : Int), ((nx' : Nat) : Int), D') ∧ (∀ s, 14 ≤ s → P' s = P s) ∧ zHR n w b P' o' c' D' nx' := by
  obtain ⟨h1, h2, h3, H, hH⟩ := H
  by_cases hc : c = 14
  · subst hc
    have e1 : zmod ((o : Int) + (1 : Int)) (14 : Int) = (((o + 1) % 14 : Nat) : Int) := md_n (o + 1) 14
    have e2 : zmod ((((o + 1) % 14 : Nat) : Int) + (((14 : Nat) : Int) - (1 : Int))) (14 : Int) = ((o : Nat) : Int) := by
      have := md_n ((o + 1) % 14 + 13) 14
      rw [show ((o + 1) % 14 + 13) % 14 = o by omega] at this
      exact this
    refine ⟨zput P o bk gr ht dr lim hs bs gs, (o + 1) % 14, 14, cp_of f D 0 (243 * nx), (nx + 1) % 14, ?_, m_note hF h3 (Nat.le_refl _), ?_, ?_⟩
    · unfold sh_X4_remember
      simp (disch := omega) only [zkr_t, if_pos, e1, e2, zkx_t, sh_X0_become, Option.bind_some, Int.toNat_natCast]
      rfl
    · intro s hs
      exact zput_n (by omega)
    · refine ⟨by omega, by omega, by omega, fun i => if i = 13 then a else H (i + 1), fun i hi => ?_⟩
      dsimp only
      by_cases hi13 : i = 13
      · subst hi13
        rw [if_pos rfl, show ((o + 1) % 14 + 13) % 14 = o by omega, show ((nx + 1) % 14 + 14 - 14 + 13) % 14 = nx by omega]
        exact ⟨zput_s R hn, M.cp hn, W⟩
      · rw [if_neg hi13, zput_n (by omega)]
        have := hH (i + 1) (by omega)
        rw [show (o + (i + 1)) % 14 = ((o + 1) % 14 + i) % 14 by omega, show (nx + 14 - 14 + (i + 1)) % 14 = ((nx + 1) % 14 + 14 - 14 + i) % 14 by omega] at this
        exact ⟨this.1, this.2.1.cp_out hn (by omega), this.2.2⟩
  · have e2 : zmod ((o : Int) + (c : Int)) (14 : Int) = (((o + c) % 14 : Nat) : Int) := md_n (o + c) 14
    have hm := m_note (f := f) (D := D) hF h3 h2
    rw [if_pos (by omega)] at hm
    refine ⟨zput P ((o + c) % 14) bk gr ht dr lim hs bs gs, o, c + 1, cp_of f D 0 (243 * nx), (nx + 1) % 14, ?_, hm, ?_, ?_⟩
    · unfold sh_X4_remember
      simp (disch := omega) only [zkr_t, if_neg, e2, zkx_t, sh_X0_become, Option.bind_some, Int.toNat_natCast]
      rfl
    · intro s hs
      exact zput_n (by omega)
    · refine ⟨h1, by omega, by omega, fun i => if i = c then a else H i, fun i hi => ?_⟩
      dsimp only
      by_cases hic : i = c
      · subst hic
        rw [if_pos rfl, show ((nx + 1) % 14 + 14 - (i + 1) + i) % 14 = nx by omega]
        exact ⟨zput_s R hn, M.cp hn, W⟩
      · rw [if_neg hic, zput_n (by omega)]
        have := hH i (by omega)
        rw [show (nx + 14 - c + i) % 14 = ((nx + 1) % 14 + 14 - (c + 1) + i) % 14 by omega] at this
        exact ⟨this.1, this.2.1.cp_out hn (by omega), this.2.2⟩
theorem hist_undo {F n w nx o c : Nat} {b : Int} {P : Nat → zCv} {f D bk gr ht dr : Nat → Int} {lim hs bs gs : Int} (hF : 5000 ≤ F) (hn : n ≤ 16) (H : zHR n w b P o (c + 1) D nx) : ∃ bk' gr' ht' dr' lim' hs' bs' gs' f' nx' a, sh_X4_takeBack F (o : Int) ((c + 1 : Nat) : Int) lim hs bs gs bk gr ht dr P = some ((c : Int), (c : Int), lim', hs', bs', gs', bk', gr', ht', dr') ∧ sh_X9_undo F ((c + 1 : Nat) : Int) (nx : Int) f D = some ((c : Int), 0, (c : Int), ((nx' : Nat) : Int), f') ∧ Rc n bk' gr' ht' dr' lim' hs' bs' gs' a ∧ Rm n 0 f' a ∧ ab_wf n w b a ∧ zHR n w b P o c D nx' := by
  obtain ⟨h1, h2, h3, H, hH⟩ := H
  have hl := hH c (by omega)
  have e1 : zmod ((o : Int) + (c : Int)) (14 : Int) = (((o + c) % 14 : Nat) : Int) := md_n (o + c) 14
  have e2 : zmod (((nx : Int) + (14 : Int)) - (1 : Int)) (14 : Int) = (((nx + 13) % 14 : Nat) : Int) := by
    have := md_n (nx + 13) 14
    rw [show (((nx : Int) + (14 : Int)) - (1 : Int)) = ((nx + 13 : Nat) : Int) by omega]
    exact this
  have e3 : (((c + 1 : Nat) : Int) - (1 : Int)) = (c : Int) := by omega
  have e4 : sh_X9_copy F D f 3402 243 ((243 : Int) * (((nx + 13) % 14 : Nat) : Int)) (0 : Int) = some (cp_of D f (243 * ((nx + 13) % 14)) 0) := by
    have := m_copy (f := D) (g := f) (n0 := 3402) (n2 := 243) (o1 := 243 * ((nx + 13) % 14)) (o2 := 0) hF (by omega) (by omega)
    rw [Int.natCast_mul] at this
    exact this
  rw [show (nx + 14 - (c + 1) + c) % 14 = (nx + 13) % 14 by omega] at hl
  refine ⟨_, _, _, _, _, _, _, _, _, (nx + 13) % 14, H c, ?_, ?_, hl.1.become (bk2 := bk) (gr2 := gr) (ht2 := ht) (dr2 := dr) hn, hl.2.1.cp (g := f) (o2 := 0) hn, hl.2.2, h1, by omega, by omega, H, fun i hi => ?_⟩
  · unfold sh_X4_takeBack
    simp (disch := omega) only [zkr_t, if_pos, e1, e3, zkx_t, sh_X0_become, Option.bind_some, Int.toNat_natCast]
    rfl
  · unfold sh_X9_undo sh_X9_refused
    simp (disch := omega) only [zkr_t, if_neg, if_pos, e2, e3, e4, Option.bind_some]
    exact if_pos trivial
  · have := hH i (by omega)
    rw [show (nx + 14 - (c + 1) + i) % 14 = ((nx + 13) % 14 + 14 - c + i) % 14 by omega] at this
    exact this
/-- the save slots -/
def zSR (n w : Nat) (b : Int) (P : Nat → zCv) (fl ik K : Nat → Int) : Prop := ∀ s, s < 2 → fl s = ik s ∧ (ik s = 0 ∨ ik s = 1 ∧ ∃ a, Rp n (P (14 + s)) a ∧ Rm n (243 * s) K a ∧ ab_wf n w b a)
theorem zSR.mono {n w : Nat} {b b' : Int} {P : Nat → zCv} {fl ik K : Nat → Int} (h : zSR n w b P fl ik K) (hb : b ≤ b') : zSR n w b' P fl ik K := by
  intro s hs
  obtain ⟨h1, h2⟩ := h s hs
  refine ⟨h1, ?_⟩
  rcases h2 with h2 | ⟨h2, a, x1, x2, x3⟩
  · exact Or.inl h2
  · exact Or.inr ⟨h2, a, x1, x2, x3.mono hb⟩
theorem zSR.pool {n w : Nat} {b : Int} {P P' : Nat → zCv} {fl ik K : Nat → Int} (h : zSR n w b P fl ik K) (hP : ∀ s, 14 ≤ s → P' s = P s) : zSR n w b P' fl ik K := by
  intro s hs
  obtain ⟨h1, h2⟩ := h s hs
  refine ⟨h1, ?_⟩
  rw [hP (14 + s) (by omega)]
  exact h2
theorem zHR.pool {n w : Nat} {b : Int} {P P' : Nat → zCv} {o c nx : Nat} {D : Nat → Int} (h : zHR n w b P o c D nx) (hP : ∀ s, s < 14 → P' s = P s) : zHR n w b P' o c D nx := by
  obtain ⟨h1, h2, h3, H, hH⟩ := h
  refine ⟨h1, h2, h3, H, fun i hi => ?_⟩
  rw [hP _ (by omega)]
  exact hH i hi
