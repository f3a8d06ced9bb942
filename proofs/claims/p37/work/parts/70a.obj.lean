/-! AN OBJECT AWAY FROM ITS CELLS: grid, cave, remembered states, slots, text -/
abbrev zO : Type := Nat × Nat × zAb × (Nat × (Nat → zAb)) × (Nat → Option zAb) × (Nat × (Nat → Int))
def oh (A : zO) : Nat := A.1
def ow (A : zO) : Nat := A.2.1
def oa (A : zO) : zAb := A.2.2.1
def oc (A : zO) : Nat := A.2.2.2.1.1
def oH (A : zO) : Nat → zAb := A.2.2.2.1.2
def os (A : zO) : Nat → Option zAb := A.2.2.2.2.1
def oL (A : zO) : Nat := A.2.2.2.2.2.1
def oS (A : zO) : Nat → Int := A.2.2.2.2.2.2
def onn (A : zO) : Nat := oh A * ow A
def oset (A : zO) (a : zAb) (h : Nat × (Nat → zAb)) : zO := (oh A, ow A, a, h, os A, oL A, oS A)
/-- the present state is remembered -/
def s_note (A : zO) : Nat × (Nat → zAb) := if oc A = 14 then (14, fun i => if i = 13 then oa A else oH A (i + 1)) else (oc A + 1, fun i => if i = oc A then oa A else oH A i)
def s_act (A : zO) (a : zAb) : zO := oset A a (s_note A)
/-- sound, all numbers at most b -/
def zOK (b : Int) (A : zO) : Prop := (1 ≤ oh A ∧ oh A ≤ 4) ∧ (1 ≤ ow A ∧ ow A ≤ 4) ∧ ab_wf (onn A) (ow A) b (oa A) ∧ (∀ i, i < oc A → ab_wf (onn A) (ow A) b (oH A i)) ∧ ∀ s a, os A s = some a → ab_wf (onn A) (ow A) b a
theorem zOK.mono {b b' : Int} {A : zO} (h : zOK b A) (hb : b ≤ b') : zOK b' A := ⟨h.1, h.2.1, h.2.2.1.mono hb, fun i hi => (h.2.2.2.1 i hi).mono hb, fun s a hs => (h.2.2.2.2 s a hs).mono hb⟩
theorem zOK.n16 {b : Int} {A : zO} (h : zOK b A) : onn A ≤ 16 := gz_n16 h.1.2 h.2.1.2
theorem zOK.n1 {b : Int} {A : zO} (h : zOK b A) : 1 ≤ onn A := Nat.mul_pos h.1.1 h.2.1.1
theorem zOK.wf {b : Int} {A : zO} (h : zOK b A) : ab_wf (onn A) (ow A) b (oa A) := h.2.2.1
def isP (A : zO) (p : Int) : Prop := 0 ≤ p ∧ p < ((onn A : Nat) : Int)
/-- the cells hold A -/
def oHR (n : Nat) (P : Nat → zCv) (ol ct : Int) (A : zO) : Prop := ∃ o : Nat, o < 14 ∧ ol = (o : Int) ∧ ct = ((oc A : Nat) : Int) ∧ oc A ≤ 14 ∧ ∀ i, i < oc A → Rp n (P ((o + i) % 14)) (oH A i)
def oSR (n : Nat) (P : Nat → zCv) (fl : Nat → Int) (A : zO) : Prop := ∀ s, s < 2 → (os A s = none ∧ fl s = 0) ∨ ∃ a, os A s = some a ∧ fl s = 1 ∧ Rp n (P (14 + s)) a
def oTX (tl : Int) (sg : Nat → Int) (A : zO) : Prop := tl = ((oL A : Nat) : Int) ∧ oL A ≤ 120 ∧ ∀ j, j < oL A → sg j = oS A j ∧ 0 ≤ oS A j ∧ oS A j ≤ 255
def oREL (size : Int) (ro co ne nc : Nat → Int) (lim hs bs gs : Int) (bk gr ht dr : Nat → Int) (tl : Int) (sg : Nat → Int) (ol ct : Int) (fl : Nat → Int) (P : Nat → zCv) (A : zO) : Prop :=
  gz_ok (oh A) (ow A) size ro co ne nc ∧ Rc (onn A) bk gr ht dr lim hs bs gs (oa A) ∧ oHR (onn A) P ol ct A ∧ oSR (onn A) P fl A ∧ oTX tl sg A
theorem oHR.pool {n : Nat} {P P' : Nat → zCv} {ol ct : Int} {A : zO} (h : oHR n P ol ct A) (hP : ∀ s, s < 14 → P' s = P s) : oHR n P' ol ct A := by
  obtain ⟨o, h1, h2, h3, h4, h5⟩ := h
  exact ⟨o, h1, h2, h3, h4, fun i hi => by rw [hP _ (by omega)]; exact h5 i hi⟩
theorem oSR.pool {n : Nat} {P P' : Nat → zCv} {fl : Nat → Int} {A : zO} (h : oSR n P fl A) (hP : ∀ s, 14 ≤ s → P' s = P s) : oSR n P' fl A := by
  intro s hs
  rw [hP (14 + s) (by omega)]
  exact h s hs
theorem oTX.ok {tl : Int} {sg : Nat → Int} {A : zO} (h : oTX tl sg A) : tx_ok (oL A) (oS A) ∧ tx_ok (oL A) sg ∧ ∀ j, sg_of (oL A) sg j = sg_of (oL A) (oS A) j := by
  obtain ⟨-, hL, h⟩ := h
  refine ⟨⟨hL, fun j hj => (h j hj).2⟩, ⟨hL, fun j hj => by rw [(h j hj).1]; exact (h j hj).2⟩, fun j => ?_⟩
  unfold sg_of
  split
  · exact (h j (by assumption)).1
  · rfl
/-- remembering, on the class's side -/
theorem oHR.note {F n : Nat} {P : Nat → zCv} {ol ct : Int} {bk gr ht dr : Nat → Int} {lim hs bs gs : Int} {A : zO} (hF : 5000 ≤ F) (hn : n ≤ 16) (H : oHR n P ol ct A) (R : Rc n bk gr ht dr lim hs bs gs (oa A)) (a' : zAb) : ∃ P' ol', sh_X4_remember F ol ct lim hs bs gs bk gr ht dr P = some (ol', (((s_note A).1 : Nat) : Int), P') ∧ (∀ s, 14 ≤ s → P' s = P s) ∧ oHR n P' ol' (((s_note A).1 : Nat) : Int) (s_act A a') := by
  obtain ⟨o, h1, rfl, rfl, h2, hH⟩ := H
  by_cases hc : oc A = 14
  · have e1 : zmod ((o : Int) + (1 : Int)) (14 : Int) = (((o + 1) % 14 : Nat) : Int) := md_n (o + 1) 14
    have e2 : zmod ((((o + 1) % 14 : Nat) : Int) + (((14 : Nat) : Int) - (1 : Int))) (14 : Int) = ((o : Nat) : Int) := by
      have := md_n ((o + 1) % 14 + 13) 14
      rw [show ((o + 1) % 14 + 13) % 14 = o by omega] at this
      exact this
    have en : s_note A = (14, fun i => if i = 13 then oa A else oH A (i + 1)) := by unfold s_note; rw [if_pos hc]
    rw [en]
    refine ⟨zput P o bk gr ht dr lim hs bs gs, (((o + 1) % 14 : Nat) : Int), ?_, fun s hs => zput_n (by omega), (o + 1) % 14, by omega, rfl, ?_, ?_, ?_⟩
    · unfold sh_X4_remember
      rw [hc]
      simp (disch := omega) only [zkr_t, if_pos, e1, e2, zkx_t, sh_X0_become, Option.bind_some, Int.toNat_natCast]
      rfl
    · show ((14 : Nat) : Int) = (((s_note A).1 : Nat) : Int)
      rw [en]
    · show (s_note A).1 ≤ 14
      rw [en]; exact Nat.le_refl _
    · intro i hi
      have hi : i < (s_note A).1 := hi
      show Rp n _ ((s_note A).2 i)
      rw [en] at hi ⊢
      dsimp only at hi ⊢
      by_cases hi13 : i = 13
      · subst hi13
        rw [if_pos rfl, show ((o + 1) % 14 + 13) % 14 = o by omega]
        exact zput_s R hn
      · rw [if_neg hi13, zput_n (by omega)]
        have := hH (i + 1) (by omega)
        rw [show (o + (i + 1)) % 14 = ((o + 1) % 14 + i) % 14 by omega] at this
        exact this
  · have e2 : zmod ((o : Int) + ((oc A : Nat) : Int)) (14 : Int) = (((o + oc A) % 14 : Nat) : Int) := md_n (o + oc A) 14
    have en : s_note A = (oc A + 1, fun i => if i = oc A then oa A else oH A i) := by unfold s_note; rw [if_neg hc]
    rw [en]
    refine ⟨zput P ((o + oc A) % 14) bk gr ht dr lim hs bs gs, (o : Int), ?_, fun s hs => zput_n (by omega), o, h1, rfl, ?_, ?_, ?_⟩
    · unfold sh_X4_remember
      simp (disch := omega) only [zkr_t, if_neg, e2, zkx_t, sh_X0_become, Option.bind_some, Int.toNat_natCast]
      rfl
    · show ((oc A + 1 : Nat) : Int) = (((s_note A).1 : Nat) : Int)
      rw [en]
    · show (s_note A).1 ≤ 14
      rw [en]; show oc A + 1 ≤ 14; omega
    · intro i hi
      have hi : i < (s_note A).1 := hi
      show Rp n _ ((s_note A).2 i)
      rw [en] at hi ⊢
      dsimp only at hi ⊢
      by_cases hic : i = oc A
      · subst hic
        rw [if_pos rfl]
        exact zput_s R hn
      · rw [if_neg hic, zput_n (by omega)]
        exact hH i (by omega)
theorem s_act_ok {b b' : Int} {A : zO} {a' : zAb} (W : zOK b A) (hb : b ≤ b') (h : ab_wf (onn A) (ow A) b' a') : zOK b' (s_act A a') := by
  refine ⟨W.1, W.2.1, h, fun i hi => ?_, fun s a hs => (W.2.2.2.2 s a hs).mono hb⟩
  have hi : i < (s_note A).1 := hi
  show ab_wf (onn A) (ow A) b' ((s_note A).2 i)
  unfold s_note at hi ⊢
  by_cases hc : oc A = 14
  · rw [if_pos hc] at hi ⊢
    dsimp only at hi ⊢
    by_cases h13 : i = 13
    · rw [if_pos h13]; exact W.2.2.1.mono hb
    · rw [if_neg h13]; exact (W.2.2.2.1 (i + 1) (by omega)).mono hb
  · rw [if_neg hc] at hi ⊢
    dsimp only at hi ⊢
    by_cases h13 : i = oc A
    · rw [if_pos h13]; exact W.2.2.1.mono hb
    · rw [if_neg h13]; exact (W.2.2.2.1 i (by omega)).mono hb
