/-! WHAT THE CLASS ANSWERS, and what its cells hold behind the call, said of the object -/
theorem isP.nat {A : zO} {p : Int} (h : isP A p) : ∃ k : Nat, p = (k : Int) ∧ k < oh A * ow A := by
  obtain ⟨h1, h2⟩ := h
  have h2 : p < ((oh A * ow A : Nat) : Int) := h2
  exact ⟨p.toNat, by omega, by omega⟩
theorem isP.cases (A : zO) (p : Int) : (∃ k : Nat, p = (k : Int) ∧ k < oh A * ow A ∧ isP A p) ∨ (¬ (0 ≤ p ∧ p < ((oh A * ow A : Nat) : Int)) ∧ ¬ isP A p) := by
  by_cases c : isP A p
  · obtain ⟨k, h1, h2⟩ := c.nat
    exact Or.inl ⟨k, h1, h2, c⟩
  · exact Or.inr ⟨c, c⟩
theorem rpn_in {F h w p : Nat} {size : Int} {ro co ne nc : Nat → Int} (G : gz_ok h w size ro co ne nc) (hp : p < h * w) : sh_X8_requirePoint_n F size (p : Int) = some () := by
  have hn := gz_n16 G.2.1 G.2.2.2.1
  unfold sh_X8_requirePoint_n
  rw [c_has F h w size (p : Int) ro co ne nc G (by omega), Option.bind_some, if_pos (by omega)]
  rfl
theorem rrn_in {F : Nat} {x lo hi : Int} (hl : -1000 ≤ lo ∧ lo ≤ 1000) (hh : -1000 ≤ hi ∧ hi ≤ 1000) (h : lo ≤ x ∧ x ≤ hi) : sh_X8_requireRange_n F x lo hi = some () := by
  unfold sh_X8_requireRange_n
  rw [zkr_t (by omega) (by omega), zkr_t (by omega) (by omega), if_neg (by omega), zkr_t (by omega) (by omega), if_neg (by omega)]
theorem rsn_in {F s : Nat} (hs : s < 2) : sh_X8_requireSlot_n F (s : Int) = some () := by
  unfold sh_X8_requireSlot_n
  rw [zkr_t (by omega) (by omega), if_neg (by omega), if_pos (by omega)]
theorem ab_blockers_rng {n w p : Nat} {a : zAb} (hn : n ≤ 16) : 0 ≤ ab_blockers n w a p ∧ ab_blockers n w a p < 65536 := by
  unfold ab_blockers
  have := ab_blk_lt (ab_bc a p) (gz_nb n w p) 0 (fun q hq => by have := (gz_nb_mem.mp hq).1; omega) (by decide)
  omega
theorem tx_good {L : Nat} {s : Nat → Int} (h : tx_err L s = -9) : ∃ (h' w' : Nat) (b' : Int) (r : Nat × List zSl), (1 ≤ h' ∧ h' ≤ 4) ∧ (1 ≤ w' ∧ w' ≤ 4) ∧ (1 ≤ b' ∧ b' ≤ 9) ∧ sg_of L s 1 - 48 = (h' : Int) ∧ sg_of L s 2 - 48 = (w' : Int) ∧ sg_of L s 3 - 48 = b' ∧ ps L s (h' * w') 4 = .inr r := by
  unfold tx_err at h
  split at h
  · split at h
    · split at h
      · split at h
        · rename_i h0 h1 h2 h3
          cases hp : ps L s ((sg_of L s 1 - 48).toNat * (sg_of L s 2 - 48).toNat) 4 with
          | inl e =>
            rw [hp] at h
            have h : (e : Int) = -9 := h
            omega
          | inr r => exact ⟨(sg_of L s 1 - 48).toNat, (sg_of L s 2 - 48).toNat, sg_of L s 3 - 48, r, by omega, by omega, h3, by omega, by omega, rfl, hp⟩
        · omega
      · omega
    · omega
  · omega
theorem kq_drawn_n {size : Int} {ro co ne nc : Nat → Int} {lim hs bs gs : Int} {bk gr ht dr : Nat → Int} {tl : Int} {sg : Nat → Int} {ol ct : Int} {fl : Nat → Int} {P : Nat → zCv} {A : zO} (O : oREL size ro co ne nc lim hs bs gs bk gr ht dr tl sg ol ct fl P A) (p1 : Int) (h : zOK 90000 A ∧ isP A p1) : sh_L_drawn_n 20000 size dr p1 = some (ab_dr (oa A) p1.toNat) ∧ i32 (ab_dr (oa A) p1.toNat) := by
  obtain ⟨G0, R0, HH, SS, TT⟩ := O
  have G : gz_ok (oh A) (ow A) size ro co ne nc := G0
  have R : Rc (oh A * ow A) bk gr ht dr lim hs bs gs (oa A) := R0
  have W : ab_wf (oh A * ow A) (ow A) 90000 (oa A) := h.1.2.2.1
  have hn16 : oh A * ow A ≤ 16 := gz_n16 G.2.1 G.2.2.2.1
  have hw45 : ow A < 5 := by have := G.2.2.2.1; omega
  obtain ⟨p, rfl, hp⟩ := isP.nat h.2
  have w1 := W.1 p hp
  have e := (R.1 p hp).2.2.1
  rw [Int.toNat_natCast]
  refine ⟨?_, by unfold i32; omega⟩
  unfold sh_L_drawn_n sh_X8_drawn_n sh_X0_drawnFrom
  simp (disch := omega) only [rpn_in G hp, Option.bind_some, zkx_t, ix_n, e]
theorem kq_drawn_t {size : Int} {ro co ne nc : Nat → Int} {lim hs bs gs : Int} {bk gr ht dr : Nat → Int} {tl : Int} {sg : Nat → Int} {ol ct : Int} {fl : Nat → Int} {P : Nat → zCv} {A : zO} (O : oREL size ro co ne nc lim hs bs gs bk gr ht dr tl sg ol ct fl P A) (p1 : Int) (h : zOK 90000 A ∧ i32 p1 ∧ ¬ isP A p1) : sh_L_drawn 20000 size dr p1 = some ((-101)) ∧ i32 ((-101)) := by
  obtain ⟨G0, R0, HH, SS, TT⟩ := O
  have G : gz_ok (oh A) (ow A) size ro co ne nc := G0
  have R : Rc (oh A * ow A) bk gr ht dr lim hs bs gs (oa A) := R0
  have W : ab_wf (oh A * ow A) (ow A) 90000 (oa A) := h.1.2.2.1
  have hn16 : oh A * ow A ≤ 16 := gz_n16 G.2.1 G.2.2.2.1
  have hw45 : ow A < 5 := by have := G.2.2.2.1; omega
  refine ⟨?_, by unfold i32; omega⟩
  unfold sh_L_drawn sh_X8_drawn
  rw [rp_out G h.2.1 h.2.2, Option.bind_some, if_neg (by decide), Option.bind_some]
  rfl
theorem kq_remaining_n {size : Int} {ro co ne nc : Nat → Int} {lim hs bs gs : Int} {bk gr ht dr : Nat → Int} {tl : Int} {sg : Nat → Int} {ol ct : Int} {fl : Nat → Int} {P : Nat → zCv} {A : zO} (O : oREL size ro co ne nc lim hs bs gs bk gr ht dr tl sg ol ct fl P A) (p1 : Int) (h : zOK 90000 A ∧ isP A p1) : sh_L_remaining_n 20000 size bk ht p1 = some (ab_left (ab_col (oa A) p1.toNat)) ∧ i32 (ab_left (ab_col (oa A) p1.toNat)) := by
  obtain ⟨G0, R0, HH, SS, TT⟩ := O
  have G : gz_ok (oh A) (ow A) size ro co ne nc := G0
  have R : Rc (oh A * ow A) bk gr ht dr lim hs bs gs (oa A) := R0
  have W : ab_wf (oh A * ow A) (ow A) 90000 (oa A) := h.1.2.2.1
  have hn16 : oh A * ow A ≤ 16 := gz_n16 G.2.1 G.2.2.2.1
  have hw45 : ow A < 5 := by have := G.2.2.2.1; omega
  obtain ⟨p, rfl, hp⟩ := isP.nat h.2
  have w1 := W.1 p hp
  have e := R.left (F := 20000) (by omega) hn16 hp
  have hl := ab_left_rng w1.1
  rw [Int.toNat_natCast]
  refine ⟨?_, by unfold i32; omega⟩
  unfold sh_L_remaining_n sh_X8_remaining_n
  simp (disch := omega) only [rpn_in G hp, Option.bind_some, e]
theorem kq_remaining_t {size : Int} {ro co ne nc : Nat → Int} {lim hs bs gs : Int} {bk gr ht dr : Nat → Int} {tl : Int} {sg : Nat → Int} {ol ct : Int} {fl : Nat → Int} {P : Nat → zCv} {A : zO} (O : oREL size ro co ne nc lim hs bs gs bk gr ht dr tl sg ol ct fl P A) (p1 : Int) (h : zOK 90000 A ∧ i32 p1 ∧ ¬ isP A p1) : sh_L_remaining 20000 size bk ht p1 = some ((-101)) ∧ i32 ((-101)) := by
  obtain ⟨G0, R0, HH, SS, TT⟩ := O
  have G : gz_ok (oh A) (ow A) size ro co ne nc := G0
  have R : Rc (oh A * ow A) bk gr ht dr lim hs bs gs (oa A) := R0
  have W : ab_wf (oh A * ow A) (ow A) 90000 (oa A) := h.1.2.2.1
  have hn16 : oh A * ow A ≤ 16 := gz_n16 G.2.1 G.2.2.2.1
  have hw45 : ow A < 5 := by have := G.2.2.2.1; omega
  refine ⟨?_, by unfold i32; omega⟩
  unfold sh_L_remaining sh_X8_remaining
  rw [rp_out G h.2.1 h.2.2, Option.bind_some, if_neg (by decide), Option.bind_some]
  rfl
theorem kq_slices_n {size : Int} {ro co ne nc : Nat → Int} {lim hs bs gs : Int} {bk gr ht dr : Nat → Int} {tl : Int} {sg : Nat → Int} {ol ct : Int} {fl : Nat → Int} {P : Nat → zCv} {A : zO} (O : oREL size ro co ne nc lim hs bs gs bk gr ht dr tl sg ol ct fl P A) (p1 : Int) (h : zOK 90000 A ∧ isP A p1) : sh_L_slices_n 20000 size ht p1 = some ((((ab_col (oa A) p1.toNat).length : Nat) : Int)) ∧ i32 ((((ab_col (oa A) p1.toNat).length : Nat) : Int)) := by
  obtain ⟨G0, R0, HH, SS, TT⟩ := O
  have G : gz_ok (oh A) (ow A) size ro co ne nc := G0
  have R : Rc (oh A * ow A) bk gr ht dr lim hs bs gs (oa A) := R0
  have W : ab_wf (oh A * ow A) (ow A) 90000 (oa A) := h.1.2.2.1
  have hn16 : oh A * ow A ≤ 16 := gz_n16 G.2.1 G.2.2.2.1
  have hw45 : ow A < 5 := by have := G.2.2.2.1; omega
  obtain ⟨p, rfl, hp⟩ := isP.nat h.2
  have r := R.1 p hp
  have l1 := congrArg List.length r.2.1
  rw [cl_len] at l1
  have e : ht p = (((ab_col (oa A) p).length : Nat) : Int) := by omega
  rw [Int.toNat_natCast]
  refine ⟨?_, by unfold i32; omega⟩
  unfold sh_L_slices_n sh_X8_sliceCount_n sh_X0_height
  simp (disch := omega) only [rpn_in G hp, Option.bind_some, zkx_t, ix_n, e]
theorem kq_slices_t {size : Int} {ro co ne nc : Nat → Int} {lim hs bs gs : Int} {bk gr ht dr : Nat → Int} {tl : Int} {sg : Nat → Int} {ol ct : Int} {fl : Nat → Int} {P : Nat → zCv} {A : zO} (O : oREL size ro co ne nc lim hs bs gs bk gr ht dr tl sg ol ct fl P A) (p1 : Int) (h : zOK 90000 A ∧ i32 p1 ∧ ¬ isP A p1) : sh_L_slices 20000 size ht p1 = some ((-101)) ∧ i32 ((-101)) := by
  obtain ⟨G0, R0, HH, SS, TT⟩ := O
  have G : gz_ok (oh A) (ow A) size ro co ne nc := G0
  have R : Rc (oh A * ow A) bk gr ht dr lim hs bs gs (oa A) := R0
  have W : ab_wf (oh A * ow A) (ow A) 90000 (oa A) := h.1.2.2.1
  have hn16 : oh A * ow A ≤ 16 := gz_n16 G.2.1 G.2.2.2.1
  have hw45 : ow A < 5 := by have := G.2.2.2.1; omega
  refine ⟨?_, by unfold i32; omega⟩
  unfold sh_L_slices sh_X8_sliceCount
  rw [rp_out G h.2.1 h.2.2, Option.bind_some, if_neg (by decide), Option.bind_some]
  rfl
theorem kq_grade_n {size : Int} {ro co ne nc : Nat → Int} {lim hs bs gs : Int} {bk gr ht dr : Nat → Int} {tl : Int} {sg : Nat → Int} {ol ct : Int} {fl : Nat → Int} {P : Nat → zCv} {A : zO} (O : oREL size ro co ne nc lim hs bs gs bk gr ht dr tl sg ol ct fl P A) (p1 : Int) (p2 : Int) (h : zOK 90000 A ∧ isP A p1 ∧ 0 ≤ p2 ∧ p2 ≤ 99) : sh_L_grade_n 20000 size bk gr ht p1 p2 = some (ab_grade (ab_col (oa A) p1.toNat) p2) ∧ i32 (ab_grade (ab_col (oa A) p1.toNat) p2) := by
  obtain ⟨G0, R0, HH, SS, TT⟩ := O
  have G : gz_ok (oh A) (ow A) size ro co ne nc := G0
  have R : Rc (oh A * ow A) bk gr ht dr lim hs bs gs (oa A) := R0
  have W : ab_wf (oh A * ow A) (ow A) 90000 (oa A) := h.1.2.2.1
  have hn16 : oh A * ow A ≤ 16 := gz_n16 G.2.1 G.2.2.2.1
  have hw45 : ow A < 5 := by have := G.2.2.2.1; omega
  obtain ⟨p, rfl, hp⟩ := isP.nat h.2.1
  have w1 := W.1 p hp
  have h2 := h.2.2
  have e := R.grade (F := 20000) (by omega) W hn16 hp (i := p2) (by omega)
  have hl := ab_grade_rng w1.1.2 p2
  rw [Int.toNat_natCast]
  refine ⟨?_, by unfold i32; omega⟩
  unfold sh_L_grade_n sh_X8_gradeAhead_n
  simp (disch := omega) only [rpn_in G hp, rrn_in (F := 20000) (x := p2) (lo := 0) (hi := 99) (by decide) (by decide) h2, Option.bind_some, e]
theorem kq_grade_t {size : Int} {ro co ne nc : Nat → Int} {lim hs bs gs : Int} {bk gr ht dr : Nat → Int} {tl : Int} {sg : Nat → Int} {ol ct : Int} {fl : Nat → Int} {P : Nat → zCv} {A : zO} (O : oREL size ro co ne nc lim hs bs gs bk gr ht dr tl sg ol ct fl P A) (p1 : Int) (p2 : Int) (h : zOK 90000 A ∧ i32 p1 ∧ i32 p2 ∧ ¬ (isP A p1 ∧ 0 ≤ p2 ∧ p2 ≤ 99)) : sh_L_grade 20000 size bk gr ht p1 p2 = some ((fi (isP A p1) (-102) (-101))) ∧ i32 ((fi (isP A p1) (-102) (-101))) := by
  obtain ⟨G0, R0, HH, SS, TT⟩ := O
  have G : gz_ok (oh A) (ow A) size ro co ne nc := G0
  have R : Rc (oh A * ow A) bk gr ht dr lim hs bs gs (oa A) := R0
  have W : ab_wf (oh A * ow A) (ow A) 90000 (oa A) := h.1.2.2.1
  have hn16 : oh A * ow A ≤ 16 := gz_n16 G.2.1 G.2.2.2.1
  have hw45 : ow A < 5 := by have := G.2.2.2.1; omega
  rcases isP.cases A p1 with ⟨p, rfl, hp, hi⟩ | ⟨hp, hi⟩
  · rw [fi_t hi]
    refine ⟨?_, by unfold i32; omega⟩
    unfold sh_L_grade sh_X8_gradeAhead
    rw [rp_in G hp, Option.bind_some, if_pos rfl, rr_out (F := 20000) (x := p2) (lo := 0) (hi := 99) (by decide) (by decide) h.2.2.1 (fun z => h.2.2.2 ⟨hi, z⟩), Option.bind_some, if_neg (by decide), Option.bind_some]
    rfl
  · rw [fi_f hi]
    refine ⟨?_, by unfold i32; omega⟩
    unfold sh_L_grade sh_X8_gradeAhead
    rw [rp_out G h.2.1 hp, Option.bind_some, if_neg (by decide), Option.bind_some]
    rfl
theorem kq_hung_n {size : Int} {ro co ne nc : Nat → Int} {lim hs bs gs : Int} {bk gr ht dr : Nat → Int} {tl : Int} {sg : Nat → Int} {ol ct : Int} {fl : Nat → Int} {P : Nat → zCv} {A : zO} (O : oREL size ro co ne nc lim hs bs gs bk gr ht dr tl sg ol ct fl P A) (p1 : Int) (h : zOK 90000 A ∧ isP A p1) : sh_L_hung_n 20000 size hs p1 = some ((if ab_hg (oa A) p1.toNat then 1 else 0)) ∧ i32 ((if ab_hg (oa A) p1.toNat then 1 else 0)) := by
  obtain ⟨G0, R0, HH, SS, TT⟩ := O
  have G : gz_ok (oh A) (ow A) size ro co ne nc := G0
  have R : Rc (oh A * ow A) bk gr ht dr lim hs bs gs (oa A) := R0
  have W : ab_wf (oh A * ow A) (ow A) 90000 (oa A) := h.1.2.2.1
  have hn16 : oh A * ow A ≤ 16 := gz_n16 G.2.1 G.2.2.2.1
  have hw45 : ow A < 5 := by have := G.2.2.2.1; omega
  obtain ⟨p, rfl, hp⟩ := isP.nat h.2
  have e := R.hangs (F := 20000) hn16 hp
  rw [Int.toNat_natCast]
  refine ⟨?_, by unfold i32; split <;> omega⟩
  unfold sh_L_hung_n sh_X8_isHung_n
  cases hg : ab_hg (oa A) p
  all_goals rw [hg] at e
  all_goals simp only [Bool.false_eq_true, if_false, if_true] at e
  all_goals simp (disch := omega) only [rpn_in G hp, Option.bind_some, e, zkr_t, zkc_t, if_pos, if_neg, if_true, Bool.false_eq_true, if_false]
  all_goals first | rfl | simp
theorem kq_hung_t {size : Int} {ro co ne nc : Nat → Int} {lim hs bs gs : Int} {bk gr ht dr : Nat → Int} {tl : Int} {sg : Nat → Int} {ol ct : Int} {fl : Nat → Int} {P : Nat → zCv} {A : zO} (O : oREL size ro co ne nc lim hs bs gs bk gr ht dr tl sg ol ct fl P A) (p1 : Int) (h : zOK 90000 A ∧ i32 p1 ∧ ¬ isP A p1) : sh_L_hung 20000 size hs p1 = some ((-101)) ∧ i32 ((-101)) := by
  obtain ⟨G0, R0, HH, SS, TT⟩ := O
  have G : gz_ok (oh A) (ow A) size ro co ne nc := G0
  have R : Rc (oh A * ow A) bk gr ht dr lim hs bs gs (oa A) := R0
  have W : ab_wf (oh A * ow A) (ow A) 90000 (oa A) := h.1.2.2.1
  have hn16 : oh A * ow A ≤ 16 := gz_n16 G.2.1 G.2.2.2.1
  have hw45 : ow A < 5 := by have := G.2.2.2.1; omega
  refine ⟨?_, by unfold i32; omega⟩
  unfold sh_L_hung sh_X8_isHung
  rw [rp_out G h.2.1 h.2.2, Option.bind_some, if_neg (by decide), Option.bind_some]
  rfl
theorem kq_ready_n {size : Int} {ro co ne nc : Nat → Int} {lim hs bs gs : Int} {bk gr ht dr : Nat → Int} {tl : Int} {sg : Nat → Int} {ol ct : Int} {fl : Nat → Int} {P : Nat → zCv} {A : zO} (O : oREL size ro co ne nc lim hs bs gs bk gr ht dr tl sg ol ct fl P A) (p1 : Int) (h : zOK 90000 A ∧ isP A p1) : sh_L_ready_n 20000 size ne nc lim hs bk ht dr p1 = some (v_ready A p1) ∧ i32 (v_ready A p1) := by
  obtain ⟨G0, R0, HH, SS, TT⟩ := O
  have G : gz_ok (oh A) (ow A) size ro co ne nc := G0
  have R : Rc (oh A * ow A) bk gr ht dr lim hs bs gs (oa A) := R0
  have W : ab_wf (oh A * ow A) (ow A) 90000 (oa A) := h.1.2.2.1
  have hn16 : oh A * ow A ≤ 16 := gz_n16 G.2.1 G.2.2.2.1
  have hw45 : ow A < 5 := by have := G.2.2.2.1; omega
  obtain ⟨p, rfl, hp⟩ := isP.nat h.2
  have e := R.ready (F := 20000) (by omega) G W (by omega) hp
  unfold v_ready v_slack
  rw [Int.toNat_natCast]
  refine ⟨?_, by unfold i32; split <;> omega⟩
  unfold sh_L_ready_n sh_X8_isReady_n
  by_cases hg : 0 < ab_slack (oh A * ow A) (ow A) (oa A) p
  · have hg' : 0 < ab_slack (onn A) (ow A) (oa A) p := hg
    rw [if_pos hg] at e
    simp (disch := omega) only [rpn_in G hp, Option.bind_some, e, zkr_t, zkc_t, if_pos, if_neg, if_true, hg']
    first | rfl | simp
  · have hg' : ¬ 0 < ab_slack (onn A) (ow A) (oa A) p := hg
    rw [if_neg hg] at e
    simp (disch := omega) only [rpn_in G hp, Option.bind_some, e, zkr_t, zkc_t, if_pos, if_neg, if_true, hg', if_false]
    first | rfl | simp
theorem kq_ready_x {size : Int} {ro co ne nc : Nat → Int} {lim hs bs gs : Int} {bk gr ht dr : Nat → Int} {tl : Int} {sg : Nat → Int} {ol ct : Int} {fl : Nat → Int} {P : Nat → zCv} {A : zO} (O : oREL size ro co ne nc lim hs bs gs bk gr ht dr tl sg ol ct fl P A) (p1 : Int) (h : zOK 90000 A ∧ i32 p1) : sh_L_ready 20000 size ne nc lim hs bk ht dr p1 = some (f_ready A p1) ∧ i32 (f_ready A p1) := by
  obtain ⟨G0, R0, HH, SS, TT⟩ := O
  have G : gz_ok (oh A) (ow A) size ro co ne nc := G0
  have R : Rc (oh A * ow A) bk gr ht dr lim hs bs gs (oa A) := R0
  have W : ab_wf (oh A * ow A) (ow A) 90000 (oa A) := h.1.2.2.1
  have hn16 : oh A * ow A ≤ 16 := gz_n16 G.2.1 G.2.2.2.1
  have hw45 : ow A < 5 := by have := G.2.2.2.1; omega
  unfold f_ready
  rcases isP.cases A p1 with ⟨p, rfl, hp, hi⟩ | ⟨hp, hi⟩
  · rw [fi_t hi]
    have e := R.ready (F := 20000) (by omega) G W (by omega) hp
    by_cases hs0 : 0 < ab_slack (oh A * ow A) (ow A) (oa A) p
    · rw [if_pos hs0] at e
      have ev : v_ready A (p : Int) = 1 := by unfold v_ready v_slack; rw [Int.toNat_natCast]; exact if_pos hs0
      rw [ev]
      refine ⟨?_, by unfold i32; omega⟩
      unfold sh_L_ready sh_X8_isReady
      simp (disch := omega) only [rp_in G hp, Option.bind_some, if_true, if_pos, e, zkr_t, zkc_t, if_neg]
      first | rfl | simp
    · rw [if_neg hs0] at e
      have ev : v_ready A (p : Int) = 0 := by unfold v_ready v_slack; rw [Int.toNat_natCast]; exact if_neg hs0
      rw [ev]
      refine ⟨?_, by unfold i32; omega⟩
      unfold sh_L_ready sh_X8_isReady
      simp (disch := omega) only [rp_in G hp, Option.bind_some, if_true, if_pos, e, zkr_t, zkc_t, if_neg]
      first | rfl | simp
  · rw [fi_f hi]
    refine ⟨?_, by unfold i32; omega⟩
    unfold sh_L_ready sh_X8_isReady
    rw [rp_out G h.2 hp, Option.bind_some, if_neg (by decide), Option.bind_some]
    rfl
theorem kq_ready_t {size : Int} {ro co ne nc : Nat → Int} {lim hs bs gs : Int} {bk gr ht dr : Nat → Int} {tl : Int} {sg : Nat → Int} {ol ct : Int} {fl : Nat → Int} {P : Nat → zCv} {A : zO} (O : oREL size ro co ne nc lim hs bs gs bk gr ht dr tl sg ol ct fl P A) (p1 : Int) (h : zOK 90000 A ∧ i32 p1 ∧ ¬ isP A p1) : sh_L_ready 20000 size ne nc lim hs bk ht dr p1 = some ((-101)) ∧ i32 ((-101)) := by
  obtain ⟨G0, R0, HH, SS, TT⟩ := O
  have G : gz_ok (oh A) (ow A) size ro co ne nc := G0
  have R : Rc (oh A * ow A) bk gr ht dr lim hs bs gs (oa A) := R0
  have W : ab_wf (oh A * ow A) (ow A) 90000 (oa A) := h.1.2.2.1
  have hn16 : oh A * ow A ≤ 16 := gz_n16 G.2.1 G.2.2.2.1
  have hw45 : ow A < 5 := by have := G.2.2.2.1; omega
  refine ⟨?_, by unfold i32; omega⟩
  unfold sh_L_ready sh_X8_isReady
  rw [rp_out G h.2.1 h.2.2, Option.bind_some, if_neg (by decide), Option.bind_some]
  rfl
theorem kq_blockers_n {size : Int} {ro co ne nc : Nat → Int} {lim hs bs gs : Int} {bk gr ht dr : Nat → Int} {tl : Int} {sg : Nat → Int} {ol ct : Int} {fl : Nat → Int} {P : Nat → zCv} {A : zO} (O : oREL size ro co ne nc lim hs bs gs bk gr ht dr tl sg ol ct fl P A) (p1 : Int) (h : zOK 90000 A ∧ isP A p1) : sh_L_blockers_n 20000 size ne nc lim dr p1 = some (v_blockers A p1) ∧ i32 (v_blockers A p1) := by
  obtain ⟨G0, R0, HH, SS, TT⟩ := O
  have G : gz_ok (oh A) (ow A) size ro co ne nc := G0
  have R : Rc (oh A * ow A) bk gr ht dr lim hs bs gs (oa A) := R0
  have W : ab_wf (oh A * ow A) (ow A) 90000 (oa A) := h.1.2.2.1
  have hn16 : oh A * ow A ≤ 16 := gz_n16 G.2.1 G.2.2.2.1
  have hw45 : ow A < 5 := by have := G.2.2.2.1; omega
  obtain ⟨p, rfl, hp⟩ := isP.nat h.2
  have e := R.blockers (F := 20000) (by omega) G W (by omega) hp
  have hl := ab_blockers_rng (n := oh A * ow A) (w := ow A) (a := oa A) (p := p) hn16
  unfold v_blockers
  rw [Int.toNat_natCast]
  have hl' : 0 ≤ ab_blockers (onn A) (ow A) (oa A) p ∧ ab_blockers (onn A) (ow A) (oa A) p < 65536 := hl
  refine ⟨?_, by unfold i32; omega⟩
  unfold sh_L_blockers_n sh_X8_blockers_n
  rw [rpn_in G hp, Option.bind_some, e]
  rfl
theorem kq_blockers_x {size : Int} {ro co ne nc : Nat → Int} {lim hs bs gs : Int} {bk gr ht dr : Nat → Int} {tl : Int} {sg : Nat → Int} {ol ct : Int} {fl : Nat → Int} {P : Nat → zCv} {A : zO} (O : oREL size ro co ne nc lim hs bs gs bk gr ht dr tl sg ol ct fl P A) (p1 : Int) (h : zOK 90000 A ∧ i32 p1) : sh_L_blockers 20000 size ne nc lim dr p1 = some (f_blockers A p1) ∧ i32 (f_blockers A p1) := by
  obtain ⟨G0, R0, HH, SS, TT⟩ := O
  have G : gz_ok (oh A) (ow A) size ro co ne nc := G0
  have R : Rc (oh A * ow A) bk gr ht dr lim hs bs gs (oa A) := R0
  have W : ab_wf (oh A * ow A) (ow A) 90000 (oa A) := h.1.2.2.1
  have hn16 : oh A * ow A ≤ 16 := gz_n16 G.2.1 G.2.2.2.1
  have hw45 : ow A < 5 := by have := G.2.2.2.1; omega
  unfold f_blockers
  rcases isP.cases A p1 with ⟨p, rfl, hp, hi⟩ | ⟨hp, hi⟩
  · rw [fi_t hi]
    have e := R.blockers (F := 20000) (by omega) G W (by omega) hp
    have hl := ab_blockers_rng (n := oh A * ow A) (w := ow A) (a := oa A) (p := p) hn16
    have ev : v_blockers A (p : Int) = ab_blockers (oh A * ow A) (ow A) (oa A) p := by unfold v_blockers; rw [Int.toNat_natCast]; rfl
    rw [ev]
    refine ⟨?_, by unfold i32; omega⟩
    unfold sh_L_blockers sh_X8_blockers
    rw [rp_in G hp, Option.bind_some, if_pos rfl, e, Option.bind_some, Option.bind_some]
    rfl
  · rw [fi_f hi]
    refine ⟨?_, by unfold i32; omega⟩
    unfold sh_L_blockers sh_X8_blockers
    rw [rp_out G h.2 hp, Option.bind_some, if_neg (by decide), Option.bind_some]
    rfl
theorem kq_blockers_t {size : Int} {ro co ne nc : Nat → Int} {lim hs bs gs : Int} {bk gr ht dr : Nat → Int} {tl : Int} {sg : Nat → Int} {ol ct : Int} {fl : Nat → Int} {P : Nat → zCv} {A : zO} (O : oREL size ro co ne nc lim hs bs gs bk gr ht dr tl sg ol ct fl P A) (p1 : Int) (h : zOK 90000 A ∧ i32 p1 ∧ ¬ isP A p1) : sh_L_blockers 20000 size ne nc lim dr p1 = some ((-101)) ∧ i32 ((-101)) := by
  obtain ⟨G0, R0, HH, SS, TT⟩ := O
  have G : gz_ok (oh A) (ow A) size ro co ne nc := G0
  have R : Rc (oh A * ow A) bk gr ht dr lim hs bs gs (oa A) := R0
  have W : ab_wf (oh A * ow A) (ow A) 90000 (oa A) := h.1.2.2.1
  have hn16 : oh A * ow A ≤ 16 := gz_n16 G.2.1 G.2.2.2.1
  have hw45 : ow A < 5 := by have := G.2.2.2.1; omega
  refine ⟨?_, by unfold i32; omega⟩
  unfold sh_L_blockers sh_X8_blockers
  rw [rp_out G h.2.1 h.2.2, Option.bind_some, if_neg (by decide), Option.bind_some]
  rfl
theorem kq_slack_n {size : Int} {ro co ne nc : Nat → Int} {lim hs bs gs : Int} {bk gr ht dr : Nat → Int} {tl : Int} {sg : Nat → Int} {ol ct : Int} {fl : Nat → Int} {P : Nat → zCv} {A : zO} (O : oREL size ro co ne nc lim hs bs gs bk gr ht dr tl sg ol ct fl P A) (p1 : Int) (h : zOK 90000 A ∧ isP A p1) : sh_L_slack_n 20000 size ne nc lim hs bk ht dr p1 = some (v_slack A p1) ∧ i32 (v_slack A p1) := by
  obtain ⟨G0, R0, HH, SS, TT⟩ := O
  have G : gz_ok (oh A) (ow A) size ro co ne nc := G0
  have R : Rc (oh A * ow A) bk gr ht dr lim hs bs gs (oa A) := R0
  have W : ab_wf (oh A * ow A) (ow A) 90000 (oa A) := h.1.2.2.1
  have hn16 : oh A * ow A ≤ 16 := gz_n16 G.2.1 G.2.2.2.1
  have hw45 : ow A < 5 := by have := G.2.2.2.1; omega
  obtain ⟨p, rfl, hp⟩ := isP.nat h.2
  have e := R.slack (F := 20000) (by omega) G W (by omega) hp
  have hl := ab_slack_rng W hp
  unfold v_slack
  rw [Int.toNat_natCast]
  have hl' : 0 ≤ ab_slack (onn A) (ow A) (oa A) p ∧ ab_slack (onn A) (ow A) (oa A) p ≤ 54 := hl
  refine ⟨?_, by unfold i32; omega⟩
  unfold sh_L_slack_n sh_X8_slack_n
  rw [rpn_in G hp, Option.bind_some, e]
  rfl
theorem kq_slack_x {size : Int} {ro co ne nc : Nat → Int} {lim hs bs gs : Int} {bk gr ht dr : Nat → Int} {tl : Int} {sg : Nat → Int} {ol ct : Int} {fl : Nat → Int} {P : Nat → zCv} {A : zO} (O : oREL size ro co ne nc lim hs bs gs bk gr ht dr tl sg ol ct fl P A) (p1 : Int) (h : zOK 90000 A ∧ i32 p1) : sh_L_slack 20000 size ne nc lim hs bk ht dr p1 = some (f_slack A p1) ∧ i32 (f_slack A p1) := by
  obtain ⟨G0, R0, HH, SS, TT⟩ := O
  have G : gz_ok (oh A) (ow A) size ro co ne nc := G0
  have R : Rc (oh A * ow A) bk gr ht dr lim hs bs gs (oa A) := R0
  have W : ab_wf (oh A * ow A) (ow A) 90000 (oa A) := h.1.2.2.1
  have hn16 : oh A * ow A ≤ 16 := gz_n16 G.2.1 G.2.2.2.1
  have hw45 : ow A < 5 := by have := G.2.2.2.1; omega
  unfold f_slack
  rcases isP.cases A p1 with ⟨p, rfl, hp, hi⟩ | ⟨hp, hi⟩
  · rw [fi_t hi]
    have e := R.slack (F := 20000) (by omega) G W (by omega) hp
    have hl := ab_slack_rng W hp
    have ev : v_slack A (p : Int) = ab_slack (oh A * ow A) (ow A) (oa A) p := by unfold v_slack; rw [Int.toNat_natCast]; rfl
    rw [ev]
    refine ⟨?_, by unfold i32; omega⟩
    unfold sh_L_slack sh_X8_slack
    rw [rp_in G hp, Option.bind_some, if_pos rfl, e, Option.bind_some, Option.bind_some]
    rfl
  · rw [fi_f hi]
    refine ⟨?_, by unfold i32; omega⟩
    unfold sh_L_slack sh_X8_slack
    rw [rp_out G h.2 hp, Option.bind_some, if_neg (by decide), Option.bind_some]
    rfl
theorem kq_slack_t {size : Int} {ro co ne nc : Nat → Int} {lim hs bs gs : Int} {bk gr ht dr : Nat → Int} {tl : Int} {sg : Nat → Int} {ol ct : Int} {fl : Nat → Int} {P : Nat → zCv} {A : zO} (O : oREL size ro co ne nc lim hs bs gs bk gr ht dr tl sg ol ct fl P A) (p1 : Int) (h : zOK 90000 A ∧ i32 p1 ∧ ¬ isP A p1) : sh_L_slack 20000 size ne nc lim hs bk ht dr p1 = some ((-101)) ∧ i32 ((-101)) := by
  obtain ⟨G0, R0, HH, SS, TT⟩ := O
  have G : gz_ok (oh A) (ow A) size ro co ne nc := G0
  have R : Rc (oh A * ow A) bk gr ht dr lim hs bs gs (oa A) := R0
  have W : ab_wf (oh A * ow A) (ow A) 90000 (oa A) := h.1.2.2.1
  have hn16 : oh A * ow A ≤ 16 := gz_n16 G.2.1 G.2.2.2.1
  have hw45 : ow A < 5 := by have := G.2.2.2.1; omega
  refine ⟨?_, by unfold i32; omega⟩
  unfold sh_L_slack sh_X8_slack
  rw [rp_out G h.2.1 h.2.2, Option.bind_some, if_neg (by decide), Option.bind_some]
  rfl
theorem kq_bucketsFor_n {size : Int} {ro co ne nc : Nat → Int} {lim hs bs gs : Int} {bk gr ht dr : Nat → Int} {tl : Int} {sg : Nat → Int} {ol ct : Int} {fl : Nat → Int} {P : Nat → zCv} {A : zO} (O : oREL size ro co ne nc lim hs bs gs bk gr ht dr tl sg ol ct fl P A) (p1 : Int) (p2 : Int) (h : zOK 90000 A ∧ isP A p1 ∧ 1 ≤ p2 ∧ p2 ≤ 54) : sh_L_bucketsFor_n 20000 size ro co lim hs bk ht dr p1 p2 = some (v_few A p1 p2) ∧ i32 (v_few A p1 p2) := by
  obtain ⟨G0, R0, HH, SS, TT⟩ := O
  have G : gz_ok (oh A) (ow A) size ro co ne nc := G0
  have R : Rc (oh A * ow A) bk gr ht dr lim hs bs gs (oa A) := R0
  have W : ab_wf (oh A * ow A) (ow A) 90000 (oa A) := h.1.2.2.1
  have hn16 : oh A * ow A ≤ 16 := gz_n16 G.2.1 G.2.2.2.1
  have hw45 : ow A < 5 := by have := G.2.2.2.1; omega
  obtain ⟨p, rfl, hp⟩ := isP.nat h.2.1
  have h2 := h.2.2
  have e := R.few (F := 20000) (by omega) G W (by omega) hp (k := p2) (by omega)
  have hl := ab_fewest_rng W (by omega) hn16 (k := p2) hp
  unfold v_few
  rw [Int.toNat_natCast]
  have hl' : -9 ≤ ab_fewest (onn A) (ow A) (oa A) p p2 ∧ ab_fewest (onn A) (ow A) (oa A) p p2 ≤ 960 := hl
  refine ⟨?_, by unfold i32; omega⟩
  unfold sh_L_bucketsFor_n sh_X8_bucketsFor_n
  rw [rpn_in G hp, Option.bind_some, rrn_in (F := 20000) (x := p2) (lo := 1) (hi := 54) (by decide) (by decide) h2, Option.bind_some, e]
  rfl
theorem kq_bucketsFor_x {size : Int} {ro co ne nc : Nat → Int} {lim hs bs gs : Int} {bk gr ht dr : Nat → Int} {tl : Int} {sg : Nat → Int} {ol ct : Int} {fl : Nat → Int} {P : Nat → zCv} {A : zO} (O : oREL size ro co ne nc lim hs bs gs bk gr ht dr tl sg ol ct fl P A) (p1 : Int) (p2 : Int) (h : zOK 90000 A ∧ i32 p1 ∧ i32 p2) : sh_L_bucketsFor 20000 size ro co lim hs bk ht dr p1 p2 = some (f_bucketsFor A p1 p2) ∧ i32 (f_bucketsFor A p1 p2) := by
  obtain ⟨G0, R0, HH, SS, TT⟩ := O
  have G : gz_ok (oh A) (ow A) size ro co ne nc := G0
  have R : Rc (oh A * ow A) bk gr ht dr lim hs bs gs (oa A) := R0
  have W : ab_wf (oh A * ow A) (ow A) 90000 (oa A) := h.1.2.2.1
  have hn16 : oh A * ow A ≤ 16 := gz_n16 G.2.1 G.2.2.2.1
  have hw45 : ow A < 5 := by have := G.2.2.2.1; omega
  unfold f_bucketsFor
  rcases isP.cases A p1 with ⟨p, rfl, hp, hi⟩ | ⟨hp, hi⟩
  · rw [fi_t hi]
    by_cases hk : 1 ≤ p2 ∧ p2 ≤ 54
    · rw [if_pos hk]
      have e := R.few (F := 20000) (by omega) G W (by omega) hp (k := p2) (by omega)
      have hl := ab_fewest_rng W (by omega) hn16 (k := p2) hp
      have ev : v_few A (p : Int) p2 = ab_fewest (oh A * ow A) (ow A) (oa A) p p2 := by unfold v_few; rw [Int.toNat_natCast]; try rfl
      rw [ev]
      refine ⟨?_, by unfold i32; omega⟩
      unfold sh_L_bucketsFor sh_X8_bucketsFor
      rw [rp_in G hp, Option.bind_some, if_pos rfl, rr_in (F := 20000) (x := p2) (lo := 1) (hi := 54) (by decide) (by decide) hk, Option.bind_some, if_pos rfl, e, Option.bind_some, Option.bind_some]
      rfl
    · rw [if_neg hk]
      refine ⟨?_, by unfold i32; omega⟩
      unfold sh_L_bucketsFor sh_X8_bucketsFor
      rw [rp_in G hp, Option.bind_some, if_pos rfl, rr_out (F := 20000) (x := p2) (lo := 1) (hi := 54) (by decide) (by decide) h.2.2 hk, Option.bind_some, if_neg (by decide), Option.bind_some]
      rfl
  · rw [fi_f hi]
    refine ⟨?_, by unfold i32; omega⟩
    unfold sh_L_bucketsFor sh_X8_bucketsFor
    rw [rp_out G h.2.1 hp, Option.bind_some, if_neg (by decide), Option.bind_some]
    rfl
theorem kq_bucketsFor_t {size : Int} {ro co ne nc : Nat → Int} {lim hs bs gs : Int} {bk gr ht dr : Nat → Int} {tl : Int} {sg : Nat → Int} {ol ct : Int} {fl : Nat → Int} {P : Nat → zCv} {A : zO} (O : oREL size ro co ne nc lim hs bs gs bk gr ht dr tl sg ol ct fl P A) (p1 : Int) (p2 : Int) (h : zOK 90000 A ∧ i32 p1 ∧ i32 p2 ∧ ¬ (isP A p1 ∧ 1 ≤ p2 ∧ p2 ≤ 54)) : sh_L_bucketsFor 20000 size ro co lim hs bk ht dr p1 p2 = some ((fi (isP A p1) (-102) (-101))) ∧ i32 ((fi (isP A p1) (-102) (-101))) := by
  obtain ⟨G0, R0, HH, SS, TT⟩ := O
  have G : gz_ok (oh A) (ow A) size ro co ne nc := G0
  have R : Rc (oh A * ow A) bk gr ht dr lim hs bs gs (oa A) := R0
  have W : ab_wf (oh A * ow A) (ow A) 90000 (oa A) := h.1.2.2.1
  have hn16 : oh A * ow A ≤ 16 := gz_n16 G.2.1 G.2.2.2.1
  have hw45 : ow A < 5 := by have := G.2.2.2.1; omega
  rcases isP.cases A p1 with ⟨p, rfl, hp, hi⟩ | ⟨hp, hi⟩
  · rw [fi_t hi]
    refine ⟨?_, by unfold i32; omega⟩
    unfold sh_L_bucketsFor sh_X8_bucketsFor
    rw [rp_in G hp, Option.bind_some, if_pos rfl, rr_out (F := 20000) (x := p2) (lo := 1) (hi := 54) (by decide) (by decide) h.2.2.1 (fun z => h.2.2.2 ⟨hi, z⟩), Option.bind_some, if_neg (by decide), Option.bind_some]
    rfl
  · rw [fi_f hi]
    refine ⟨?_, by unfold i32; omega⟩
    unfold sh_L_bucketsFor sh_X8_bucketsFor
    rw [rp_out G h.2.1 hp, Option.bind_some, if_neg (by decide), Option.bind_some]
    rfl
theorem kq_most_n {size : Int} {ro co ne nc : Nat → Int} {lim hs bs gs : Int} {bk gr ht dr : Nat → Int} {tl : Int} {sg : Nat → Int} {ol ct : Int} {fl : Nat → Int} {P : Nat → zCv} {A : zO} (O : oREL size ro co ne nc lim hs bs gs bk gr ht dr tl sg ol ct fl P A) (p1 : Int) (h : zOK 90000 A ∧ isP A p1) : sh_L_most_n 20000 size ro co lim hs bk ht dr p1 = some (v_most A p1) ∧ i32 (v_most A p1) := by
  obtain ⟨G0, R0, HH, SS, TT⟩ := O
  have G : gz_ok (oh A) (ow A) size ro co ne nc := G0
  have R : Rc (oh A * ow A) bk gr ht dr lim hs bs gs (oa A) := R0
  have W : ab_wf (oh A * ow A) (ow A) 90000 (oa A) := h.1.2.2.1
  have hn16 : oh A * ow A ≤ 16 := gz_n16 G.2.1 G.2.2.2.1
  have hw45 : ow A < 5 := by have := G.2.2.2.1; omega
  obtain ⟨p, rfl, hp⟩ := isP.nat h.2
  have e := R.most (F := 20000) (by omega) G W (by omega) hp
  have hl := ab_most_rng (oh A * ow A) (ow A) (oa A) p 54 0
  unfold v_most
  rw [Int.toNat_natCast]
  have hl' : 0 ≤ ab_most (onn A) (ow A) (oa A) p 54 0 ∧ ab_most (onn A) (ow A) (oa A) p 54 0 ≤ ((0 + 54 : Nat) : Int) := hl
  refine ⟨?_, by unfold i32; omega⟩
  unfold sh_L_most_n sh_X8_mostFrom_n
  rw [rpn_in G hp, Option.bind_some, e]
  rfl
theorem kq_most_x {size : Int} {ro co ne nc : Nat → Int} {lim hs bs gs : Int} {bk gr ht dr : Nat → Int} {tl : Int} {sg : Nat → Int} {ol ct : Int} {fl : Nat → Int} {P : Nat → zCv} {A : zO} (O : oREL size ro co ne nc lim hs bs gs bk gr ht dr tl sg ol ct fl P A) (p1 : Int) (h : zOK 90000 A ∧ i32 p1) : sh_L_most 20000 size ro co lim hs bk ht dr p1 = some (f_most A p1) ∧ i32 (f_most A p1) := by
  obtain ⟨G0, R0, HH, SS, TT⟩ := O
  have G : gz_ok (oh A) (ow A) size ro co ne nc := G0
  have R : Rc (oh A * ow A) bk gr ht dr lim hs bs gs (oa A) := R0
  have W : ab_wf (oh A * ow A) (ow A) 90000 (oa A) := h.1.2.2.1
  have hn16 : oh A * ow A ≤ 16 := gz_n16 G.2.1 G.2.2.2.1
  have hw45 : ow A < 5 := by have := G.2.2.2.1; omega
  unfold f_most
  rcases isP.cases A p1 with ⟨p, rfl, hp, hi⟩ | ⟨hp, hi⟩
  · rw [fi_t hi]
    have e := R.most (F := 20000) (by omega) G W (by omega) hp
    have hl := ab_most_rng (oh A * ow A) (ow A) (oa A) p 54 0
    have ev : v_most A (p : Int) = ab_most (oh A * ow A) (ow A) (oa A) p 54 0 := by unfold v_most; rw [Int.toNat_natCast]; rfl
    rw [ev]
    refine ⟨?_, by unfold i32; omega⟩
    unfold sh_L_most sh_X8_mostFrom
    rw [rp_in G hp, Option.bind_some, if_pos rfl, e, Option.bind_some, Option.bind_some]
    rfl
  · rw [fi_f hi]
    refine ⟨?_, by unfold i32; omega⟩
    unfold sh_L_most sh_X8_mostFrom
    rw [rp_out G h.2 hp, Option.bind_some, if_neg (by decide), Option.bind_some]
    rfl
theorem kq_most_t {size : Int} {ro co ne nc : Nat → Int} {lim hs bs gs : Int} {bk gr ht dr : Nat → Int} {tl : Int} {sg : Nat → Int} {ol ct : Int} {fl : Nat → Int} {P : Nat → zCv} {A : zO} (O : oREL size ro co ne nc lim hs bs gs bk gr ht dr tl sg ol ct fl P A) (p1 : Int) (h : zOK 90000 A ∧ i32 p1 ∧ ¬ isP A p1) : sh_L_most 20000 size ro co lim hs bk ht dr p1 = some ((-101)) ∧ i32 ((-101)) := by
  obtain ⟨G0, R0, HH, SS, TT⟩ := O
  have G : gz_ok (oh A) (ow A) size ro co ne nc := G0
  have R : Rc (oh A * ow A) bk gr ht dr lim hs bs gs (oa A) := R0
  have W : ab_wf (oh A * ow A) (ow A) 90000 (oa A) := h.1.2.2.1
  have hn16 : oh A * ow A ≤ 16 := gz_n16 G.2.1 G.2.2.2.1
  have hw45 : ow A < 5 := by have := G.2.2.2.1; omega
  refine ⟨?_, by unfold i32; omega⟩
  unfold sh_L_most sh_X8_mostFrom
  rw [rp_out G h.2.1 h.2.2, Option.bind_some, if_neg (by decide), Option.bind_some]
  rfl
theorem kq_pointCount_d {size : Int} {ro co ne nc : Nat → Int} {lim hs bs gs : Int} {bk gr ht dr : Nat → Int} {tl : Int} {sg : Nat → Int} {ol ct : Int} {fl : Nat → Int} {P : Nat → zCv} {A : zO} (O : oREL size ro co ne nc lim hs bs gs bk gr ht dr tl sg ol ct fl P A) (h : zOK 90000 A) : sh_X8_pointCount_w 20000 size = some (((onn A : Nat) : Int)) ∧ i32 (((onn A : Nat) : Int)) := by
  obtain ⟨G0, R0, HH, SS, TT⟩ := O
  have G : gz_ok (oh A) (ow A) size ro co ne nc := G0
  have R : Rc (oh A * ow A) bk gr ht dr lim hs bs gs (oa A) := R0
  have W : ab_wf (oh A * ow A) (ow A) 90000 (oa A) := h.2.2.1
  have hn16 : oh A * ow A ≤ 16 := gz_n16 G.2.1 G.2.2.2.1
  have hw45 : ow A < 5 := by have := G.2.2.2.1; omega
  have e := G.2.2.2.2.1
  refine ⟨?_, by unfold i32 onn; omega⟩
  unfold sh_X8_pointCount_w sh_X2_size
  rw [Option.bind_some, e]
  rfl
theorem kq_bound_d {size : Int} {ro co ne nc : Nat → Int} {lim hs bs gs : Int} {bk gr ht dr : Nat → Int} {tl : Int} {sg : Nat → Int} {ol ct : Int} {fl : Nat → Int} {P : Nat → zCv} {A : zO} (O : oREL size ro co ne nc lim hs bs gs bk gr ht dr tl sg ol ct fl P A) (h : zOK 90000 A) : sh_X8_bound_w 20000 lim = some (ab_lim (oa A)) ∧ i32 (ab_lim (oa A)) := by
  obtain ⟨G0, R0, HH, SS, TT⟩ := O
  have G : gz_ok (oh A) (ow A) size ro co ne nc := G0
  have R : Rc (oh A * ow A) bk gr ht dr lim hs bs gs (oa A) := R0
  have W : ab_wf (oh A * ow A) (ow A) 90000 (oa A) := h.2.2.1
  have hn16 : oh A * ow A ≤ 16 := gz_n16 G.2.1 G.2.2.2.1
  have hw45 : ow A < 5 := by have := G.2.2.2.1; omega
  have e := R.2.2.1
  have w1 := W.2.2.1
  refine ⟨?_, by unfold i32; omega⟩
  unfold sh_X8_bound_w sh_X0_limit
  rw [Option.bind_some, e]
theorem kq_totalBuckets_d {size : Int} {ro co ne nc : Nat → Int} {lim hs bs gs : Int} {bk gr ht dr : Nat → Int} {tl : Int} {sg : Nat → Int} {ol ct : Int} {fl : Nat → Int} {P : Nat → zCv} {A : zO} (O : oREL size ro co ne nc lim hs bs gs bk gr ht dr tl sg ol ct fl P A) (h : zOK 90000 A) : sh_X8_totalBuckets_w 20000 bs = some (ab_bs (oa A)) ∧ i32 (ab_bs (oa A)) := by
  obtain ⟨G0, R0, HH, SS, TT⟩ := O
  have G : gz_ok (oh A) (ow A) size ro co ne nc := G0
  have R : Rc (oh A * ow A) bk gr ht dr lim hs bs gs (oa A) := R0
  have W : ab_wf (oh A * ow A) (ow A) 90000 (oa A) := h.2.2.1
  have hn16 : oh A * ow A ≤ 16 := gz_n16 G.2.1 G.2.2.2.1
  have hw45 : ow A < 5 := by have := G.2.2.2.1; omega
  have e := R.2.2.2.1
  have w1 := W.2.2.2.1
  refine ⟨?_, by unfold i32; omega⟩
  unfold sh_X8_totalBuckets_w sh_X0_bucketSum
  rw [Option.bind_some, e]
theorem kq_totalGrade_d {size : Int} {ro co ne nc : Nat → Int} {lim hs bs gs : Int} {bk gr ht dr : Nat → Int} {tl : Int} {sg : Nat → Int} {ol ct : Int} {fl : Nat → Int} {P : Nat → zCv} {A : zO} (O : oREL size ro co ne nc lim hs bs gs bk gr ht dr tl sg ol ct fl P A) (h : zOK 90000 A) : sh_X8_totalGrade_w 20000 gs = some (ab_gs (oa A)) ∧ i32 (ab_gs (oa A)) := by
  obtain ⟨G0, R0, HH, SS, TT⟩ := O
  have G : gz_ok (oh A) (ow A) size ro co ne nc := G0
  have R : Rc (oh A * ow A) bk gr ht dr lim hs bs gs (oa A) := R0
  have W : ab_wf (oh A * ow A) (ow A) 90000 (oa A) := h.2.2.1
  have hn16 : oh A * ow A ≤ 16 := gz_n16 G.2.1 G.2.2.2.1
  have hw45 : ow A < 5 := by have := G.2.2.2.1; omega
  have e := R.2.2.2.2
  have w1 := W.2.2.2.2
  refine ⟨?_, by unfold i32; omega⟩
  unfold sh_X8_totalGrade_w sh_X0_gradeSum
  rw [Option.bind_some, e]
theorem kq_errorPosition_d {size : Int} {ro co ne nc : Nat → Int} {lim hs bs gs : Int} {bk gr ht dr : Nat → Int} {tl : Int} {sg : Nat → Int} {ol ct : Int} {fl : Nat → Int} {P : Nat → zCv} {A : zO} (O : oREL size ro co ne nc lim hs bs gs bk gr ht dr tl sg ol ct fl P A) (h : zOK 90000 A) : sh_X8_errorPosition_w 20000 tl sg = some (v_err A) ∧ i32 (v_err A) := by
  obtain ⟨G0, R0, HH, SS, TT⟩ := O
  have G : gz_ok (oh A) (ow A) size ro co ne nc := G0
  have R : Rc (oh A * ow A) bk gr ht dr lim hs bs gs (oa A) := R0
  have W : ab_wf (oh A * ow A) (ow A) 90000 (oa A) := h.2.2.1
  have hn16 : oh A * ow A ≤ 16 := gz_n16 G.2.1 G.2.2.2.1
  have hw45 : ow A < 5 := by have := G.2.2.2.1; omega
  obtain ⟨t1, t2, t3⟩ := oTX.ok TT
  have e1 := c_findError (F := 20000) (by omega) t2
  rw [tx_cg t3] at e1
  have rg := tx_err_rng (s := oS A) TT.2.1
  have e0 := TT.1
  subst e0
  refine ⟨?_, by unfold i32 v_err; omega⟩
  unfold sh_X8_errorPosition_w
  rw [e1, Option.bind_some]
  rfl
theorem kq_nextByOrder_d {size : Int} {ro co ne nc : Nat → Int} {lim hs bs gs : Int} {bk gr ht dr : Nat → Int} {tl : Int} {sg : Nat → Int} {ol ct : Int} {fl : Nat → Int} {P : Nat → zCv} {A : zO} (O : oREL size ro co ne nc lim hs bs gs bk gr ht dr tl sg ol ct fl P A) (h : zOK 90000 A) : sh_X8_nextByOrder_w 20000 size ne nc lim hs bk gr ht dr = some (v_next A) ∧ i32 (v_next A) := by
  obtain ⟨G0, R0, HH, SS, TT⟩ := O
  have G : gz_ok (oh A) (ow A) size ro co ne nc := G0
  have R : Rc (oh A * ow A) bk gr ht dr lim hs bs gs (oa A) := R0
  have W : ab_wf (oh A * ow A) (ow A) 90000 (oa A) := h.2.2.1
  have hn16 : oh A * ow A ≤ 16 := gz_n16 G.2.1 G.2.2.2.1
  have hw45 : ow A < 5 := by have := G.2.2.2.1; omega
  have e := R.next (F := 20000) (by omega) G W (by omega)
  have rg : -9 ≤ ab_next (oh A * ow A) (ow A) (oa A) ∧ ab_next (oh A * ow A) (ow A) (oa A) ≤ 16 := by rcases ab_next_rng (oh A * ow A) (ow A) (oa A) with z | ⟨p, z1, z2, -⟩ <;> omega
  unfold v_next
  have rg' : -9 ≤ ab_next (onn A) (ow A) (oa A) ∧ ab_next (onn A) (ow A) (oa A) ≤ 16 := rg
  refine ⟨?_, by unfold i32; omega⟩
  unfold sh_X8_nextByOrder_w
  rw [e, Option.bind_some]
  rfl
theorem kq_waste_x {size : Int} {ro co ne nc : Nat → Int} {lim hs bs gs : Int} {bk gr ht dr : Nat → Int} {tl : Int} {sg : Nat → Int} {ol ct : Int} {fl : Nat → Int} {P : Nat → zCv} {A : zO} (O : oREL size ro co ne nc lim hs bs gs bk gr ht dr tl sg ol ct fl P A) (p1 : Int) (p2 : Int) (h : zOK 90000 A ∧ i32 p1 ∧ i32 p2) : sh_L_waste 20000 size bk gr ht p1 p2 = some (f_waste A p1 p2) ∧ i32 (f_waste A p1 p2) := by
  obtain ⟨G0, R0, HH, SS, TT⟩ := O
  have G : gz_ok (oh A) (ow A) size ro co ne nc := G0
  have R : Rc (oh A * ow A) bk gr ht dr lim hs bs gs (oa A) := R0
  have W : ab_wf (oh A * ow A) (ow A) 90000 (oa A) := h.1.2.2.1
  have hn16 : oh A * ow A ≤ 16 := gz_n16 G.2.1 G.2.2.2.1
  have hw45 : ow A < 5 := by have := G.2.2.2.1; omega
  unfold f_waste
  rcases isP.cases A p1 with ⟨p, rfl, hp, hi⟩ | ⟨hp, hi⟩
  · rw [fi_t hi]
    by_cases hk : 1 ≤ p2 ∧ p2 ≤ 9
    · rw [if_pos hk]
      have e := R.waste (F := 20000) (by omega) W hn16 hp (g := p2) (by omega)
      have hl := ab_waste_rng p2 (ab_col (oa A) p) 0 (W.1 p hp).1.2 (by decide)
      have hl2 := ab_left_rng (W.1 p hp).1
      have ev : v_waste A (p : Int) p2 = ab_waste (ab_col (oa A) p) p2 0 := by unfold v_waste; rw [Int.toNat_natCast]; try rfl
      rw [ev]
      refine ⟨?_, by unfold i32; omega⟩
      unfold sh_L_waste sh_X8_bucketsToWaste
      rw [rp_in G hp, Option.bind_some, if_pos rfl, rr_in (F := 20000) (x := p2) (lo := 1) (hi := 9) (by decide) (by decide) hk, Option.bind_some, if_pos rfl, e, Option.bind_some, Option.bind_some]
      rfl
    · rw [if_neg hk]
      refine ⟨?_, by unfold i32; omega⟩
      unfold sh_L_waste sh_X8_bucketsToWaste
      rw [rp_in G hp, Option.bind_some, if_pos rfl, rr_out (F := 20000) (x := p2) (lo := 1) (hi := 9) (by decide) (by decide) h.2.2 hk, Option.bind_some, if_neg (by decide), Option.bind_some]
      rfl
  · rw [fi_f hi]
    refine ⟨?_, by unfold i32; omega⟩
    unfold sh_L_waste sh_X8_bucketsToWaste
    rw [rp_out G h.2.1 hp, Option.bind_some, if_neg (by decide), Option.bind_some]
    rfl
theorem kq_waste_t {size : Int} {ro co ne nc : Nat → Int} {lim hs bs gs : Int} {bk gr ht dr : Nat → Int} {tl : Int} {sg : Nat → Int} {ol ct : Int} {fl : Nat → Int} {P : Nat → zCv} {A : zO} (O : oREL size ro co ne nc lim hs bs gs bk gr ht dr tl sg ol ct fl P A) (p1 : Int) (p2 : Int) (h : zOK 90000 A ∧ i32 p1 ∧ i32 p2 ∧ ¬ (isP A p1 ∧ 1 ≤ p2 ∧ p2 ≤ 9)) : sh_L_waste 20000 size bk gr ht p1 p2 = some ((fi (isP A p1) (-102) (-101))) ∧ i32 ((fi (isP A p1) (-102) (-101))) := by
  obtain ⟨G0, R0, HH, SS, TT⟩ := O
  have G : gz_ok (oh A) (ow A) size ro co ne nc := G0
  have R : Rc (oh A * ow A) bk gr ht dr lim hs bs gs (oa A) := R0
  have W : ab_wf (oh A * ow A) (ow A) 90000 (oa A) := h.1.2.2.1
  have hn16 : oh A * ow A ≤ 16 := gz_n16 G.2.1 G.2.2.2.1
  have hw45 : ow A < 5 := by have := G.2.2.2.1; omega
  rcases isP.cases A p1 with ⟨p, rfl, hp, hi⟩ | ⟨hp, hi⟩
  · rw [fi_t hi]
    refine ⟨?_, by unfold i32; omega⟩
    unfold sh_L_waste sh_X8_bucketsToWaste
    rw [rp_in G hp, Option.bind_some, if_pos rfl, rr_out (F := 20000) (x := p2) (lo := 1) (hi := 9) (by decide) (by decide) h.2.2.1 (fun z => h.2.2.2 ⟨hi, z⟩), Option.bind_some, if_neg (by decide), Option.bind_some]
    rfl
  · rw [fi_f hi]
    refine ⟨?_, by unfold i32; omega⟩
    unfold sh_L_waste sh_X8_bucketsToWaste
    rw [rp_out G h.2.1 hp, Option.bind_some, if_neg (by decide), Option.bind_some]
    rfl
