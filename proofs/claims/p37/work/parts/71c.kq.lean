/-! MORE OF WHAT THE CLASS ANSWERS -/
theorem kq_clearText_d {size : Int} {ro co ne nc : Nat → Int} {lim hs bs gs : Int} {bk gr ht dr : Nat → Int} {tl : Int} {sg : Nat → Int} {ol ct : Int} {fl : Nat → Int} {P : Nat → zCv} {A : zO} (O : oREL size ro co ne nc lim hs bs gs bk gr ht dr tl sg ol ct fl P A) (h : zOK 90000 A) : ∃ res : Int × Int, sh_X8_clearText_w 20000 tl = some res ∧ res.1 = ((oL A : Nat) : Int) ∧ i32 (((oL A : Nat) : Int)) ∧ oREL size ro co ne nc lim hs bs gs bk gr ht dr res.2 sg ol ct fl P (s_text A 0 (oS A)) := by
  obtain ⟨G0, R0, HH, SS, TT⟩ := O
  have G : gz_ok (oh A) (ow A) size ro co ne nc := G0
  have R : Rc (oh A * ow A) bk gr ht dr lim hs bs gs (oa A) := R0
  have W : ab_wf (oh A * ow A) (ow A) 90000 (oa A) := h.2.2.1
  have hn16 : oh A * ow A ≤ 16 := gz_n16 G.2.1 G.2.2.2.1
  have hw45 : ow A < 5 := by have := G.2.2.2.1; omega
  obtain ⟨rfl, hL, hT⟩ := TT
  refine ⟨(((oL A : Nat) : Int), 0), ?_, rfl, by unfold i32; omega, G0, R0, HH, SS, rfl, by show 0 ≤ 120; omega, fun j hj => absurd hj (Nat.not_lt_zero _)⟩
  unfold sh_X8_clearText_w sh_X1_clear
  first | rfl | simp (disch := omega) only [Option.bind_some, zkr_t]
theorem kq_append_n {size : Int} {ro co ne nc : Nat → Int} {lim hs bs gs : Int} {bk gr ht dr : Nat → Int} {tl : Int} {sg : Nat → Int} {ol ct : Int} {fl : Nat → Int} {P : Nat → zCv} {A : zO} (O : oREL size ro co ne nc lim hs bs gs bk gr ht dr tl sg ol ct fl P A) (p1 : Int) (h : zOK 90000 A ∧ oL A < 120 ∧ 0 ≤ p1 ∧ p1 ≤ 255) : ∃ res : Int × Int × (Nat → Int), sh_L_append_n 20000 tl sg p1 = some res ∧ res.1 = (((oL A : Nat) : Int) + 1) ∧ i32 ((((oL A : Nat) : Int) + 1)) ∧ oREL size ro co ne nc lim hs bs gs bk gr ht dr res.2.1 res.2.2 ol ct fl P (s_append A p1) := by
  obtain ⟨G0, R0, HH, SS, TT⟩ := O
  have G : gz_ok (oh A) (ow A) size ro co ne nc := G0
  have R : Rc (oh A * ow A) bk gr ht dr lim hs bs gs (oa A) := R0
  have W : ab_wf (oh A * ow A) (ow A) 90000 (oa A) := h.1.2.2.1
  have hn16 : oh A * ow A ≤ 16 := gz_n16 G.2.1 G.2.2.2.1
  have hw45 : ow A < 5 := by have := G.2.2.2.1; omega
  obtain ⟨rfl, hL, hT⟩ := TT
  have h2 := h.2
  refine ⟨(((oL A : Nat) : Int) + 1, ((oL A : Nat) : Int) + 1, va_up sg (oL A) p1), ?_, rfl, by unfold i32; omega, G0, R0, HH, SS, rfl, by show oL A + 1 ≤ 120; omega, fun j hj => ?_⟩
  · unfold sh_L_append_n sh_X8_append_n sh_X1_isFull sh_X1_put
    rw [rrn_in (F := 20000) (x := p1) (lo := 0) (hi := 255) (by decide) (by decide) h2.2, Option.bind_some, zkr_t (by omega) (by omega), if_pos (by omega), Option.bind_some, zkr_t (by decide) (by decide), if_pos rfl, zkc_t (by omega), zkx_t (by omega) (by omega), ix_n, zkr_t (by omega) (by omega), if_pos (by omega), Option.bind_some, Option.bind_some]
    all_goals rfl
  · show va_up sg (oL A) p1 j = va_up (oS A) (oL A) p1 j ∧ 0 ≤ va_up (oS A) (oL A) p1 j ∧ va_up (oS A) (oL A) p1 j ≤ 255
    have hj : j < oL A + 1 := hj
    by_cases e : j = oL A
    · rw [e, up_s, up_s]; exact ⟨rfl, h2.2⟩
    · rw [up_n _ _ _ e, up_n _ _ _ e]; exact hT j (by omega)
theorem kq_append_t {size : Int} {ro co ne nc : Nat → Int} {lim hs bs gs : Int} {bk gr ht dr : Nat → Int} {tl : Int} {sg : Nat → Int} {ol ct : Int} {fl : Nat → Int} {P : Nat → zCv} {A : zO} (O : oREL size ro co ne nc lim hs bs gs bk gr ht dr tl sg ol ct fl P A) (p1 : Int) (h : zOK 90000 A ∧ i32 p1 ∧ ¬ (0 ≤ p1 ∧ p1 ≤ 255)) : ∃ res : Int × Int × (Nat → Int), sh_L_append 20000 tl sg p1 = some res ∧ res.1 = (-102) ∧ i32 ((-102)) ∧ oREL size ro co ne nc lim hs bs gs bk gr ht dr res.2.1 res.2.2 ol ct fl P A := by
  obtain ⟨G0, R0, HH, SS, TT⟩ := O
  have G : gz_ok (oh A) (ow A) size ro co ne nc := G0
  have R : Rc (oh A * ow A) bk gr ht dr lim hs bs gs (oa A) := R0
  have W : ab_wf (oh A * ow A) (ow A) 90000 (oa A) := h.1.2.2.1
  have hn16 : oh A * ow A ≤ 16 := gz_n16 G.2.1 G.2.2.2.1
  have hw45 : ow A < 5 := by have := G.2.2.2.1; omega
  refine ⟨(-102, tl, sg), ?_, rfl, (show i32 (-102) from ⟨by decide, by decide⟩), G0, R0, HH, SS, TT⟩
  unfold sh_L_append sh_X8_append
  rw [rr_out (F := 20000) (x := p1) (lo := 0) (hi := 255) (by decide) (by decide) h.2.1 h.2.2, Option.bind_some, if_neg (by decide), Option.bind_some]
  rfl
theorem kq_draw_n {size : Int} {ro co ne nc : Nat → Int} {lim hs bs gs : Int} {bk gr ht dr : Nat → Int} {tl : Int} {sg : Nat → Int} {ol ct : Int} {fl : Nat → Int} {P : Nat → zCv} {A : zO} (O : oREL size ro co ne nc lim hs bs gs bk gr ht dr tl sg ol ct fl P A) (p1 : Int) (h : zOK 90000 A ∧ isP A p1 ∧ 0 < v_slack A p1) : ∃ res : Int × Int × Int × (Nat → Int) × (Nat → Int) × (Nat → Int) × (Nat → Int) × Int × Int × (Nat → zCv), sh_L_draw_n 20000 size ne nc lim hs bs gs bk gr ht dr ol ct P p1 = some res ∧ res.1 = ab_grade (ab_col (oa A) p1.toNat) 0 ∧ i32 (ab_grade (ab_col (oa A) p1.toNat) 0) ∧ oREL size ro co ne nc lim hs res.2.1 res.2.2.1 res.2.2.2.1 res.2.2.2.2.1 res.2.2.2.2.2.1 res.2.2.2.2.2.2.1 tl sg res.2.2.2.2.2.2.2.1 res.2.2.2.2.2.2.2.2.1 fl res.2.2.2.2.2.2.2.2.2 (s_draw A p1) := by
  obtain ⟨G0, R0, HH, SS, TT⟩ := O
  have G : gz_ok (oh A) (ow A) size ro co ne nc := G0
  have R : Rc (oh A * ow A) bk gr ht dr lim hs bs gs (oa A) := R0
  have W : ab_wf (oh A * ow A) (ow A) 90000 (oa A) := h.1.2.2.1
  have hn16 : oh A * ow A ≤ 16 := gz_n16 G.2.1 G.2.2.2.1
  have hw45 : ow A < 5 := by have := G.2.2.2.1; omega
  obtain ⟨p, rfl, hp⟩ := isP.nat h.2.1
  have r1 := R.ready (F := 20000) (by omega) G W (by omega) hp
  have hs0 : 0 < ab_slack (oh A * ow A) (ow A) (oa A) p := by have := h.2.2; unfold v_slack at this; rwa [Int.toNat_natCast] at this
  rw [if_pos hs0] at r1
  have hne := (ab_slack_pos W hp hs0).2.1
  obtain ⟨bs', gs', bk', gr', ht', dr', t1, R'⟩ := R.take (F := 20000) W hn16 hp hne
  obtain ⟨P', ol', n1, hP, H'⟩ := oHR.note (F := 20000) (by omega) hn16 HH R (ab_take (oa A) p)
  have gg := ab_grade_rng (W.1 p hp).1.2 0
  unfold s_draw
  rw [Int.toNat_natCast]
  refine ⟨(ab_grade (ab_col (oa A) p) 0, bs', gs', bk', gr', ht', dr', ol', (((s_note A).1 : Nat) : Int), P'), ?_, rfl, by unfold i32; omega, G0, R', H', SS.pool hP, TT⟩
  unfold sh_L_draw_n sh_X8_draw_n
  rw [rpn_in G hp, Option.bind_some, r1, Option.bind_some, zkr_t (by decide) (by decide), if_neg (by decide), n1, Option.bind_some]
  dsimp only
  rw [t1, Option.bind_some, Option.bind_some]
theorem kq_draw_x {size : Int} {ro co ne nc : Nat → Int} {lim hs bs gs : Int} {bk gr ht dr : Nat → Int} {tl : Int} {sg : Nat → Int} {ol ct : Int} {fl : Nat → Int} {P : Nat → zCv} {A : zO} (O : oREL size ro co ne nc lim hs bs gs bk gr ht dr tl sg ol ct fl P A) (p1 : Int) (h : zOK 90000 A ∧ i32 p1) : ∃ res : Int × Int × Int × (Nat → Int) × (Nat → Int) × (Nat → Int) × (Nat → Int) × Int × Int × (Nat → zCv), sh_L_draw 20000 size ne nc lim hs bs gs bk gr ht dr ol ct P p1 = some res ∧ res.1 = (f_draw A p1).1 ∧ i32 ((f_draw A p1).1) ∧ oREL size ro co ne nc lim hs res.2.1 res.2.2.1 res.2.2.2.1 res.2.2.2.2.1 res.2.2.2.2.2.1 res.2.2.2.2.2.2.1 tl sg res.2.2.2.2.2.2.2.1 res.2.2.2.2.2.2.2.2.1 fl res.2.2.2.2.2.2.2.2.2 ((f_draw A p1).2) := by
  obtain ⟨G0, R0, HH, SS, TT⟩ := O
  have G : gz_ok (oh A) (ow A) size ro co ne nc := G0
  have R : Rc (oh A * ow A) bk gr ht dr lim hs bs gs (oa A) := R0
  have W : ab_wf (oh A * ow A) (ow A) 90000 (oa A) := h.1.2.2.1
  have hn16 : oh A * ow A ≤ 16 := gz_n16 G.2.1 G.2.2.2.1
  have hw45 : ow A < 5 := by have := G.2.2.2.1; omega
  unfold f_draw
  rcases isP.cases A p1 with ⟨p, rfl, hp, hi⟩ | ⟨hp, hi⟩
  · rw [fi_t hi]
    by_cases hv : 0 < v_slack A (p : Int)
    · rw [if_pos hv]
      have r1 := R.ready (F := 20000) (by omega) G W (by omega) hp
      have hs0 : 0 < ab_slack (oh A * ow A) (ow A) (oa A) p := by have := hv; unfold v_slack at this; rwa [Int.toNat_natCast] at this
      rw [if_pos hs0] at r1
      have hne := (ab_slack_pos W hp hs0).2.1
      obtain ⟨bs', gs', bk', gr', ht', dr', t1, R'⟩ := R.take (F := 20000) W hn16 hp hne
      obtain ⟨P', ol', n1, hP, H'⟩ := oHR.note (F := 20000) (by omega) hn16 HH R (ab_take (oa A) p)
      have gg := ab_grade_rng (W.1 p hp).1.2 0
      unfold s_draw
      rw [Int.toNat_natCast]
      refine ⟨(ab_grade (ab_col (oa A) p) 0, bs', gs', bk', gr', ht', dr', ol', (((s_note A).1 : Nat) : Int), P'), ?_, rfl, by unfold i32; (try dsimp only); omega, G0, R', H', SS.pool hP, TT⟩
      unfold sh_L_draw sh_X8_draw
      rw [rp_in G hp, Option.bind_some, if_pos rfl, r1, Option.bind_some, zkr_t (by decide) (by decide), if_neg (by decide), n1, Option.bind_some]
      dsimp only
      rw [t1, Option.bind_some, Option.bind_some]
      rfl
    · rw [if_neg hv]
      have r1 := R.ready (F := 20000) (by omega) G W (by omega) hp
      have hs0 : ¬ 0 < ab_slack (oh A * ow A) (ow A) (oa A) p := by intro z; apply hv; unfold v_slack; rw [Int.toNat_natCast]; exact z
      rw [if_neg hs0] at r1
      refine ⟨(-103, bs, gs, bk, gr, ht, dr, ol, ct, P), ?_, rfl, (show i32 (-103) from ⟨by decide, by decide⟩), G0, R0, HH, SS, TT⟩
      unfold sh_L_draw sh_X8_draw
      rw [rp_in G hp, Option.bind_some, if_pos rfl, r1, Option.bind_some, zkr_t (by decide) (by decide), if_pos rfl, Option.bind_some]
      rfl
  · rw [fi_f hi]
    refine ⟨(-101, bs, gs, bk, gr, ht, dr, ol, ct, P), ?_, rfl, (show i32 (-101) from ⟨by decide, by decide⟩), G0, R0, HH, SS, TT⟩
    unfold sh_L_draw sh_X8_draw
    rw [rp_out G h.2 hp, Option.bind_some, if_neg (by decide), Option.bind_some]
    rfl
theorem kq_draw_t {size : Int} {ro co ne nc : Nat → Int} {lim hs bs gs : Int} {bk gr ht dr : Nat → Int} {tl : Int} {sg : Nat → Int} {ol ct : Int} {fl : Nat → Int} {P : Nat → zCv} {A : zO} (O : oREL size ro co ne nc lim hs bs gs bk gr ht dr tl sg ol ct fl P A) (p1 : Int) (h : zOK 90000 A ∧ i32 p1 ∧ ¬ (isP A p1 ∧ 0 < v_slack A p1)) : ∃ res : Int × Int × Int × (Nat → Int) × (Nat → Int) × (Nat → Int) × (Nat → Int) × Int × Int × (Nat → zCv), sh_L_draw 20000 size ne nc lim hs bs gs bk gr ht dr ol ct P p1 = some res ∧ res.1 = (fi (isP A p1) (-103) (-101)) ∧ i32 ((fi (isP A p1) (-103) (-101))) ∧ oREL size ro co ne nc lim hs res.2.1 res.2.2.1 res.2.2.2.1 res.2.2.2.2.1 res.2.2.2.2.2.1 res.2.2.2.2.2.2.1 tl sg res.2.2.2.2.2.2.2.1 res.2.2.2.2.2.2.2.2.1 fl res.2.2.2.2.2.2.2.2.2 A := by
  have O' := O
  obtain ⟨res, e, e1, e2, e3⟩ := kq_draw_x O' p1 ⟨h.1, h.2.1⟩
  have hv : f_draw A p1 = ((fi (isP A p1) (-103) (-101)), A) := by
    unfold f_draw
    rcases isP.cases A p1 with ⟨p, -, -, hi⟩ | ⟨-, hi⟩
    · rw [fi_t hi, fi_t hi, if_neg (fun z => h.2.2 ⟨hi, z⟩)]
    · rw [fi_f hi, fi_f hi]
  rw [hv] at e1 e2 e3
  exact ⟨res, e, e1, e2, e3⟩
theorem kq_byOrder_n {size : Int} {ro co ne nc : Nat → Int} {lim hs bs gs : Int} {bk gr ht dr : Nat → Int} {tl : Int} {sg : Nat → Int} {ol ct : Int} {fl : Nat → Int} {P : Nat → zCv} {A : zO} (O : oREL size ro co ne nc lim hs bs gs bk gr ht dr tl sg ol ct fl P A) (p1 : Int) (h : zOK 90000 A ∧ 1 ≤ p1 ∧ p1 ≤ 99) : ∃ res : Int × Int × Int × (Nat → Int) × (Nat → Int) × (Nat → Int) × (Nat → Int) × Int × Int × (Nat → zCv), sh_L_byOrder_n 20000 size ne nc lim hs bs gs bk gr ht dr ol ct P p1 = some res ∧ res.1 = (ab_go (onn A) (ow A) p1.toNat (oa A)).1 ∧ i32 ((ab_go (onn A) (ow A) p1.toNat (oa A)).1) ∧ oREL size ro co ne nc lim hs res.2.1 res.2.2.1 res.2.2.2.1 res.2.2.2.2.1 res.2.2.2.2.2.1 res.2.2.2.2.2.2.1 tl sg res.2.2.2.2.2.2.2.1 res.2.2.2.2.2.2.2.2.1 fl res.2.2.2.2.2.2.2.2.2 (s_go A p1) := by
  obtain ⟨G0, R0, HH, SS, TT⟩ := O
  have G : gz_ok (oh A) (ow A) size ro co ne nc := G0
  have R : Rc (oh A * ow A) bk gr ht dr lim hs bs gs (oa A) := R0
  have W : ab_wf (oh A * ow A) (ow A) 90000 (oa A) := h.1.2.2.1
  have hn16 : oh A * ow A ≤ 16 := gz_n16 G.2.1 G.2.2.2.1
  have hw45 : ow A < 5 := by have := G.2.2.2.1; omega
  have h2 := h.2
  obtain ⟨Q, rfl⟩ : ∃ Q : Nat, p1 = (Q : Int) := ⟨p1.toNat, by omega⟩
  unfold s_go
  rw [Int.toNat_natCast]
  obtain ⟨bs', gs', bk', gr', ht', dr', t1, R'⟩ := R.go (F := 20000) (by omega) G W Q (by omega) (by omega)
  obtain ⟨P', ol', n1, hP, H'⟩ := oHR.note (F := 20000) (by omega) hn16 HH R (ab_go (onn A) (ow A) Q (oa A)).2
  have gr0 : (0 ≤ (ab_go (onn A) (ow A) Q (oa A)).1 ∧ (ab_go (onn A) (ow A) Q (oa A)).1 ≤ (Q : Int)) ∧ _ := ab_go_rng Q 90000 (oa A) W
  refine ⟨((ab_go (onn A) (ow A) Q (oa A)).1, bs', gs', bk', gr', ht', dr', ol', (((s_note A).1 : Nat) : Int), P'), ?_, rfl, by unfold i32; omega, G0, R', H', SS.pool hP, TT⟩
  unfold sh_L_byOrder_n sh_X8_drawByOrder_n
  rw [rrn_in (F := 20000) (x := (Q : Int)) (lo := 1) (hi := 99) (by decide) (by decide) h2, Option.bind_some, n1, Option.bind_some]
  dsimp only
  rw [t1, Option.bind_some, Option.bind_some]
  rfl
theorem kq_byOrder_t {size : Int} {ro co ne nc : Nat → Int} {lim hs bs gs : Int} {bk gr ht dr : Nat → Int} {tl : Int} {sg : Nat → Int} {ol ct : Int} {fl : Nat → Int} {P : Nat → zCv} {A : zO} (O : oREL size ro co ne nc lim hs bs gs bk gr ht dr tl sg ol ct fl P A) (p1 : Int) (h : zOK 90000 A ∧ i32 p1 ∧ ¬ (1 ≤ p1 ∧ p1 ≤ 99)) : ∃ res : Int × Int × Int × (Nat → Int) × (Nat → Int) × (Nat → Int) × (Nat → Int) × Int × Int × (Nat → zCv), sh_L_byOrder 20000 size ne nc lim hs bs gs bk gr ht dr ol ct P p1 = some res ∧ res.1 = (-102) ∧ i32 ((-102)) ∧ oREL size ro co ne nc lim hs res.2.1 res.2.2.1 res.2.2.2.1 res.2.2.2.2.1 res.2.2.2.2.2.1 res.2.2.2.2.2.2.1 tl sg res.2.2.2.2.2.2.2.1 res.2.2.2.2.2.2.2.2.1 fl res.2.2.2.2.2.2.2.2.2 A := by
  obtain ⟨G0, R0, HH, SS, TT⟩ := O
  have G : gz_ok (oh A) (ow A) size ro co ne nc := G0
  have R : Rc (oh A * ow A) bk gr ht dr lim hs bs gs (oa A) := R0
  have W : ab_wf (oh A * ow A) (ow A) 90000 (oa A) := h.1.2.2.1
  have hn16 : oh A * ow A ≤ 16 := gz_n16 G.2.1 G.2.2.2.1
  have hw45 : ow A < 5 := by have := G.2.2.2.1; omega
  refine ⟨(-102, bs, gs, bk, gr, ht, dr, ol, ct, P), ?_, rfl, (show i32 (-102) from ⟨by decide, by decide⟩), G0, R0, HH, SS, TT⟩
  unfold sh_L_byOrder sh_X8_drawByOrder
  rw [rr_out (F := 20000) (x := p1) (lo := 1) (hi := 99) (by decide) (by decide) h.2.1 h.2.2, Option.bind_some, if_neg (by decide), Option.bind_some]
  rfl
theorem kq_hang_x {size : Int} {ro co ne nc : Nat → Int} {lim hs bs gs : Int} {bk gr ht dr : Nat → Int} {tl : Int} {sg : Nat → Int} {ol ct : Int} {fl : Nat → Int} {P : Nat → zCv} {A : zO} (O : oREL size ro co ne nc lim hs bs gs bk gr ht dr tl sg ol ct fl P A) (p1 : Int) (h : zOK 90000 A ∧ i32 p1) : ∃ res : Int × Int × Int × Int × (Nat → zCv), sh_L_hang 20000 size lim hs bs gs bk gr ht dr ol ct P p1 = some res ∧ res.1 = (f_hang A p1).1 ∧ i32 ((f_hang A p1).1) ∧ oREL size ro co ne nc lim res.2.1 bs gs bk gr ht dr tl sg res.2.2.1 res.2.2.2.1 fl res.2.2.2.2 ((f_hang A p1).2) := by
  obtain ⟨G0, R0, HH, SS, TT⟩ := O
  have G : gz_ok (oh A) (ow A) size ro co ne nc := G0
  have R : Rc (oh A * ow A) bk gr ht dr lim hs bs gs (oa A) := R0
  have W : ab_wf (oh A * ow A) (ow A) 90000 (oa A) := h.1.2.2.1
  have hn16 : oh A * ow A ≤ 16 := gz_n16 G.2.1 G.2.2.2.1
  have hw45 : ow A < 5 := by have := G.2.2.2.1; omega
  unfold f_hang
  rcases isP.cases A p1 with ⟨p, rfl, hp, hi⟩ | ⟨hp, hi⟩
  · rw [fi_t hi, Int.toNat_natCast]
    have r1 := R.hangs (F := 20000) hn16 hp
    cases hg : ab_hg (oa A) p
    · rw [hg] at r1
      have r1' : sh_X0_hangs 20000 hs (p : Int) = some 0 := r1
      rw [if_neg (by decide)]
      obtain ⟨hs', t1, R'⟩ := R.flip (F := 20000) hn16 hp
      obtain ⟨P', ol', n1, hP, H'⟩ := oHR.note (F := 20000) (by omega) hn16 HH R (ab_flip (oa A) p)
      have q1 := R'.hcount (F := 20000) hn16
      have hr : 0 ≤ ab_hcnt (ab_flip (oa A) p) (onn A) ∧ ab_hcnt (ab_flip (oa A) p) (onn A) ≤ (onn A : Nat) := ab_hcnt_rng (ab_flip (oa A) p) (onn A)
      have hn16' : onn A ≤ 16 := hn16
      unfold s_flip
      rw [Int.toNat_natCast]
      refine ⟨(ab_hcnt (ab_flip (oa A) p) (onn A), hs', ol', (((s_note A).1 : Nat) : Int), P'), ?_, rfl, by unfold i32; (try dsimp only); omega, G0, R', H', SS.pool hP, TT⟩
      unfold sh_L_hang sh_X8_hang
      rw [rp_in G hp, Option.bind_some, if_pos rfl, r1', Option.bind_some, zkr_t (by decide) (by decide), if_pos rfl, n1, Option.bind_some]
      dsimp only
      rw [t1, Option.bind_some, q1, Option.bind_some, Option.bind_some]
      rfl
    · rw [hg] at r1
      have r1' : sh_X0_hangs 20000 hs (p : Int) = some 1 := r1
      rw [if_pos rfl]
      refine ⟨(-103, hs, ol, ct, P), ?_, rfl, (show i32 (-103) from ⟨by decide, by decide⟩), G0, R0, HH, SS, TT⟩
      unfold sh_L_hang sh_X8_hang
      rw [rp_in G hp, Option.bind_some, if_pos rfl, r1', Option.bind_some, zkr_t (by decide) (by decide), if_neg (by decide), Option.bind_some]
      rfl
  · rw [fi_f hi]
    refine ⟨(-101, hs, ol, ct, P), ?_, rfl, (show i32 (-101) from ⟨by decide, by decide⟩), G0, R0, HH, SS, TT⟩
    unfold sh_L_hang sh_X8_hang
    rw [rp_out G h.2 hp, Option.bind_some, if_neg (by decide), Option.bind_some]
    rfl
theorem kq_hang_t {size : Int} {ro co ne nc : Nat → Int} {lim hs bs gs : Int} {bk gr ht dr : Nat → Int} {tl : Int} {sg : Nat → Int} {ol ct : Int} {fl : Nat → Int} {P : Nat → zCv} {A : zO} (O : oREL size ro co ne nc lim hs bs gs bk gr ht dr tl sg ol ct fl P A) (p1 : Int) (h : zOK 90000 A ∧ i32 p1 ∧ ¬ (isP A p1 ∧ ab_hg (oa A) p1.toNat = false)) : ∃ res : Int × Int × Int × Int × (Nat → zCv), sh_L_hang 20000 size lim hs bs gs bk gr ht dr ol ct P p1 = some res ∧ res.1 = (fi (isP A p1) (-103) (-101)) ∧ i32 ((fi (isP A p1) (-103) (-101))) ∧ oREL size ro co ne nc lim res.2.1 bs gs bk gr ht dr tl sg res.2.2.1 res.2.2.2.1 fl res.2.2.2.2 A := by
  have O' := O
  obtain ⟨res, e, e1, e2, e3⟩ := kq_hang_x O' p1 ⟨h.1, h.2.1⟩
  have hv : f_hang A p1 = ((fi (isP A p1) (-103) (-101)), A) := by
    unfold f_hang
    rcases isP.cases A p1 with ⟨p, -, -, hi⟩ | ⟨-, hi⟩
    · rw [fi_t hi, fi_t hi]
      cases hg : ab_hg (oa A) p1.toNat
      · exact absurd ⟨hi, hg⟩ h.2.2
      · exact if_pos rfl
    · rw [fi_f hi, fi_f hi]
  rw [hv] at e1 e2 e3
  exact ⟨res, e, e1, e2, e3⟩
theorem kq_release_x {size : Int} {ro co ne nc : Nat → Int} {lim hs bs gs : Int} {bk gr ht dr : Nat → Int} {tl : Int} {sg : Nat → Int} {ol ct : Int} {fl : Nat → Int} {P : Nat → zCv} {A : zO} (O : oREL size ro co ne nc lim hs bs gs bk gr ht dr tl sg ol ct fl P A) (p1 : Int) (h : zOK 90000 A ∧ i32 p1) : ∃ res : Int × Int × Int × Int × (Nat → zCv), sh_L_release 20000 size lim hs bs gs bk gr ht dr ol ct P p1 = some res ∧ res.1 = (f_release A p1).1 ∧ i32 ((f_release A p1).1) ∧ oREL size ro co ne nc lim res.2.1 bs gs bk gr ht dr tl sg res.2.2.1 res.2.2.2.1 fl res.2.2.2.2 ((f_release A p1).2) := by
  obtain ⟨G0, R0, HH, SS, TT⟩ := O
  have G : gz_ok (oh A) (ow A) size ro co ne nc := G0
  have R : Rc (oh A * ow A) bk gr ht dr lim hs bs gs (oa A) := R0
  have W : ab_wf (oh A * ow A) (ow A) 90000 (oa A) := h.1.2.2.1
  have hn16 : oh A * ow A ≤ 16 := gz_n16 G.2.1 G.2.2.2.1
  have hw45 : ow A < 5 := by have := G.2.2.2.1; omega
  unfold f_release
  rcases isP.cases A p1 with ⟨p, rfl, hp, hi⟩ | ⟨hp, hi⟩
  · rw [fi_t hi, Int.toNat_natCast]
    have r1 := R.hangs (F := 20000) hn16 hp
    cases hg : ab_hg (oa A) p
    · rw [hg] at r1
      have r1' : sh_X0_hangs 20000 hs (p : Int) = some 0 := r1
      rw [if_neg (by decide)]
      refine ⟨(-103, hs, ol, ct, P), ?_, rfl, (show i32 (-103) from ⟨by decide, by decide⟩), G0, R0, HH, SS, TT⟩
      unfold sh_L_release sh_X8_release
      rw [rp_in G hp, Option.bind_some, if_pos rfl, r1', Option.bind_some, zkr_t (by decide) (by decide), if_pos rfl, Option.bind_some]
      rfl
    · rw [hg] at r1
      have r1' : sh_X0_hangs 20000 hs (p : Int) = some 1 := r1
      rw [if_pos rfl]
      obtain ⟨hs', t1, R'⟩ := R.flip (F := 20000) hn16 hp
      obtain ⟨P', ol', n1, hP, H'⟩ := oHR.note (F := 20000) (by omega) hn16 HH R (ab_flip (oa A) p)
      have q1 := R'.hcount (F := 20000) hn16
      have hr : 0 ≤ ab_hcnt (ab_flip (oa A) p) (onn A) ∧ ab_hcnt (ab_flip (oa A) p) (onn A) ≤ (onn A : Nat) := ab_hcnt_rng (ab_flip (oa A) p) (onn A)
      have hn16' : onn A ≤ 16 := hn16
      unfold s_flip
      rw [Int.toNat_natCast]
      refine ⟨(ab_hcnt (ab_flip (oa A) p) (onn A), hs', ol', (((s_note A).1 : Nat) : Int), P'), ?_, rfl, by unfold i32; (try dsimp only); omega, G0, R', H', SS.pool hP, TT⟩
      unfold sh_L_release sh_X8_release
      rw [rp_in G hp, Option.bind_some, if_pos rfl, r1', Option.bind_some, zkr_t (by decide) (by decide), if_neg (by decide), n1, Option.bind_some]
      dsimp only
      rw [t1, Option.bind_some, q1, Option.bind_some, Option.bind_some]
      rfl
  · rw [fi_f hi]
    refine ⟨(-101, hs, ol, ct, P), ?_, rfl, (show i32 (-101) from ⟨by decide, by decide⟩), G0, R0, HH, SS, TT⟩
    unfold sh_L_release sh_X8_release
    rw [rp_out G h.2 hp, Option.bind_some, if_neg (by decide), Option.bind_some]
    rfl
theorem kq_release_t {size : Int} {ro co ne nc : Nat → Int} {lim hs bs gs : Int} {bk gr ht dr : Nat → Int} {tl : Int} {sg : Nat → Int} {ol ct : Int} {fl : Nat → Int} {P : Nat → zCv} {A : zO} (O : oREL size ro co ne nc lim hs bs gs bk gr ht dr tl sg ol ct fl P A) (p1 : Int) (h : zOK 90000 A ∧ i32 p1 ∧ ¬ (isP A p1 ∧ ab_hg (oa A) p1.toNat = true)) : ∃ res : Int × Int × Int × Int × (Nat → zCv), sh_L_release 20000 size lim hs bs gs bk gr ht dr ol ct P p1 = some res ∧ res.1 = (fi (isP A p1) (-103) (-101)) ∧ i32 ((fi (isP A p1) (-103) (-101))) ∧ oREL size ro co ne nc lim res.2.1 bs gs bk gr ht dr tl sg res.2.2.1 res.2.2.2.1 fl res.2.2.2.2 A := by
  have O' := O
  obtain ⟨res, e, e1, e2, e3⟩ := kq_release_x O' p1 ⟨h.1, h.2.1⟩
  have hv : f_release A p1 = ((fi (isP A p1) (-103) (-101)), A) := by
    unfold f_release
    rcases isP.cases A p1 with ⟨p, -, -, hi⟩ | ⟨-, hi⟩
    · rw [fi_t hi, fi_t hi]
      cases hg : ab_hg (oa A) p1.toNat
      · exact if_neg (by decide)
      · exact absurd ⟨hi, hg⟩ h.2.2
    · rw [fi_f hi, fi_f hi]
  rw [hv] at e1 e2 e3
  exact ⟨res, e, e1, e2, e3⟩
