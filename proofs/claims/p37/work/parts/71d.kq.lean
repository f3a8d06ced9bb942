/-! MORE OF WHAT THE CLASS ANSWERS -/
theorem kq_add_x {size : Int} {ro co ne nc : Nat → Int} {lim hs bs gs : Int} {bk gr ht dr : Nat → Int} {tl : Int} {sg : Nat → Int} {ol ct : Int} {fl : Nat → Int} {P : Nat → zCv} {A : zO} (O : oREL size ro co ne nc lim hs bs gs bk gr ht dr tl sg ol ct fl P A) (p1 : Int) (p2 : Int) (p3 : Int) (h : zOK 90000 A ∧ i32 p1 ∧ i32 p2 ∧ i32 p3) : ∃ res : Int × (Nat → Int) × (Nat → Int) × (Nat → Int) × Int × Int × (Nat → zCv), sh_L_add 20000 size lim hs bs gs bk gr ht dr ol ct P p1 p2 p3 = some res ∧ res.1 = (f_add A p1 p2 p3).1 ∧ i32 ((f_add A p1 p2 p3).1) ∧ oREL size ro co ne nc lim hs bs gs res.2.1 res.2.2.1 res.2.2.2.1 dr tl sg res.2.2.2.2.1 res.2.2.2.2.2.1 fl res.2.2.2.2.2.2 ((f_add A p1 p2 p3).2) := by
  obtain ⟨G0, R0, HH, SS, TT⟩ := O
  have G : gz_ok (oh A) (ow A) size ro co ne nc := G0
  have R : Rc (oh A * ow A) bk gr ht dr lim hs bs gs (oa A) := R0
  have W : ab_wf (oh A * ow A) (ow A) 90000 (oa A) := h.1.2.2.1
  have hn16 : oh A * ow A ≤ 16 := gz_n16 G.2.1 G.2.2.2.1
  have hw45 : ow A < 5 := by have := G.2.2.2.1; omega
  unfold f_add
  rcases isP.cases A p1 with ⟨p, rfl, hp, hi⟩ | ⟨hp, hi⟩
  · rw [fi_t hi, Int.toNat_natCast]
    by_cases h2 : 1 ≤ p2 ∧ p2 ≤ 9
    · have rr2 := rr_in (F := 20000) (x := p2) (lo := 1) (hi := 9) (by decide) (by decide) h2
      by_cases h3 : 0 ≤ p3 ∧ p3 ≤ 9
      · have rr3 := rr_in (F := 20000) (x := p3) (lo := 0) (hi := 9) (by decide) (by decide) h3
        rw [if_pos ⟨h2, h3⟩]
        have r := R.1 p hp
        have l1 := congrArg List.length r.2.1
        rw [cl_len] at l1
        obtain ⟨j, hj⟩ : ∃ j : Nat, ht p = (j : Int) := ⟨(ht p).toNat, by omega⟩
        have hjl : (ab_col (oa A) p).length = j := by omega
        rw [hjl]
        have eh : sh_X0_height 20000 ht (p : Int) = some (j : Int) := by
          unfold sh_X0_height
          rw [zkx_t (by omega) (by omega), ix_n, hj]
        by_cases h6 : j < 6
        · rw [if_pos h6]
          obtain ⟨t1, R'⟩ := R.pile (F := 20000) hn16 hp hj h6 p2 p3
          obtain ⟨P', ol', n1, hP, H'⟩ := oHR.note (F := 20000) (by omega) hn16 HH R (ab_add (oa A) p p2 p3)
          have eh2 : sh_X0_height 20000 (va_up ht p ((j + 1 : Nat) : Int)) (p : Int) = some ((j + 1 : Nat) : Int) := by
            unfold sh_X0_height
            rw [zkx_t (by omega) (by omega), ix_n, up_s]
          refine ⟨(((j + 1 : Nat) : Int), va_up bk (6 * p + j) p2, va_up gr (6 * p + j) p3, va_up ht p ((j + 1 : Nat) : Int), ol', (((s_note A).1 : Nat) : Int), P'), ?_, rfl, by unfold i32; (try dsimp only); omega, G0, R', H', SS.pool hP, TT⟩
          unfold sh_L_add sh_X8_addSlice
          rw [rp_in G hp, Option.bind_some, if_pos rfl, rr2, Option.bind_some, if_pos rfl, rr3, Option.bind_some, if_pos rfl, eh, Option.bind_some, zkr_t (by omega) (by omega), if_pos (by omega), n1, Option.bind_some]
          dsimp only
          rw [t1, Option.bind_some]
          dsimp only
          rw [eh2, Option.bind_some, Option.bind_some]
          rfl
        · rw [if_neg h6]
          refine ⟨(-103, bk, gr, ht, ol, ct, P), ?_, rfl, (show i32 (-103) from ⟨by decide, by decide⟩), G0, R0, HH, SS, TT⟩
          unfold sh_L_add sh_X8_addSlice
          rw [rp_in G hp, Option.bind_some, if_pos rfl, rr2, Option.bind_some, if_pos rfl, rr3, Option.bind_some, if_pos rfl, eh, Option.bind_some, zkr_t (by omega) (by omega), if_neg (by omega), Option.bind_some]
          rfl
      · rw [if_neg (fun z => h3 z.2)]
        refine ⟨(-102, bk, gr, ht, ol, ct, P), ?_, rfl, (show i32 (-102) from ⟨by decide, by decide⟩), G0, R0, HH, SS, TT⟩
        unfold sh_L_add sh_X8_addSlice
        rw [rp_in G hp, Option.bind_some, if_pos rfl, rr2, Option.bind_some, if_pos rfl, rr_out (F := 20000) (x := p3) (lo := 0) (hi := 9) (by decide) (by decide) h.2.2.2 h3, Option.bind_some, if_neg (by decide), Option.bind_some]
        rfl
    · rw [if_neg (fun z => h2 z.1)]
      refine ⟨(-102, bk, gr, ht, ol, ct, P), ?_, rfl, (show i32 (-102) from ⟨by decide, by decide⟩), G0, R0, HH, SS, TT⟩
      unfold sh_L_add sh_X8_addSlice
      rw [rp_in G hp, Option.bind_some, if_pos rfl, rr_out (F := 20000) (x := p2) (lo := 1) (hi := 9) (by decide) (by decide) h.2.2.1 h2, Option.bind_some, if_neg (by decide), Option.bind_some]
      rfl
  · rw [fi_f hi]
    refine ⟨(-101, bk, gr, ht, ol, ct, P), ?_, rfl, (show i32 (-101) from ⟨by decide, by decide⟩), G0, R0, HH, SS, TT⟩
    unfold sh_L_add sh_X8_addSlice
    rw [rp_out G h.2.1 hp, Option.bind_some, if_neg (by decide), Option.bind_some]
    rfl
theorem kq_add_t {size : Int} {ro co ne nc : Nat → Int} {lim hs bs gs : Int} {bk gr ht dr : Nat → Int} {tl : Int} {sg : Nat → Int} {ol ct : Int} {fl : Nat → Int} {P : Nat → zCv} {A : zO} (O : oREL size ro co ne nc lim hs bs gs bk gr ht dr tl sg ol ct fl P A) (p1 : Int) (p2 : Int) (p3 : Int) (h : zOK 90000 A ∧ i32 p1 ∧ i32 p2 ∧ i32 p3 ∧ ¬ (isP A p1 ∧ ((1 ≤ p2 ∧ p2 ≤ 9) ∧ 0 ≤ p3 ∧ p3 ≤ 9) ∧ (ab_col (oa A) p1.toNat).length < 6)) : ∃ res : Int × (Nat → Int) × (Nat → Int) × (Nat → Int) × Int × Int × (Nat → zCv), sh_L_add 20000 size lim hs bs gs bk gr ht dr ol ct P p1 p2 p3 = some res ∧ res.1 = (fi (isP A p1) (if (1 ≤ p2 ∧ p2 ≤ 9) ∧ 0 ≤ p3 ∧ p3 ≤ 9 then -103 else -102) (-101)) ∧ i32 ((fi (isP A p1) (if (1 ≤ p2 ∧ p2 ≤ 9) ∧ 0 ≤ p3 ∧ p3 ≤ 9 then -103 else -102) (-101))) ∧ oREL size ro co ne nc lim hs bs gs res.2.1 res.2.2.1 res.2.2.2.1 dr tl sg res.2.2.2.2.1 res.2.2.2.2.2.1 fl res.2.2.2.2.2.2 A := by
  have O' := O
  obtain ⟨res, e, e1, e2, e3⟩ := kq_add_x O' p1 p2 p3 ⟨h.1, h.2.1, h.2.2.1, h.2.2.2.1⟩
  have hv : f_add A p1 p2 p3 = ((fi (isP A p1) (if (1 ≤ p2 ∧ p2 ≤ 9) ∧ 0 ≤ p3 ∧ p3 ≤ 9 then -103 else -102) (-101)), A) := by
    unfold f_add
    rcases isP.cases A p1 with ⟨p, -, -, hi⟩ | ⟨-, hi⟩
    · rw [fi_t hi, fi_t hi]
      by_cases hc : (1 ≤ p2 ∧ p2 ≤ 9) ∧ 0 ≤ p3 ∧ p3 ≤ 9
      · rw [if_pos hc, if_pos hc, if_neg (fun z => h.2.2.2.2 ⟨hi, hc, z⟩)]
      · rw [if_neg hc, if_neg hc]
    · rw [fi_f hi, fi_f hi]
  rw [hv] at e1 e2 e3
  exact ⟨res, e, e1, e2, e3⟩
theorem kq_setBound_x {size : Int} {ro co ne nc : Nat → Int} {lim hs bs gs : Int} {bk gr ht dr : Nat → Int} {tl : Int} {sg : Nat → Int} {ol ct : Int} {fl : Nat → Int} {P : Nat → zCv} {A : zO} (O : oREL size ro co ne nc lim hs bs gs bk gr ht dr tl sg ol ct fl P A) (p1 : Int) (h : zOK 90000 A ∧ i32 p1) : ∃ res : Int × Int × Int × Int × (Nat → zCv), sh_L_setBound 20000 size ne nc lim hs bs gs bk gr ht dr ol ct P p1 = some res ∧ res.1 = (f_setBound A p1).1 ∧ i32 ((f_setBound A p1).1) ∧ oREL size ro co ne nc res.2.1 hs bs gs bk gr ht dr tl sg res.2.2.1 res.2.2.2.1 fl res.2.2.2.2 ((f_setBound A p1).2) := by
  obtain ⟨G0, R0, HH, SS, TT⟩ := O
  have G : gz_ok (oh A) (ow A) size ro co ne nc := G0
  have R : Rc (oh A * ow A) bk gr ht dr lim hs bs gs (oa A) := R0
  have W : ab_wf (oh A * ow A) (ow A) 90000 (oa A) := h.1.2.2.1
  have hn16 : oh A * ow A ≤ 16 := gz_n16 G.2.1 G.2.2.2.1
  have hw45 : ow A < 5 := by have := G.2.2.2.1; omega
  unfold f_setBound
  by_cases hy : 1 ≤ p1 ∧ p1 ≤ 9
  · have rr := rr_in (F := 20000) (x := p1) (lo := 1) (hi := 9) (by decide) (by decide) hy
    rw [if_pos hy]
    have r1 := R.fits (F := 20000) (l2 := p1) (by omega) G W (by omega) (by omega)
    have wl := W.2.2.1
    have el := R.2.2.1
    cases hf : ab_fits (oh A * ow A) (ow A) (oa A) p1
    · have hf' : ab_fits (onn A) (ow A) (oa A) p1 = false := hf
      rw [hf'] 
      rw [hf] at r1
      have r1' : sh_X0_fits 20000 dr size ne nc p1 = some 0 := r1
      rw [if_neg (by decide)]
      refine ⟨(-103, lim, ol, ct, P), ?_, rfl, (show i32 (-103) from ⟨by decide, by decide⟩), G0, R0, HH, SS, TT⟩
      unfold sh_L_setBound sh_X8_setBound
      rw [rr, Option.bind_some, if_pos rfl, r1', Option.bind_some, zkr_t (by decide) (by decide), if_pos rfl, Option.bind_some]
      rfl
    · have hf' : ab_fits (onn A) (ow A) (oa A) p1 = true := hf
      rw [hf']
      rw [hf] at r1
      have r1' : sh_X0_fits 20000 dr size ne nc p1 = some 1 := r1
      rw [if_pos rfl]
      obtain ⟨P', ol', n1, hP, H'⟩ := oHR.note (F := 20000) (by omega) hn16 HH R (ab_lims (oa A) p1)
      refine ⟨(ab_lim (oa A), p1, ol', (((s_note A).1 : Nat) : Int), P'), ?_, rfl, by unfold i32; (try dsimp only); omega, G0, R.lims, H', SS.pool hP, TT⟩
      unfold sh_L_setBound sh_X8_setBound sh_X0_limit sh_X0_changeLimit
      rw [rr, Option.bind_some, if_pos rfl, r1', Option.bind_some, zkr_t (by decide) (by decide), if_neg (by decide), n1, Option.bind_some, Option.bind_some, Option.bind_some, Option.bind_some, el]
      rfl
  · rw [if_neg hy]
    refine ⟨(-102, lim, ol, ct, P), ?_, rfl, (show i32 (-102) from ⟨by decide, by decide⟩), G0, R0, HH, SS, TT⟩
    unfold sh_L_setBound sh_X8_setBound
    rw [rr_out (F := 20000) (x := p1) (lo := 1) (hi := 9) (by decide) (by decide) h.2 hy, Option.bind_some, if_neg (by decide), Option.bind_some]
    rfl
theorem kq_setBound_t {size : Int} {ro co ne nc : Nat → Int} {lim hs bs gs : Int} {bk gr ht dr : Nat → Int} {tl : Int} {sg : Nat → Int} {ol ct : Int} {fl : Nat → Int} {P : Nat → zCv} {A : zO} (O : oREL size ro co ne nc lim hs bs gs bk gr ht dr tl sg ol ct fl P A) (p1 : Int) (h : zOK 90000 A ∧ i32 p1 ∧ ¬ (1 ≤ p1 ∧ p1 ≤ 9)) : ∃ res : Int × Int × Int × Int × (Nat → zCv), sh_L_setBound 20000 size ne nc lim hs bs gs bk gr ht dr ol ct P p1 = some res ∧ res.1 = (-102) ∧ i32 ((-102)) ∧ oREL size ro co ne nc res.2.1 hs bs gs bk gr ht dr tl sg res.2.2.1 res.2.2.2.1 fl res.2.2.2.2 A := by
  have O' := O
  obtain ⟨res, e, e1, e2, e3⟩ := kq_setBound_x O' p1 ⟨h.1, h.2.1⟩
  have hv : f_setBound A p1 = ((-102), A) := by
    unfold f_setBound
    rw [if_neg h.2.2]
  rw [hv] at e1 e2 e3
  exact ⟨res, e, e1, e2, e3⟩
theorem kq_undo_n {size : Int} {ro co ne nc : Nat → Int} {lim hs bs gs : Int} {bk gr ht dr : Nat → Int} {tl : Int} {sg : Nat → Int} {ol ct : Int} {fl : Nat → Int} {P : Nat → zCv} {A : zO} (O : oREL size ro co ne nc lim hs bs gs bk gr ht dr tl sg ol ct fl P A) (h : zOK 90000 A ∧ 0 < oc A) : ∃ res : Int × Int × Int × Int × Int × (Nat → Int) × (Nat → Int) × (Nat → Int) × (Nat → Int) × Int, sh_L_undo_n 20000 lim hs bs gs bk gr ht dr ol ct P = some res ∧ res.1 = ((oc A - 1 : Nat) : Int) ∧ i32 (((oc A - 1 : Nat) : Int)) ∧ oREL size ro co ne nc res.2.1 res.2.2.1 res.2.2.2.1 res.2.2.2.2.1 res.2.2.2.2.2.1 res.2.2.2.2.2.2.1 res.2.2.2.2.2.2.2.1 res.2.2.2.2.2.2.2.2.1 tl sg ol res.2.2.2.2.2.2.2.2.2 fl P (s_undo A) := by
  obtain ⟨G0, R0, HH, SS, TT⟩ := O
  have G : gz_ok (oh A) (ow A) size ro co ne nc := G0
  have R : Rc (oh A * ow A) bk gr ht dr lim hs bs gs (oa A) := R0
  have W : ab_wf (oh A * ow A) (ow A) 90000 (oa A) := h.1.2.2.1
  have hn16 : oh A * ow A ≤ 16 := gz_n16 G.2.1 G.2.2.2.1
  have hw45 : ow A < 5 := by have := G.2.2.2.1; omega
  obtain ⟨o, ho, rfl, rfl, h14, hH⟩ := HH
  obtain ⟨c, hc⟩ : ∃ c, oc A = c + 1 := ⟨oc A - 1, by have := h.2; omega⟩
  have hl := hH c (by omega)
  have e1 : zmod ((o : Int) + (c : Int)) (14 : Int) = (((o + c) % 14 : Nat) : Int) := md_n (o + c) 14
  have e3 : (((c + 1 : Nat) : Int) - (1 : Int)) = (c : Int) := by omega
  have t1 : sh_X4_takeBack 20000 (o : Int) ((c + 1 : Nat) : Int) lim hs bs gs bk gr ht dr P = some ((c : Int), (c : Int), (P ((o + c) % 14)).2.2.2.2.1, (P ((o + c) % 14)).2.2.2.2.2.1, (P ((o + c) % 14)).2.2.2.2.2.2.1, (P ((o + c) % 14)).2.2.2.2.2.2.2, va_cpy (P ((o + c) % 14)).1 bk 0 0 96, va_cpy (P ((o + c) % 14)).2.1 gr 0 0 96, va_cpy (P ((o + c) % 14)).2.2.1 ht 0 0 16, va_cpy (P ((o + c) % 14)).2.2.2.1 dr 0 0 16) := by
    unfold sh_X4_takeBack
    simp (disch := omega) only [zkr_t, if_pos, e1, e3, zkx_t, sh_X0_become, Option.bind_some, Int.toNat_natCast]
    rfl
  have R' := hl.become (bk2 := bk) (gr2 := gr) (ht2 := ht) (dr2 := dr) hn16
  have e4 : oc A - 1 = c := by omega
  unfold s_undo
  rw [e4]
  rw [hc]
  refine ⟨((c : Int), (P ((o + c) % 14)).2.2.2.2.1, (P ((o + c) % 14)).2.2.2.2.2.1, (P ((o + c) % 14)).2.2.2.2.2.2.1, (P ((o + c) % 14)).2.2.2.2.2.2.2, va_cpy (P ((o + c) % 14)).1 bk 0 0 96, va_cpy (P ((o + c) % 14)).2.1 gr 0 0 96, va_cpy (P ((o + c) % 14)).2.2.1 ht 0 0 16, va_cpy (P ((o + c) % 14)).2.2.2.1 dr 0 0 16, (c : Int)), ?_, rfl, by unfold i32; (try dsimp only); omega, G0, R', ⟨o, ho, rfl, rfl, by show c ≤ 14; omega, fun i hi => hH i (by have hi : i < c := hi; omega)⟩, SS, TT⟩
  unfold sh_L_undo_n sh_X8_undo_n sh_X4_isEmpty
  rw [zkr_t (by omega) (by omega), if_neg (by omega), Option.bind_some, zkr_t (by decide) (by decide), if_pos rfl, t1, Option.bind_some, Option.bind_some]
theorem kq_undo_x {size : Int} {ro co ne nc : Nat → Int} {lim hs bs gs : Int} {bk gr ht dr : Nat → Int} {tl : Int} {sg : Nat → Int} {ol ct : Int} {fl : Nat → Int} {P : Nat → zCv} {A : zO} (O : oREL size ro co ne nc lim hs bs gs bk gr ht dr tl sg ol ct fl P A) (h : zOK 90000 A) : ∃ res : Int × Int × Int × Int × Int × (Nat → Int) × (Nat → Int) × (Nat → Int) × (Nat → Int) × Int, sh_L_undo 20000 lim hs bs gs bk gr ht dr ol ct P = some res ∧ res.1 = (f_undo A).1 ∧ i32 ((f_undo A).1) ∧ oREL size ro co ne nc res.2.1 res.2.2.1 res.2.2.2.1 res.2.2.2.2.1 res.2.2.2.2.2.1 res.2.2.2.2.2.2.1 res.2.2.2.2.2.2.2.1 res.2.2.2.2.2.2.2.2.1 tl sg ol res.2.2.2.2.2.2.2.2.2 fl P ((f_undo A).2) := by
  obtain ⟨G0, R0, HH, SS, TT⟩ := O
  have G : gz_ok (oh A) (ow A) size ro co ne nc := G0
  have R : Rc (oh A * ow A) bk gr ht dr lim hs bs gs (oa A) := R0
  have W : ab_wf (oh A * ow A) (ow A) 90000 (oa A) := h.2.2.1
  have hn16 : oh A * ow A ≤ 16 := gz_n16 G.2.1 G.2.2.2.1
  have hw45 : ow A < 5 := by have := G.2.2.2.1; omega
  unfold f_undo
  by_cases hc0 : 0 < oc A
  · rw [if_pos hc0]
    obtain ⟨o, ho, rfl, rfl, h14, hH⟩ := HH
    obtain ⟨c, hc⟩ : ∃ c, oc A = c + 1 := ⟨oc A - 1, by have := hc0; omega⟩
    have hl := hH c (by omega)
    have e1 : zmod ((o : Int) + (c : Int)) (14 : Int) = (((o + c) % 14 : Nat) : Int) := md_n (o + c) 14
    have e3 : (((c + 1 : Nat) : Int) - (1 : Int)) = (c : Int) := by omega
    have t1 : sh_X4_takeBack 20000 (o : Int) ((c + 1 : Nat) : Int) lim hs bs gs bk gr ht dr P = some ((c : Int), (c : Int), (P ((o + c) % 14)).2.2.2.2.1, (P ((o + c) % 14)).2.2.2.2.2.1, (P ((o + c) % 14)).2.2.2.2.2.2.1, (P ((o + c) % 14)).2.2.2.2.2.2.2, va_cpy (P ((o + c) % 14)).1 bk 0 0 96, va_cpy (P ((o + c) % 14)).2.1 gr 0 0 96, va_cpy (P ((o + c) % 14)).2.2.1 ht 0 0 16, va_cpy (P ((o + c) % 14)).2.2.2.1 dr 0 0 16) := by
      unfold sh_X4_takeBack
      simp (disch := omega) only [zkr_t, if_pos, e1, e3, zkx_t, sh_X0_become, Option.bind_some, Int.toNat_natCast]
      rfl
    have R' := hl.become (bk2 := bk) (gr2 := gr) (ht2 := ht) (dr2 := dr) hn16
    have e4 : oc A - 1 = c := by omega
    unfold s_undo
    rw [e4]
    rw [hc]
    refine ⟨((c : Int), (P ((o + c) % 14)).2.2.2.2.1, (P ((o + c) % 14)).2.2.2.2.2.1, (P ((o + c) % 14)).2.2.2.2.2.2.1, (P ((o + c) % 14)).2.2.2.2.2.2.2, va_cpy (P ((o + c) % 14)).1 bk 0 0 96, va_cpy (P ((o + c) % 14)).2.1 gr 0 0 96, va_cpy (P ((o + c) % 14)).2.2.1 ht 0 0 16, va_cpy (P ((o + c) % 14)).2.2.2.1 dr 0 0 16, (c : Int)), ?_, rfl, by unfold i32; (try dsimp only); omega, G0, R', ⟨o, ho, rfl, rfl, by show c ≤ 14; omega, fun i hi => hH i (by have hi : i < c := hi; omega)⟩, SS, TT⟩
    unfold sh_L_undo sh_X8_undo sh_X4_isEmpty
    rw [zkr_t (by omega) (by omega), if_neg (by omega), Option.bind_some, zkr_t (by decide) (by decide), if_pos rfl, t1, Option.bind_some, Option.bind_some]
    rfl
  · rw [if_neg hc0]
    have HH' := HH
    obtain ⟨o, ho, rfl, rfl, h14, hH⟩ := HH
    refine ⟨(-103, lim, hs, bs, gs, bk, gr, ht, dr, ((oc A : Nat) : Int)), ?_, rfl, (show i32 (-103) from ⟨by decide, by decide⟩), G0, R0, HH', SS, TT⟩
    unfold sh_L_undo sh_X8_undo sh_X4_isEmpty
    rw [zkr_t (by omega) (by omega), if_pos (by omega), Option.bind_some, zkr_t (by decide) (by decide), if_neg (by decide), Option.bind_some]
    rfl
theorem kq_undo_t {size : Int} {ro co ne nc : Nat → Int} {lim hs bs gs : Int} {bk gr ht dr : Nat → Int} {tl : Int} {sg : Nat → Int} {ol ct : Int} {fl : Nat → Int} {P : Nat → zCv} {A : zO} (O : oREL size ro co ne nc lim hs bs gs bk gr ht dr tl sg ol ct fl P A) (h : zOK 90000 A ∧ oc A = 0) : ∃ res : Int × Int × Int × Int × Int × (Nat → Int) × (Nat → Int) × (Nat → Int) × (Nat → Int) × Int, sh_L_undo 20000 lim hs bs gs bk gr ht dr ol ct P = some res ∧ res.1 = (-103) ∧ i32 ((-103)) ∧ oREL size ro co ne nc res.2.1 res.2.2.1 res.2.2.2.1 res.2.2.2.2.1 res.2.2.2.2.2.1 res.2.2.2.2.2.2.1 res.2.2.2.2.2.2.2.1 res.2.2.2.2.2.2.2.2.1 tl sg ol res.2.2.2.2.2.2.2.2.2 fl P A := by
  have O' := O
  obtain ⟨res, e, e1, e2, e3⟩ := kq_undo_x O' h.1
  have hv : f_undo A = ((-103), A) := by
    unfold f_undo
    rw [if_neg (by have := h.2; omega)]
  rw [hv] at e1 e2 e3
  exact ⟨res, e, e1, e2, e3⟩
theorem kq_save_n {size : Int} {ro co ne nc : Nat → Int} {lim hs bs gs : Int} {bk gr ht dr : Nat → Int} {tl : Int} {sg : Nat → Int} {ol ct : Int} {fl : Nat → Int} {P : Nat → zCv} {A : zO} (O : oREL size ro co ne nc lim hs bs gs bk gr ht dr tl sg ol ct fl P A) (p1 : Int) (h : zOK 90000 A ∧ 0 ≤ p1 ∧ p1 ≤ 1) : ∃ res : Int × (Nat → Int) × (Nat → zCv), sh_L_save_n 20000 lim hs bs gs bk gr ht dr fl P p1 = some res ∧ res.1 = ab_bs (oa A) ∧ i32 (ab_bs (oa A)) ∧ oREL size ro co ne nc lim hs bs gs bk gr ht dr tl sg ol ct res.2.1 res.2.2 (s_save A p1) := by
  obtain ⟨G0, R0, HH, SS, TT⟩ := O
  have G : gz_ok (oh A) (ow A) size ro co ne nc := G0
  have R : Rc (oh A * ow A) bk gr ht dr lim hs bs gs (oa A) := R0
  have W : ab_wf (oh A * ow A) (ow A) 90000 (oa A) := h.1.2.2.1
  have hn16 : oh A * ow A ≤ 16 := gz_n16 G.2.1 G.2.2.2.1
  have hw45 : ow A < 5 := by have := G.2.2.2.1; omega
  have h2 := h.2
  obtain ⟨s, rfl, hs2⟩ : ∃ s : Nat, p1 = (s : Int) ∧ s < 2 := ⟨p1.toNat, by omega, by omega⟩
  have b1 := R.2.2.2.1
  have wb := W.2.2.2.1
  refine ⟨(ab_bs (oa A), va_up fl s 1, zput P (14 + s) bk gr ht dr lim hs bs gs), ?_, rfl, by unfold i32; omega, G0, R0, HH.pool (fun j hj => zput_n (by omega)), fun t ht2 => ?_, TT⟩
  · unfold sh_L_save_n sh_X8_save_n sh_X7_store sh_X0_become sh_X0_bucketSum
    rw [rsn_in hs2, Option.bind_some, zkx_t (by omega) (by omega), Option.bind_some, Option.bind_some, Option.bind_some, Option.bind_some, ix_n, ← b1]
    rfl
  · show ((if t = ((s : Nat) : Int).toNat then some (oa A) else os A t) = none ∧ va_up fl s 1 t = 0) ∨ ∃ a, (if t = ((s : Nat) : Int).toNat then some (oa A) else os A t) = some a ∧ va_up fl s 1 t = 1 ∧ Rp (onn A) (zput P (14 + s) bk gr ht dr lim hs bs gs (14 + t)) a
    rw [Int.toNat_natCast]
    by_cases e : t = s
    · subst e
      rw [if_pos rfl, up_s]
      exact Or.inr ⟨oa A, rfl, rfl, zput_s R0 hn16⟩
    · rw [if_neg e, up_n _ _ _ e, zput_n (by omega)]
      exact SS t ht2
theorem kq_save_t {size : Int} {ro co ne nc : Nat → Int} {lim hs bs gs : Int} {bk gr ht dr : Nat → Int} {tl : Int} {sg : Nat → Int} {ol ct : Int} {fl : Nat → Int} {P : Nat → zCv} {A : zO} (O : oREL size ro co ne nc lim hs bs gs bk gr ht dr tl sg ol ct fl P A) (p1 : Int) (h : zOK 90000 A ∧ i32 p1 ∧ ¬ (0 ≤ p1 ∧ p1 ≤ 1)) : ∃ res : Int × (Nat → Int) × (Nat → zCv), sh_L_save 20000 lim hs bs gs bk gr ht dr fl P p1 = some res ∧ res.1 = (-101) ∧ i32 ((-101)) ∧ oREL size ro co ne nc lim hs bs gs bk gr ht dr tl sg ol ct res.2.1 res.2.2 A := by
  obtain ⟨G0, R0, HH, SS, TT⟩ := O
  have G : gz_ok (oh A) (ow A) size ro co ne nc := G0
  have R : Rc (oh A * ow A) bk gr ht dr lim hs bs gs (oa A) := R0
  have W : ab_wf (oh A * ow A) (ow A) 90000 (oa A) := h.1.2.2.1
  have hn16 : oh A * ow A ≤ 16 := gz_n16 G.2.1 G.2.2.2.1
  have hw45 : ow A < 5 := by have := G.2.2.2.1; omega
  refine ⟨(-101, fl, P), ?_, rfl, (show i32 (-101) from ⟨by decide, by decide⟩), G0, R0, HH, SS, TT⟩
  unfold sh_L_save sh_X8_save
  rw [rs_out h.2.1 h.2.2, Option.bind_some, if_neg (by decide), Option.bind_some]
  rfl
theorem kq_restore_n {size : Int} {ro co ne nc : Nat → Int} {lim hs bs gs : Int} {bk gr ht dr : Nat → Int} {tl : Int} {sg : Nat → Int} {ol ct : Int} {fl : Nat → Int} {P : Nat → zCv} {A : zO} (O : oREL size ro co ne nc lim hs bs gs bk gr ht dr tl sg ol ct fl P A) (p1 : Int) (h : zOK 90000 A ∧ (0 ≤ p1 ∧ p1 ≤ 1) ∧ os A p1.toNat ≠ none) : ∃ res : Int × Int × Int × Int × Int × (Nat → Int) × (Nat → Int) × (Nat → Int) × (Nat → Int) × Int × Int, sh_L_restore_n 20000 bk gr ht dr fl P p1 = some res ∧ res.1 = ab_bs ((os A p1.toNat).getD (oa A)) ∧ i32 (ab_bs ((os A p1.toNat).getD (oa A))) ∧ oREL size ro co ne nc res.2.1 res.2.2.1 res.2.2.2.1 res.2.2.2.2.1 res.2.2.2.2.2.1 res.2.2.2.2.2.2.1 res.2.2.2.2.2.2.2.1 res.2.2.2.2.2.2.2.2.1 tl sg res.2.2.2.2.2.2.2.2.2.1 res.2.2.2.2.2.2.2.2.2.2 fl P (s_restore A ((os A p1.toNat).getD (oa A))) := by
  obtain ⟨G0, R0, HH, SS, TT⟩ := O
  have G : gz_ok (oh A) (ow A) size ro co ne nc := G0
  have R : Rc (oh A * ow A) bk gr ht dr lim hs bs gs (oa A) := R0
  have W : ab_wf (oh A * ow A) (ow A) 90000 (oa A) := h.1.2.2.1
  have hn16 : oh A * ow A ≤ 16 := gz_n16 G.2.1 G.2.2.2.1
  have hw45 : ow A < 5 := by have := G.2.2.2.1; omega
  have h2 := h.2.1
  obtain ⟨s, rfl, hs2⟩ : ∃ s : Nat, p1 = (s : Int) ∧ s < 2 := ⟨p1.toNat, by omega, by omega⟩
  have h3 := h.2.2
  rw [Int.toNat_natCast] at h3 ⊢
  rcases SS s hs2 with ⟨z1, z2⟩ | ⟨a2, z1, z2, z3⟩
  · exact absurd z1 h3
  have w2 := h.1.2.2.2.2 s a2 z1
  have R' := z3.become (bk2 := bk) (gr2 := gr) (ht2 := ht) (dr2 := dr) hn16
  have b1 : (P (14 + s)).2.2.2.2.2.2.1 = ab_bs a2 := R'.2.2.2.1
  have wb := w2.2.2.2.1
  have e0 : sh_X7_isFilled 20000 fl (s : Int) = some 1 := by
    unfold sh_X7_isFilled
    rw [zkx_t (by omega) (by omega), ix_n, z2, zkc_t (Or.inr rfl)]
  rw [z1]
  refine ⟨(ab_bs a2, (P (14 + s)).2.2.2.2.1, (P (14 + s)).2.2.2.2.2.1, (P (14 + s)).2.2.2.2.2.2.1, (P (14 + s)).2.2.2.2.2.2.2, va_cpy (P (14 + s)).1 bk 0 0 96, va_cpy (P (14 + s)).2.1 gr 0 0 96, va_cpy (P (14 + s)).2.2.1 ht 0 0 16, va_cpy (P (14 + s)).2.2.2.1 dr 0 0 16, 0, 0), ?_, rfl, by unfold i32; show _ ≤ ab_bs a2 ∧ ab_bs a2 ≤ _; omega, G0, R', ⟨0, by omega, rfl, rfl, by show 0 ≤ 14; omega, fun i hi => absurd hi (Nat.not_lt_zero _)⟩, SS, TT⟩
  unfold sh_L_restore_n sh_X8_restore_n sh_X7_fetch sh_X0_become sh_X4_forget sh_X0_bucketSum
  rw [rsn_in hs2, Option.bind_some, e0, Option.bind_some, zkr_t (by decide) (by decide), if_neg (by decide), zkx_t (by omega) (by omega), Option.bind_some, Option.bind_some, Option.bind_some, Option.bind_some, Option.bind_some, ix_n, ← b1]
  rfl
theorem kq_restore_x {size : Int} {ro co ne nc : Nat → Int} {lim hs bs gs : Int} {bk gr ht dr : Nat → Int} {tl : Int} {sg : Nat → Int} {ol ct : Int} {fl : Nat → Int} {P : Nat → zCv} {A : zO} (O : oREL size ro co ne nc lim hs bs gs bk gr ht dr tl sg ol ct fl P A) (p1 : Int) (h : zOK 90000 A ∧ i32 p1) : ∃ res : Int × Int × Int × Int × Int × (Nat → Int) × (Nat → Int) × (Nat → Int) × (Nat → Int) × Int × Int, sh_L_restore 20000 lim hs bs gs bk gr ht dr ol ct fl P p1 = some res ∧ res.1 = (f_restore A p1).1 ∧ i32 ((f_restore A p1).1) ∧ oREL size ro co ne nc res.2.1 res.2.2.1 res.2.2.2.1 res.2.2.2.2.1 res.2.2.2.2.2.1 res.2.2.2.2.2.2.1 res.2.2.2.2.2.2.2.1 res.2.2.2.2.2.2.2.2.1 tl sg res.2.2.2.2.2.2.2.2.2.1 res.2.2.2.2.2.2.2.2.2.2 fl P ((f_restore A p1).2) := by
  obtain ⟨G0, R0, HH, SS, TT⟩ := O
  have G : gz_ok (oh A) (ow A) size ro co ne nc := G0
  have R : Rc (oh A * ow A) bk gr ht dr lim hs bs gs (oa A) := R0
  have W : ab_wf (oh A * ow A) (ow A) 90000 (oa A) := h.1.2.2.1
  have hn16 : oh A * ow A ≤ 16 := gz_n16 G.2.1 G.2.2.2.1
  have hw45 : ow A < 5 := by have := G.2.2.2.1; omega
  unfold f_restore
  by_cases hy : 0 ≤ p1 ∧ p1 ≤ 1
  · rw [if_pos hy]
    obtain ⟨s, rfl, hs2⟩ : ∃ s : Nat, p1 = (s : Int) ∧ s < 2 := ⟨p1.toNat, by omega, by omega⟩
    rw [Int.toNat_natCast]
    rcases SS s hs2 with ⟨z1, z2⟩ | ⟨a2, z1, z2, z3⟩
    · rw [z1]
      have e0 : sh_X7_isFilled 20000 fl (s : Int) = some 0 := by
        unfold sh_X7_isFilled
        rw [zkx_t (by omega) (by omega), ix_n, z2, zkc_t (Or.inl rfl)]
      refine ⟨(-103, lim, hs, bs, gs, bk, gr, ht, dr, ol, ct), ?_, rfl, (show i32 (-103) from ⟨by decide, by decide⟩), G0, R0, HH, SS, TT⟩
      unfold sh_L_restore sh_X8_restore
      rw [rs_in hs2, Option.bind_some, if_pos rfl, e0, Option.bind_some, zkr_t (by decide) (by decide), if_pos rfl, Option.bind_some]
      rfl
    · have w2 := h.1.2.2.2.2 s a2 z1
      have R' := z3.become (bk2 := bk) (gr2 := gr) (ht2 := ht) (dr2 := dr) hn16
      have b1 : (P (14 + s)).2.2.2.2.2.2.1 = ab_bs a2 := R'.2.2.2.1
      have wb := w2.2.2.2.1
      have e0 : sh_X7_isFilled 20000 fl (s : Int) = some 1 := by
        unfold sh_X7_isFilled
        rw [zkx_t (by omega) (by omega), ix_n, z2, zkc_t (Or.inr rfl)]
      rw [z1]
      refine ⟨(ab_bs a2, (P (14 + s)).2.2.2.2.1, (P (14 + s)).2.2.2.2.2.1, (P (14 + s)).2.2.2.2.2.2.1, (P (14 + s)).2.2.2.2.2.2.2, va_cpy (P (14 + s)).1 bk 0 0 96, va_cpy (P (14 + s)).2.1 gr 0 0 96, va_cpy (P (14 + s)).2.2.1 ht 0 0 16, va_cpy (P (14 + s)).2.2.2.1 dr 0 0 16, 0, 0), ?_, rfl, by unfold i32; (try dsimp only); omega, G0, R', ⟨0, by omega, rfl, rfl, by show 0 ≤ 14; omega, fun i hi => absurd hi (Nat.not_lt_zero _)⟩, SS, TT⟩
      unfold sh_L_restore sh_X8_restore sh_X7_fetch sh_X0_become sh_X4_forget sh_X0_bucketSum
      rw [rs_in hs2, Option.bind_some, if_pos rfl, e0, Option.bind_some, zkr_t (by decide) (by decide), if_neg (by decide), zkx_t (by omega) (by omega), Option.bind_some, Option.bind_some, Option.bind_some, Option.bind_some, Option.bind_some, ix_n, ← b1]
      rfl
  · rw [if_neg hy]
    refine ⟨(-101, lim, hs, bs, gs, bk, gr, ht, dr, ol, ct), ?_, rfl, (show i32 (-101) from ⟨by decide, by decide⟩), G0, R0, HH, SS, TT⟩
    unfold sh_L_restore sh_X8_restore
    rw [rs_out h.2 hy, Option.bind_some, if_neg (by decide), Option.bind_some]
    rfl
theorem kq_restore_t {size : Int} {ro co ne nc : Nat → Int} {lim hs bs gs : Int} {bk gr ht dr : Nat → Int} {tl : Int} {sg : Nat → Int} {ol ct : Int} {fl : Nat → Int} {P : Nat → zCv} {A : zO} (O : oREL size ro co ne nc lim hs bs gs bk gr ht dr tl sg ol ct fl P A) (p1 : Int) (h : zOK 90000 A ∧ i32 p1 ∧ ¬ (0 ≤ p1 ∧ p1 ≤ 1)) : ∃ res : Int × Int × Int × Int × Int × (Nat → Int) × (Nat → Int) × (Nat → Int) × (Nat → Int) × Int × Int, sh_L_restore 20000 lim hs bs gs bk gr ht dr ol ct fl P p1 = some res ∧ res.1 = (-101) ∧ i32 ((-101)) ∧ oREL size ro co ne nc res.2.1 res.2.2.1 res.2.2.2.1 res.2.2.2.2.1 res.2.2.2.2.2.1 res.2.2.2.2.2.2.1 res.2.2.2.2.2.2.2.1 res.2.2.2.2.2.2.2.2.1 tl sg res.2.2.2.2.2.2.2.2.2.1 res.2.2.2.2.2.2.2.2.2.2 fl P A := by
  have O' := O
  obtain ⟨res, e, e1, e2, e3⟩ := kq_restore_x O' p1 ⟨h.1, h.2.1⟩
  have hv : f_restore A p1 = ((-101), A) := by
    unfold f_restore
    rw [if_neg h.2.2]
  rw [hv] at e1 e2 e3
  exact ⟨res, e, e1, e2, e3⟩
theorem kq_load_x {size : Int} {ro co ne nc : Nat → Int} {lim hs bs gs : Int} {bk gr ht dr : Nat → Int} {tl : Int} {sg : Nat → Int} {ol ct : Int} {fl : Nat → Int} {P : Nat → zCv} {A : zO} (O : oREL size ro co ne nc lim hs bs gs bk gr ht dr tl sg ol ct fl P A) (h : zOK 90000 A) : ∃ res : Int × Int × (Nat → Int) × (Nat → Int) × (Nat → Int) × (Nat → Int) × Int × Int × Int × Int × (Nat → Int) × (Nat → Int) × (Nat → Int) × (Nat → Int) × Int × Int × (Nat → Int), sh_L_load 20000 size ro co ne nc lim hs bs gs bk gr ht dr tl sg ol ct fl = some res ∧ res.1 = (f_load A).1 ∧ i32 ((f_load A).1) ∧ oREL res.2.1 res.2.2.1 res.2.2.2.1 res.2.2.2.2.1 res.2.2.2.2.2.1 res.2.2.2.2.2.2.1 res.2.2.2.2.2.2.2.1 res.2.2.2.2.2.2.2.2.1 res.2.2.2.2.2.2.2.2.2.1 res.2.2.2.2.2.2.2.2.2.2.1 res.2.2.2.2.2.2.2.2.2.2.2.1 res.2.2.2.2.2.2.2.2.2.2.2.2.1 res.2.2.2.2.2.2.2.2.2.2.2.2.2.1 tl sg res.2.2.2.2.2.2.2.2.2.2.2.2.2.2.1 res.2.2.2.2.2.2.2.2.2.2.2.2.2.2.2.1 res.2.2.2.2.2.2.2.2.2.2.2.2.2.2.2.2 P ((f_load A).2) := by
  obtain ⟨G0, R0, HH, SS, TT⟩ := O
  have G : gz_ok (oh A) (ow A) size ro co ne nc := G0
  have R : Rc (oh A * ow A) bk gr ht dr lim hs bs gs (oa A) := R0
  have W : ab_wf (oh A * ow A) (ow A) 90000 (oa A) := h.2.2.1
  have hn16 : oh A * ow A ≤ 16 := gz_n16 G.2.1 G.2.2.2.1
  have hw45 : ow A < 5 := by have := G.2.2.2.1; omega
  obtain ⟨t1, t2, t3⟩ := oTX.ok TT
  have e1 := c_findError (F := 20000) (by omega) t2
  rw [tx_cg t3] at e1
  have rg := tx_err_rng (s := oS A) TT.2.1
  have e0 := TT.1
  subst e0
  unfold f_load v_err
  by_cases he : tx_err (oL A) (oS A) = -9
  · rw [if_pos he]
    obtain ⟨h', w', b', r, hh, hw, hb', s1, s2, s3, hps⟩ := tx_good he
    have s1' : sg_of (oL A) sg 1 - 48 = (h' : Int) := by rw [t3]; exact s1
    have s2' : sg_of (oL A) sg 2 - 48 = (w' : Int) := by rw [t3]; exact s2
    have s3' : sg_of (oL A) sg 3 - 48 = b' := by rw [t3]; exact s3
    have hps' : ps (oL A) sg (h' * w') 4 = .inr r := by rw [ps_cg t3]; exact hps
    obtain ⟨ro', co', ne', nc', bk', gr', ht', dr', b1, G', R'⟩ := c_build (F := 20000) (by omega) t2 hh hw hb' s1' s2' s3' hps' ro co ne nc bk gr ht dr
    have es : s_load A = (h', w', ab_new r.2 b', (0, oH A), (fun _ => none), oL A, oS A) := by
      unfold s_load
      rw [s1, s2, s3]
      dsimp only
      rw [Int.toNat_natCast, Int.toNat_natCast, hps]
      rfl
    rw [es]
    have hn16' := gz_n16 hh.2 hw.2
    rw [he] at e1
    refine ⟨(((h' * w' : Nat) : Int), ((h' * w' : Nat) : Int), ro', co', ne', nc', b', 0, 0, 0, bk', gr', ht', dr', 0, 0, va_up (va_up fl 0 0) 1 0), ?_, rfl, ?_, G', R', ⟨0, by omega, rfl, rfl, by show 0 ≤ 14; omega, fun i hi => absurd hi (Nat.not_lt_zero _)⟩, fun s hs2 => Or.inl ⟨rfl, ?_⟩, TT⟩
    · unfold sh_L_load sh_X8_load sh_X4_forget sh_X2_size
      rw [e1, Option.bind_some, zkr_t (by decide) (by decide), if_pos rfl, b1, Option.bind_some, Option.bind_some, c_forget7 (by omega), Option.bind_some, Option.bind_some, Option.bind_some]
      rfl
    · unfold i32
      show _ ≤ ((h' * w' : Nat) : Int) ∧ ((h' * w' : Nat) : Int) ≤ _
      generalize h' * w' = N at hn16'
      omega
    · have : s = 0 ∨ s = 1 := by omega
      rcases this with rfl | rfl <;> rfl
  · rw [if_neg he]
    refine ⟨(-103, size, ro, co, ne, nc, lim, hs, bs, gs, bk, gr, ht, dr, ol, ct, fl), ?_, rfl, (show i32 (-103) from ⟨by decide, by decide⟩), G0, R0, HH, SS, TT⟩
    unfold sh_L_load sh_X8_load
    rw [e1, Option.bind_some, zkr_t (by omega) (by omega), if_neg he, Option.bind_some]
    rfl
