/-! THE LAW'S METHODS OVER THE OBJECT: done -/
def vs (n w : Nat) : Nat → Nat → (Nat → Int) → zAb → Int → Prop
  | 0, _, _, _, g => g = 0
  | m + 1, d, tr, a, g => ∃ p : Nat, p < n ∧ tr d = (p : Int) ∧ 0 < ab_slack n w a p ∧ vs n w m (d + 1) tr (ab_take a p) (g - ab_grade (ab_col a p) 0)
theorem bs_vs {n w : Nat} : ∀ (m d : Nat) (s : Int) (tr : Nat → Int) (a : zAb) (B : zBst), bs n w m d s tr a B = B ∨ ∃ tr' g, bs n w m d s tr a B = (s + g, tr') ∧ (∀ j, j < d → tr' j = tr j) ∧ vs n w m d tr' a g
  | 0, d, s, tr, a, B => by
    rw [bs]
    split
    · exact Or.inr ⟨tr, 0, by rw [Int.add_zero], fun j _ => rfl, rfl⟩
    · exact Or.inl rfl
  | m + 1, d, s, tr, a, B => by
    rw [bs_s]
    have step : ∀ (p : Nat) (B : zBst), p < n → bs_f n w m d s tr a p B = B ∨ ∃ tr' g, bs_f n w m d s tr a p B = (s + g, tr') ∧ (∀ j, j < d → tr' j = tr j) ∧ vs n w (m + 1) d tr' a g := by
      intro p B hp
      unfold bs_f
      by_cases c : 0 < ab_slack n w a p
      · rw [if_pos c]
        rcases bs_vs m (d + 1) (s + ab_grade (ab_col a p) 0) (va_up tr d (p : Int)) (ab_take a p) B with h | ⟨tr', g, h1, h2, h3⟩
        · exact Or.inl h
        · refine Or.inr ⟨tr', ab_grade (ab_col a p) 0 + g, by rw [h1, Int.add_assoc], fun j hj => ?_, p, hp, ?_, c, ?_⟩
          · rw [h2 j (by omega), up_n _ _ _ (by omega)]
          · rw [h2 d (by omega), up_s]
          · have e : ab_grade (ab_col a p) 0 + g - ab_grade (ab_col a p) 0 = g := by omega
            rw [e]; exact h3
      · rw [if_neg c]; exact Or.inl rfl
    have all : ∀ (c p : Nat) (B : zBst), p + c ≤ n → fo (bs_f n w m d s tr a) c p B = B ∨ ∃ tr' g, fo (bs_f n w m d s tr a) c p B = (s + g, tr') ∧ (∀ j, j < d → tr' j = tr j) ∧ vs n w (m + 1) d tr' a g := by
      intro c
      induction c with
      | zero => intro p B _; exact Or.inl rfl
      | succ c ih =>
        intro p B hp
        rw [fo]
        rcases ih (p + 1) (bs_f n w m d s tr a p B) (by omega) with h | h
        · rw [h]; exact step p B (by omega)
        · exact Or.inr h
    exact all n 0 B (by omega)
/-- the last remembered states -/
def stk (B : zO) (l : List zAb) : Prop := l.length ≤ oc B ∧ ∀ j x, l[j]? = some x → oH B (oc B - 1 - j) = x
theorem stk.push {B : zO} {l : List zAb} (h : stk B l) (hl : l.length < 14) (h14 : oc B ≤ 14) (a' : zAb) : stk (s_act B a') (oa B :: l) := by
  obtain ⟨h1, h2⟩ := h
  have key : ∀ nt, s_note B = nt → (oa B :: l).length ≤ nt.1 ∧ ∀ j x, (oa B :: l)[j]? = some x → nt.2 (nt.1 - 1 - j) = x := by
    rintro nt rfl
    unfold s_note
    by_cases hc : oc B = 14
    · rw [if_pos hc]
      try dsimp only
      refine ⟨by rw [List.length_cons]; omega, fun j x hx => ?_⟩
      cases j with
      | zero =>
        rw [if_pos rfl]
        exact Option.some.inj hx
      | succ j =>
        rw [List.getElem?_cons_succ] at hx
        have hj := (List.getElem?_eq_some_iff.mp hx).1
        rw [if_neg (by omega), ← h2 j x hx, hc]
        congr 1
        omega
    · rw [if_neg hc]
      try dsimp only
      refine ⟨by rw [List.length_cons]; omega, fun j x hx => ?_⟩
      cases j with
      | zero =>
        rw [if_pos (by omega)]
        exact Option.some.inj hx
      | succ j =>
        rw [List.getElem?_cons_succ] at hx
        have hj := (List.getElem?_eq_some_iff.mp hx).1
        rw [if_neg (by omega), ← h2 j x hx]
        congr 1
        omega
  exact key (s_note B) rfl
theorem stk.pop {B : zO} {x : zAb} {l : List zAb} (h : stk B (x :: l)) : 0 < oc B ∧ oa (s_undo B) = x ∧ stk (s_undo B) l := by
  obtain ⟨h1, h2⟩ := h
  rw [List.length_cons] at h1
  refine ⟨by omega, ?_, ?_, fun j y hy => ?_⟩
  · have := h2 0 x rfl
    show oH B (oc B - 1) = x
    rw [← this]
    congr 1
  · show l.length ≤ oc B - 1
    omega
  · have := h2 (j + 1) y (by rw [List.getElem?_cons_succ]; exact hy)
    show oH B (oc B - 1 - 1 - j) = y
    rw [← this]
    congr 1
    omega
theorem s_undo_ok {b : Int} {B : zO} (W : zOK b B) (hc : 0 < oc B) : zOK b (s_undo B) :=
  ⟨W.1, W.2.1, W.2.2.2.1 (oc B - 1) (by omega), fun i hi => W.2.2.2.1 i (by have hi : i < oc B - 1 := hi; omega), W.2.2.2.2⟩
theorem s_note_le {B : zO} (h : oc B ≤ 14) : (s_note B).1 ≤ 14 := by
  unfold s_note
  split
  · exact Nat.le_refl _
  · show oc B + 1 ≤ 14; omega
theorem ab_go_dr {n w : Nat} {b : Int} : ∀ (m : Nat) (a : zAb), ab_wf n w b a → ∀ q, ab_dr a q ≤ ab_dr (ab_go n w m a).2 q := by
  intro m
  induction m generalizing b with
  | zero => intro a _ q; exact Int.le_refl _
  | succ m ih =>
    intro a W q
    rw [ab_go]
    by_cases c : ab_next n w a = -9
    · rw [if_pos c]; exact Int.le_refl _
    · rw [if_neg c]
      obtain ⟨n1, n2, n3, n4⟩ := ab_next_take W c
      have := ih (ab_take a (ab_next n w a).toNat) n4 q
      refine Int.le_trans ?_ this
      by_cases e : q = (ab_next n w a).toNat
      · rw [e, tk_dr_s]; omega
      · rw [tk_dr_n a e]; exact Int.le_refl _
theorem ab_go_gs {n w : Nat} {b : Int} : ∀ (m : Nat) (a : zAb), ab_wf n w b a → ab_gs a ≤ ab_gs (ab_go n w m a).2 := by
  intro m
  induction m generalizing b with
  | zero => intro a _; exact Int.le_refl _
  | succ m ih =>
    intro a W
    rw [ab_go]
    by_cases c : ab_next n w a = -9
    · rw [if_pos c]; exact Int.le_refl _
    · rw [if_neg c]
      obtain ⟨n1, n2, n3, n4⟩ := ab_next_take W c
      refine Int.le_trans ?_ (ih (ab_take a (ab_next n w a).toNat) n4)
      have := ab_grade0 (W.1 _ n1).1 n3
      show ab_gs a ≤ ab_gs a + ab_grade (ab_col a (ab_next n w a).toNat) 0
      omega
theorem ab_sim_gs {n w : Nat} {b : Int} : ∀ (m : Nat) (x : Int) (a : zAb), ab_wf n w b a → ab_gs a ≤ ab_gs (ab_sim n w m x a) := by
  intro m
  induction m generalizing b with
  | zero => intro x a _; exact Int.le_refl _
  | succ m ih =>
    intro x a W
    rw [ab_sim]
    refine Int.le_trans ?_ (ih _ _ (ab_rnd_wf W _))
    unfold ab_rnd
    split
    · exact Int.le_trans (Int.le_refl _) (ab_go_gs 1 (ab_flip a _) (ab_flip_wf W _))
    · exact ab_go_gs 1 a W
theorem go_facts {n w : Nat} {b : Int} {a : zAb} (W : ab_wf n w b a) : (0 < (ab_go n w 3 a).1 ↔ ab_next n w a ≠ -9) ∧ (1 < (ab_go n w 3 a).1 ↔ ab_next n w (ab_go n w 1 a).2 ≠ -9) ∧ (ab_next n w a ≠ -9 → 0 < ab_dr (ab_go n w 3 a).2 (ab_next n w a).toNat) := by
  have e3 : ab_go n w 3 a = if ab_next n w a = -9 then (0, a) else ((ab_go n w 2 (ab_take a (ab_next n w a).toNat)).1 + 1, (ab_go n w 2 (ab_take a (ab_next n w a).toNat)).2) := rfl
  have e1 : ab_go n w 1 a = if ab_next n w a = -9 then (0, a) else ((ab_go n w 0 (ab_take a (ab_next n w a).toNat)).1 + 1, (ab_go n w 0 (ab_take a (ab_next n w a).toNat)).2) := rfl
  by_cases c : ab_next n w a = -9
  · rw [if_pos c] at e3 e1
    rw [e3, e1]
    try dsimp only
    exact ⟨⟨fun z => by omega, fun z => absurd c z⟩, ⟨fun z => by omega, fun z => absurd c z⟩, fun z => absurd c z⟩
  · rw [if_neg c] at e3 e1
    obtain ⟨n1, n2, n3, n4⟩ := ab_next_take W c
    rw [e3, e1]
    try dsimp only
    have r2 := (ab_go_rng 2 (b + 1) _ n4).1
    have e2 : ab_go n w 2 (ab_take a (ab_next n w a).toNat) = if ab_next n w (ab_take a (ab_next n w a).toNat) = -9 then (0, ab_take a (ab_next n w a).toNat) else ((ab_go n w 1 (ab_take (ab_take a (ab_next n w a).toNat) (ab_next n w (ab_take a (ab_next n w a).toNat)).toNat)).1 + 1, (ab_go n w 1 (ab_take (ab_take a (ab_next n w a).toNat) (ab_next n w (ab_take a (ab_next n w a).toNat)).toNat)).2) := rfl
    refine ⟨⟨fun _ => c, fun _ => by omega⟩, ?_, fun _ => ?_⟩
    · show _ ↔ ab_next n w (ab_take a (ab_next n w a).toNat) ≠ -9
      by_cases c2 : ab_next n w (ab_take a (ab_next n w a).toNat) = -9
      · rw [if_pos c2] at e2
        rw [e2]
        try dsimp only
        exact ⟨fun z => by omega, fun z => absurd c2 z⟩
      · rw [if_neg c2] at e2
        obtain ⟨m1, m2, m3, m4⟩ := ab_next_take n4 c2
        have r1 := (ab_go_rng 1 (b + 1 + 1) _ m4).1
        rw [e2]
        try dsimp only
        exact ⟨fun _ => c2, fun _ => by omega⟩
    · have h1 := ab_go_dr 2 _ n4 (ab_next n w a).toNat
      rw [tk_dr_s] at h1
      have h2 := (W.1 _ n1).2.1
      omega
theorem scr_6000 {n w : Nat} (a : zAb) : ab_scr n w 6000 1 1 0 a = 0 := by
  have : ab_cmd n w a (sc_d 6000 1 0) = none := by
    unfold ab_cmd
    rw [show sc_d 6000 1 0 = 6000 by decide, if_pos (by decide), if_neg (by decide)]
  rw [ab_scr, this]
  rfl
theorem scr_6003 {n w : Nat} (a : zAb) : ab_scr n w 6003 1 1 0 a = if (ab_go n w 3 a).1 = 3 then -9 else 0 := by
  have : ab_cmd n w a (sc_d 6003 1 0) = if (ab_go n w 3 a).1 = ((3 : Nat) : Int) then some (ab_go n w 3 a).2 else none := by
    unfold ab_cmd
    rw [show sc_d 6003 1 0 = 6003 by decide, if_pos (by decide), if_pos (by decide)]
  rw [ab_scr, this]
  by_cases c : (ab_go n w 3 a).1 = ((3 : Nat) : Int)
  · rw [if_pos c, if_pos (by omega)]
    rfl
  · rw [if_neg c, if_neg (by omega)]
    rfl
section DN
variable {A : zO} {b : Int}
/-- from a state on whose last one remembered is the first one, to the end of done -/
theorem dn_357 (W : zOK b A) (hb : 0 ≤ b ∧ b ≤ 80000) {F : Nat} (hF : 100 ≤ F) {y : Nat} (hy : y ≤ 2147483647) {B : zO} {b' : Int} (WB : zOK b' B) (hb' : b' ≤ 90000) (hs : sameG A B) (ho : os B = os (s_save A 0)) (h14 : oc B ≤ 14) (hk : stk B [oa A]) : ∃ A', sh_L_done_J357 F (y : Int) (nowv (onn A) (oa A)) (ab_bs (oa A)) (ab_go (onn A) (ow A) 3 (oa A)).1 B = some (1, A') ∧ zOK b A' ∧ sameG A A' := by
  obtain ⟨hs1, hs2⟩ := hs
  have en : onn B = onn A := by unfold onn; rw [hs1, hs2]
  obtain ⟨p1, p2, p3⟩ := hk.pop
  have W9 := W.mono (b' := 90000) (by omega)
  have WB9 := WB.mono hb'
  have WU : zOK 90000 (s_undo B) := s_undo_ok WB9 p1
  have eu : kn_undo B = some (((oc B - 1 : Nat) : Int), s_undo B) := by unfold kn_undo; rw [kx_t ⟨WB9, p1⟩]
  have enU : onn (s_undo B) = onn A := en
  have ewU : ow (s_undo B) = ow A := hs2
  have nr := nowv_rng W9.wf
  have eN : sh_L_now F (s_undo B) = some (nowv (onn A) (oa A)) := now_same W9 WU enU p2 hF
  have gr := (ab_go_rng 3 b (oa A) W.wf).1
  have e3 : kn_script (s_undo B) 1 6003 = some (if (ab_go (onn A) (ow A) 3 (oa A)).1 = 3 then -9 else 0) := by
    unfold kn_script v_scr
    rw [kx_t ⟨WU, ⟨by decide, by decide⟩, by decide, by decide⟩, enU, ewU, p2]
    exact congrArg some (scr_6003 (oa A))
  have e4 : kn_simulate (s_undo B) (y : Int) 5 = some (v_sim (s_undo B) ((y : Int) * 4294967311) 5) := by
    unfold kn_simulate
    rw [kx_t ⟨WU, ⟨by omega, by omega⟩, by decide, by decide⟩]
  have hsim : ¬ v_sim (s_undo B) ((y : Int) * 4294967311) 5 < 0 := by
    have := ab_sim_gs (5 : Int).toNat ((y : Int) * 4294967311) (oa (s_undo B)) WU.wf
    unfold v_sim
    omega
  have eo : os (s_undo B) (0 : Int).toNat = some (oa A) := by
    show os B 0 = _
    rw [ho]; rfl
  have er : kn_restore (s_undo B) 0 = some (ab_bs (oa A), s_restore (s_undo B) (oa A)) := by
    unfold kn_restore
    rw [kx_t ⟨WU, ⟨by decide, by decide⟩, by rw [eo]; exact fun z => by cases z⟩, eo]
    rfl
  have WR : zOK b (s_restore (s_undo B) (oa A)) := by
    refine ⟨by show 1 ≤ oh B ∧ oh B ≤ 4; rw [hs1]; exact W.1, by show 1 ≤ ow B ∧ ow B ≤ 4; rw [hs2]; exact W.2.1, ?_, fun i hi => absurd hi (Nat.not_lt_zero _), fun s a hs => ?_⟩
    · show ab_wf (onn B) (ow B) b (oa A)
      rw [en, hs2]; exact W.wf
    · show ab_wf (onn B) (ow B) b a
      rw [en, hs2]
      have hs : os B s = some a := hs
      rw [ho] at hs
      have hs : (if s = (0 : Int).toNat then some (oa A) else os A s) = some a := hs
      split at hs
      · cases hs; exact W.wf
      · exact W.2.2.2.2 s a hs
  have eR : sh_L_now F (s_restore (s_undo B) (oa A)) = some (nowv (onn A) (oa A)) := now_same W9 (WR.mono (by omega)) en rfl hF
  have et : kt_undo (s_restore (s_undo B) (oa A)) = some (-103) := by unfold kt_undo; rw [kx_t ⟨WR.mono (by omega), rfl⟩]
  have wbs := W.wf.2.2.2.1
  refine ⟨s_restore (s_undo B) (oa A), ?_, WR, hs1, hs2⟩
  unfold sh_L_done_J357
  rw [eu, Option.bind_some]
  try dsimp only
  rw [if_neg (by omega), eN, Option.bind_some, zkl_t (by omega) (by omega), zkl_t (by omega) (by omega), if_pos rfl, e3, Option.bind_some, zkr_t (by omega) (by omega), if_pos rfl, e4, Option.bind_some, if_neg hsim, Option.bind_some, zkl_t (by omega) (by omega), if_pos rfl, er, Option.bind_some]
  try dsimp only
  rw [zkr_t (by omega) (by omega), if_pos rfl, eR, Option.bind_some, zkl_t (by omega) (by omega), if_pos rfl, et, Option.bind_some, if_pos rfl]
theorem dn_244 (W : zOK b A) (hb : 0 ≤ b ∧ b ≤ 80000) {F : Nat} (hF : 100 ≤ F) {y : Nat} (hy : y ≤ 2147483647) {B : zO} {b' : Int} (WB : zOK b' B) (hb' : b ≤ b' ∧ b' ≤ 89000) (hs : sameG A B) (ho : os B = os (s_save A 0)) (h14 : oc B ≤ 14) (ha : oa B = oa A) : ∃ A', sh_L_done_J244 F (y : Int) (nowv (onn A) (oa A)) (ab_bs (oa A)) B = some (1, A') ∧ zOK b A' ∧ sameG A A' := by
  have hs' := hs
  obtain ⟨hs1, hs2⟩ := hs
  have en : onn B = onn A := by unfold onn; rw [hs1, hs2]
  have W9 := W.mono (b' := 90000) (by omega)
  have WB9 := WB.mono (b' := 90000) (by omega)
  obtain ⟨g1, g2, g3⟩ := go_facts W.wf
  have gr := ab_go_rng 3 b (oa A) W.wf
  have e1 : kn_ahead B 0 = some (ab_next (onn A) (ow A) (oa A)) := by
    unfold kn_ahead v_ahead
    rw [kx_t ⟨WB9, by decide, by decide⟩, en, hs2, ha]
    rfl
  have e2 : kn_ahead B 1 = some (ab_next (onn A) (ow A) (ab_go (onn A) (ow A) 1 (oa A)).2) := by
    unfold kn_ahead v_ahead
    rw [kx_t ⟨WB9, by decide, by decide⟩, en, hs2, ha]
    rfl
  have e3 : kn_byOrder B 3 = some ((ab_go (onn A) (ow A) 3 (oa A)).1, s_go B 3) := by
    unfold kn_byOrder
    rw [kx_t ⟨WB9, by decide, by decide⟩, en, hs2, ha]
    rfl
  have eg : s_go B 3 = s_act B (ab_go (onn A) (ow A) 3 (oa A)).2 := by
    unfold s_go
    rw [en, hs2, ha]
    rfl
  have WG : zOK (b' + 3) (s_go B 3) := by
    rw [eg]
    refine s_act_ok WB (by omega) ?_
    rw [en, hs2]
    exact gr.2.mono (by omega)
  have eaG : oa (s_go B 3) = (ab_go (onn A) (ow A) 3 (oa A)).2 := by rw [eg]; rfl
  have enG : onn (s_go B 3) = onn A := en
  have e4 : kn_script (s_go B 3) 1 6000 = some 0 := by
    unfold kn_script v_scr
    rw [kx_t ⟨WG.mono (by omega), ⟨by decide, by decide⟩, by decide, by decide⟩]
    exact congrArg some (scr_6000 _)
  have hk : stk (s_go B 3) [oa A] := by
    rw [eg, ← ha]
    exact stk.push ⟨Nat.zero_le _, fun j x hx => by cases hx⟩ (by decide) h14 _
  have hJ := dn_357 W hb hF hy WG (by omega) (show sameG A (s_go B 3) from hs') ho (by rw [eg]; exact s_note_le h14) hk
  have nx := ab_next_rng (onn A) (ow A) (oa A)
  unfold sh_L_done_J244
  rw [e1, Option.bind_some, e2, Option.bind_some, e3, Option.bind_some]
  try dsimp only
  have c1 : (if (0 : Int) < (ab_go (onn A) (ow A) 3 (oa A)).1 then (1 : Int) else (0 : Int)) = (if ab_next (onn A) (ow A) (oa A) = (-9 : Int) then (0 : Int) else (1 : Int)) := by
    by_cases c : ab_next (onn A) (ow A) (oa A) = -9
    · rw [if_pos c, if_neg (fun z => g1.mp z c)]
    · rw [if_neg c, if_pos (g1.mpr c)]
  have c2 : (if (1 : Int) < (ab_go (onn A) (ow A) 3 (oa A)).1 then (1 : Int) else (0 : Int)) = (if ab_next (onn A) (ow A) (ab_go (onn A) (ow A) 1 (oa A)).2 = (-9 : Int) then (0 : Int) else (1 : Int)) := by
    by_cases c : ab_next (onn A) (ow A) (ab_go (onn A) (ow A) 1 (oa A)).2 = -9
    · rw [if_pos c, if_neg (fun z => g2.mp z c)]
    · rw [if_neg c, if_pos (g2.mpr c)]
  rw [if_pos c1, if_pos c2, e4, Option.bind_some, if_pos rfl]
  by_cases c9 : ab_next (onn A) (ow A) (oa A) = -9
  · rw [if_pos c9]; exact hJ
  · obtain ⟨p, q1, q2, q3⟩ : ∃ p : Nat, p < onn A ∧ ab_next (onn A) (ow A) (oa A) = (p : Int) ∧ 0 < ab_slack (onn A) (ow A) (oa A) p := by
      rcases nx with z | z
      · exact absurd z c9
      · exact z
    have d3 := g3 c9
    rw [q2, Int.toNat_natCast] at d3
    have ed : kn_drawn (s_go B 3) (p : Int) = some (ab_dr (ab_go (onn A) (ow A) 3 (oa A)).2 p) := by
      unfold kn_drawn
      rw [kx_t ⟨WG.mono (by omega), isP_nat (by rw [enG]; exact q1)⟩, Int.toNat_natCast, eaG]
    rw [if_neg c9, q2, ed, Option.bind_some, if_pos d3]
    exact hJ
/-- the way of the best sequence -/
theorem dn_way {F : Nat} {y n0 : Nat} (hn0 : ((1 : Int) + (zmod (y : Int) (4 : Int))) = (n0 : Int)) (hn : 1 ≤ n0 ∧ n0 ≤ 4) {q : Int × zO} (Wq : zOK 90000 q.2) (K : Int → (Nat → Int) → Option (Int × zO)) {v : Nat → Int} (hv : ∀ j, j < n0 → v_best q.2 (n0 : Int) (j : Int) = v j) : ∀ (m i N : Nat) (f : Nat → Int), i + m = n0 → m < N → (∀ j, j < i → f j = v j) → ∃ f', sh_L_done_L80 F (y : Int) q K N (i : Int) f = K (n0 : Int) f' ∧ ∀ j, j < n0 → f' j = v j := by
  intro m
  induction m with
  | zero =>
    intro i N f hi hN hf
    obtain ⟨N, rfl⟩ : ∃ M, N = M + 1 := ⟨N - 1, by omega⟩
    have : i = n0 := by omega
    subst this
    refine ⟨f, ?_, hf⟩
    rw [sh_L_done_L80, hn0, zkr_t (by omega) (by omega), zkr_t (by omega) (by omega), if_neg (by omega)]
  | succ m ih =>
    intro i N f hi hN hf
    obtain ⟨N, rfl⟩ : ∃ M, N = M + 1 := ⟨N - 1, by omega⟩
    have e1 : kn_best q.2 (n0 : Int) (i : Int) = some (v_best q.2 (n0 : Int) (i : Int)) := by unfold kn_best; rw [kx_t ⟨Wq, ⟨by omega, by omega⟩, by omega, by omega⟩]
    rw [sh_L_done_L80, hn0, zkr_t (by omega) (by omega), zkr_t (by omega) (by omega), if_pos (by omega), e1, Option.bind_some, zkx_t (by omega) (by omega), ix_n, nc_s]
    refine ih (i + 1) N _ (by omega) (by omega) (fun j hj => ?_)
    by_cases e : j = i
    · subst e; rw [up_s, hv j (by omega)]
    · rw [up_n _ _ _ e, hf j (by omega)]
/-- on the way: the states that stand above the first one -/
def dnI (A : zO) (b : Int) (i : Nat) (B : zO) (l : List zAb) : Prop := sameG A B ∧ os B = os (s_save A 0) ∧ oc B ≤ 14 ∧ zOK (b + (i : Int)) B ∧ stk B l ∧ (oa B :: l).getLast? = some (oa A)
theorem dn_draw (hb : 0 ≤ b ∧ b ≤ 80000) {F : Nat} {y n0 : Nat} (hn0 : ((1 : Int) + (zmod (y : Int) (4 : Int))) = (n0 : Int)) (hn : 1 ≤ n0 ∧ n0 ≤ 4) {v f : Nat → Int} (hf : ∀ j, j < n0 → f j = v j) (K : Int → zO → Option (Int × zO)) : ∀ (m i N : Nat) (g : Int) (B : zO) (l : List zAb), i + m = n0 → m < N → l.length = i → dnI A b i B l → vs (onn A) (ow A) m i v (oa B) g → ∃ B' l', sh_L_done_L109 F (y : Int) f K N (i : Int) B = K (n0 : Int) B' ∧ l'.length = n0 ∧ dnI A b n0 B' l' ∧ ab_gs (oa B') = ab_gs (oa B) + g := by
  intro m
  induction m with
  | zero =>
    intro i N g B l hi hN hl I hv
    obtain ⟨N, rfl⟩ : ∃ M, N = M + 1 := ⟨N - 1, by omega⟩
    have : i = n0 := by omega
    subst this
    have hg : g = 0 := hv
    refine ⟨B, l, ?_, hl, I, by omega⟩
    rw [sh_L_done_L109, hn0, zkr_t (by omega) (by omega), zkr_t (by omega) (by omega), if_neg (by omega)]
  | succ m ih =>
    intro i N g B l hi hN hl I hv
    obtain ⟨N, rfl⟩ : ∃ M, N = M + 1 := ⟨N - 1, by omega⟩
    obtain ⟨i1, i2, i3, i4, i5, i6⟩ := I
    obtain ⟨p, v1, v2, v3, v4⟩ := hv
    have en : onn B = onn A := by unfold onn; rw [i1.1, i1.2]
    have ew := i1.2
    have v3' : 0 < ab_slack (onn B) (ow B) (oa B) p := by rw [en, ew]; exact v3
    have hpB : p < onn B := by omega
    have hs : 0 < v_slack B (p : Int) := by unfold v_slack; rw [Int.toNat_natCast]; exact v3'
    have hcol := (ab_slack_pos i4.wf hpB v3').2.1
    have g0 := ab_grade0 (i4.wf.1 p hpB).1 hcol
    have ed : kn_draw B (p : Int) = some (ab_grade (ab_col (oa B) p) 0, s_draw B (p : Int)) := by
      unfold kn_draw
      rw [kx_t ⟨i4.mono (by omega), isP_nat hpB, hs⟩, Int.toNat_natCast]
    have es : s_draw B (p : Int) = s_act B (ab_take (oa B) p) := by unfold s_draw; rw [Int.toNat_natCast]
    have I' : dnI A b (i + 1) (s_draw B (p : Int)) (oa B :: l) := by
      rw [es]
      refine ⟨i1, i2, s_note_le i3, ?_, i5.push (by omega) i3 _, ?_⟩
      · refine s_act_ok i4 (by omega) ?_
        exact (ab_take_wf i4.wf hpB v3').mono (by omega)
      · rw [List.getLast?_cons_cons]; exact i6
    rw [sh_L_done_L109, hn0, zkr_t (by omega) (by omega), zkr_t (by omega) (by omega), if_pos (by omega), zkx_t (by omega) (by omega), ix_n, hf i (by omega), v2, ed, Option.bind_some]
    try dsimp only
    rw [if_neg (by omega), nc_s]
    obtain ⟨B', l', r1, r2, r3, r4⟩ := ih (i + 1) N (g - ab_grade (ab_col (oa B) p) 0) (s_draw B (p : Int)) (oa B :: l) (by omega) (by omega) (by rw [List.length_cons, hl]) I' (by rw [es]; exact v4)
    refine ⟨B', l', r1, r2, r3, ?_⟩
    have : ab_gs (oa (s_draw B (p : Int))) = ab_gs (oa B) + ab_grade (ab_col (oa B) p) 0 := by rw [es]; rfl
    omega
theorem dn_undo {F : Nat} {y n0 : Nat} {c : Int} (hc : b ≤ c ∧ c ≤ 89000) (hn0 : ((1 : Int) + (zmod (y : Int) (4 : Int))) = (n0 : Int)) (hn : 1 ≤ n0 ∧ n0 ≤ 4) (K : Int → zO → Option (Int × zO)) : ∀ (m i N : Nat) (B : zO) (l : List zAb), i + m = n0 → m < N → l.length = m → (sameG A B ∧ os B = os (s_save A 0) ∧ oc B ≤ 14 ∧ zOK c B ∧ stk B l ∧ (oa B :: l).getLast? = some (oa A)) → ∃ B', sh_L_done_L191 F (y : Int) K N (i : Int) B = K (n0 : Int) B' ∧ sh_L_done_L191_2 F (y : Int) K N (i : Int) B = K (n0 : Int) B' ∧ sameG A B' ∧ os B' = os (s_save A 0) ∧ oc B' ≤ 14 ∧ zOK c B' ∧ oa B' = oa A := by
  intro m
  induction m with
  | zero =>
    intro i N B l hi hN hl I
    obtain ⟨N, rfl⟩ : ∃ M, N = M + 1 := ⟨N - 1, by omega⟩
    have : i = n0 := by omega
    subst this
    obtain ⟨i1, i2, i3, i4, i5, i6⟩ := I
    have : l = [] := List.length_eq_zero_iff.mp hl
    subst this
    refine ⟨B, ?_, ?_, i1, i2, i3, i4, Option.some.inj i6⟩
    · rw [sh_L_done_L191, hn0, zkr_t (by omega) (by omega), zkr_t (by omega) (by omega), if_neg (by omega)]
    · rw [sh_L_done_L191_2, hn0, zkr_t (by omega) (by omega), zkr_t (by omega) (by omega), if_neg (by omega)]
  | succ m ih =>
    intro i N B l hi hN hl I
    obtain ⟨N, rfl⟩ : ∃ M, N = M + 1 := ⟨N - 1, by omega⟩
    obtain ⟨i1, i2, i3, i4, i5, i6⟩ := I
    cases l with
    | nil => cases hl
    | cons x l =>
      obtain ⟨p1, p2, p3⟩ := i5.pop
      have eu : kn_undo B = some (((oc B - 1 : Nat) : Int), s_undo B) := by unfold kn_undo; rw [kx_t ⟨i4.mono (by omega), p1⟩]
      obtain ⟨B', r1, r2, r3⟩ := ih (i + 1) N (s_undo B) l (by omega) (by omega) (by rw [List.length_cons] at hl; omega) ⟨i1, i2, by show oc B - 1 ≤ 14; omega, s_undo_ok i4 p1, p3, by rw [p2]; rw [List.getLast?_cons_cons] at i6; exact i6⟩
      refine ⟨B', ?_, ?_, r3⟩
      · rw [sh_L_done_L191, hn0, zkr_t (by omega) (by omega), zkr_t (by omega) (by omega), if_pos (by omega), eu, Option.bind_some]
        try dsimp only
        rw [if_neg (by omega), nc_s]
        exact r1
      · rw [sh_L_done_L191_2, hn0, zkr_t (by omega) (by omega), zkr_t (by omega) (by omega), if_pos (by omega), eu, Option.bind_some]
        try dsimp only
        rw [if_neg (by omega), nc_s]
        exact r2
theorem done_ok (W : zOK b A) (hb : 0 ≤ b ∧ b ≤ 80000) {F : Nat} (hF : 100 ≤ F) {y : Nat} (hy : y ≤ 2147483647) (h14 : oc A ≤ 14) : ∃ A', sh_L_done F A (y : Int) = some (1, A') ∧ zOK b A' ∧ sameG A A' := by
  have W9 := W.mono (b' := 90000) (by omega)
  have hn16 := W.n16
  obtain ⟨n0, hn0, hn⟩ : ∃ n0 : Nat, ((1 : Int) + (zmod (y : Int) (4 : Int))) = (n0 : Int) ∧ 1 ≤ n0 ∧ n0 ≤ 4 := by
    refine ⟨1 + y % 4, ?_, by omega, by omega⟩
    have := md_n y 4
    rw [show ((4 : Nat) : Int) = (4 : Int) from rfl] at this
    rw [this]; omega
  have nr := nowv_rng W9.wf
  have wg := W.wf.2.2.2.2
  have e1 : kd_totalGrade A = some (ab_gs (oa A)) := by unfold kd_totalGrade; rw [kx_t W9]
  have e2 : kd_totalBuckets A = some (ab_bs (oa A)) := by unfold kd_totalBuckets; rw [kx_t W9]
  have e3 : kn_save A 0 = some (ab_bs (oa A), s_save A 0) := by unfold kn_save; rw [kx_t ⟨W9, by decide, by decide⟩]
  have WS : zOK b (s_save A 0) := by
    refine ⟨W.1, W.2.1, W.wf, W.2.2.2.1, fun s a hs => ?_⟩
    have hs : (if s = (0 : Int).toNat then some (oa A) else os A s) = some a := hs
    split at hs
    · cases hs; exact W.wf
    · exact W.2.2.2.2 s a hs
  have WS9 := WS.mono (b' := 90000) (by omega)
  have e4 : ∀ j : Int, 0 ≤ j → j ≤ (n0 : Int) → kn_best (s_save A 0) (n0 : Int) j = some (v_best (s_save A 0) (n0 : Int) j) := fun j h1 h2 => by
    unfold kn_best
    rw [kx_t ⟨WS9, ⟨by omega, by omega⟩, h1, h2⟩]
  have ev : v_best (s_save A 0) (n0 : Int) (n0 : Int) = (bs_0 (onn A) (ow A) n0 (oa A)).1 := by
    unfold v_best
    rw [if_pos rfl, Int.toNat_natCast]
    rfl
  have ok := bs_rng (n := onn A) (w := ow A) n0 0 0 b (fun _ => -9) (oa A) (-9, fun _ => -9) W.wf (by decide) (by omega) ⟨by decide, by decide⟩
  have ok' : -9 ≤ (bs_0 (onn A) (ow A) n0 (oa A)).1 ∧ (bs_0 (onn A) (ow A) n0 (oa A)).1 ≤ 100 := ok
  have J0 := dn_244 W hb hF hy WS ⟨Int.le_refl _, by omega⟩ (show sameG A (s_save A 0) from ⟨rfl, rfl⟩) rfl h14 rfl
  unfold sh_L_done
  rw [now_eq W9 hF, Option.bind_some, e1, Option.bind_some, e2, Option.bind_some, zkr_t (by omega) (by omega), e3, Option.bind_some]
  try dsimp only
  rw [if_pos rfl, hn0, e4 _ (by omega) (by omega), Option.bind_some, e4 0 (by omega) (by omega), Option.bind_some, ev]
  by_cases c9 : (bs_0 (onn A) (ow A) n0 (oa A)).1 = -9
  · rw [if_pos c9]; exact J0
  · rw [if_neg c9]
    obtain ⟨tr, g, t1, -, t3⟩ : ∃ tr' g, bs_0 (onn A) (ow A) n0 (oa A) = (0 + g, tr') ∧ (∀ j, j < 0 → tr' j = (-9 : Int)) ∧ vs (onn A) (ow A) n0 0 tr' (oa A) g := by
      rcases bs_vs (n := onn A) (w := ow A) n0 0 0 (fun _ => -9) (oa A) (-9, fun _ => -9) with z | z
      · exact absurd (by unfold bs_0; rw [z]) c9
      · exact z
    have hg : (bs_0 (onn A) (ow A) n0 (oa A)).1 = g := by rw [t1]; show 0 + g = g; omega
    have hv : ∀ j, j < n0 → v_best (s_save A 0) (n0 : Int) (j : Int) = tr j := fun j hj => by
      unfold v_best
      rw [if_neg (by omega), Int.toNat_natCast, Int.toNat_natCast]
      show (bs_0 (onn A) (ow A) n0 (oa A)).2 j = tr j
      rw [t1]
    rw [hg]
    have tl : ∀ (B : zO) (l : List zAb), l.length = n0 → dnI A b n0 B l → ab_gs (oa B) = ab_gs (oa A) + g → ∃ A', ((kd_totalGrade B).bind (fun (q108 : Int) => zkr (ab_gs (oa A) + g) (if q108 = (ab_gs (oa A) + g) then zkr (n0 : Int) (if (1 : Int) < (n0 : Int) then sh_L_done_L191 F (y : Int) (fun (v122 : Int) (v123 : zO) => (sh_L_now F v123).bind (fun (q126 : Int) => zkl q126 (zkl (nowv (onn A) (oa A)) (if q126 = (nowv (onn A) (oa A)) then sh_L_done_J244 F (y : Int) (nowv (onn A) (oa A)) (ab_bs (oa A)) v123 else none)))) F (0 : Int) B else (kn_grade B (v_best (s_save A 0) (n0 : Int) 0) (0 : Int)).bind (fun (q131 : Int) => if q131 = (-103 : Int) then none else sh_L_done_L191_2 F (y : Int) (fun (v143 : Int) (v144 : zO) => (sh_L_now F v144).bind (fun (q147 : Int) => zkl q147 (zkl (nowv (onn A) (oa A)) (if q147 = (nowv (onn A) (oa A)) then sh_L_done_J244 F (y : Int) (nowv (onn A) (oa A)) (ab_bs (oa A)) v144 else none)))) F (0 : Int) B)) else none))) = some (1, A') ∧ zOK b A' ∧ sameG A A' := by
      intro B l hl I hgs
      obtain ⟨i1, i2, i3, i4, i5, i6⟩ := I
      have WB9 := i4.mono (b' := 90000) (by omega)
      have et : kd_totalGrade B = some (ab_gs (oa A) + g) := by unfold kd_totalGrade; rw [kx_t WB9, hgs]
      have en : onn B = onn A := by unfold onn; rw [i1.1, i1.2]
      obtain ⟨B', r1, r2, r3, r4, r5, r6, r7⟩ := dn_undo (A := A) (b := b) (F := F) (y := y) (n0 := n0) (c := b + (n0 : Int)) ⟨by omega, by omega⟩ hn0 hn (fun (v122 : Int) (v123 : zO) => (sh_L_now F v123).bind (fun (q126 : Int) => zkl q126 (zkl (nowv (onn A) (oa A)) (if q126 = (nowv (onn A) (oa A)) then sh_L_done_J244 F (y : Int) (nowv (onn A) (oa A)) (ab_bs (oa A)) v123 else none)))) n0 0 F B l (by omega) (by omega) hl ⟨i1, i2, i3, i4, i5, i6⟩
      rw [show ((0 : Nat) : Int) = (0 : Int) from rfl] at r1 r2
      have enB : onn B' = onn A := by unfold onn; rw [r3.1, r3.2]
      have eN := now_same W9 (r6.mono (b' := 90000) (by omega)) enB r7 hF
      have J1 := dn_244 W hb hF hy r6 ⟨by omega, by omega⟩ r3 r4 r5 r7
      have fin : ∃ A', ((sh_L_now F B').bind (fun (q126 : Int) => zkl q126 (zkl (nowv (onn A) (oa A)) (if q126 = (nowv (onn A) (oa A)) then sh_L_done_J244 F (y : Int) (nowv (onn A) (oa A)) (ab_bs (oa A)) B' else none)))) = some (1, A') ∧ zOK b A' ∧ sameG A A' := by
        rw [eN, Option.bind_some, zkl_t (by omega) (by omega), zkl_t (by omega) (by omega), if_pos rfl]
        exact J1
      rw [et, Option.bind_some, zkr_t (by omega) (by omega), if_pos rfl, zkr_t (by omega) (by omega)]
      by_cases c1 : (1 : Int) < (n0 : Int)
      · rw [if_pos c1, r1]
        exact fin
      · rw [if_neg c1]
        have h0 := hv 0 (by omega)
        rw [show ((0 : Nat) : Int) = (0 : Int) from rfl] at h0
        have t3' := t3
        obtain ⟨m, hm⟩ : ∃ m, n0 = m + 1 := ⟨n0 - 1, by omega⟩
        rw [hm] at t3'
        obtain ⟨p, u1, u2, -⟩ := t3'
        have eg : kn_grade B (p : Int) 0 = some (ab_grade (ab_col (oa B) p) 0) := by
          unfold kn_grade
          rw [kx_t ⟨WB9, isP_nat (by omega), by decide, by decide⟩, Int.toNat_natCast]
        have gr := ab_grade_rng (WB9.wf.1 p (by omega)).1.2 0
        rw [h0, u2, eg, Option.bind_some, if_neg (by omega), r2]
        exact fin
    obtain ⟨f, f1, f2⟩ := dn_way (F := F) (y := y) hn0 hn (q := (ab_bs (oa A), s_save A 0)) WS9 (fun (v90 : Int) (v91 : (Nat → Int)) => sh_L_done_L109 F (y : Int) v91 (fun (v104 : Int) (v105 : zO) => (kd_totalGrade v105).bind (fun (q108 : Int) => zkr (ab_gs (oa A) + g) (if q108 = (ab_gs (oa A) + g) then zkr (n0 : Int) (if (1 : Int) < (n0 : Int) then sh_L_done_L191 F (y : Int) (fun (v122 : Int) (v123 : zO) => (sh_L_now F v123).bind (fun (q126 : Int) => zkl q126 (zkl (nowv (onn A) (oa A)) (if q126 = (nowv (onn A) (oa A)) then sh_L_done_J244 F (y : Int) (nowv (onn A) (oa A)) (ab_bs (oa A)) v123 else none)))) F (0 : Int) v105 else (kn_grade v105 (v_best (s_save A 0) (n0 : Int) 0) (0 : Int)).bind (fun (q131 : Int) => if q131 = (-103 : Int) then none else sh_L_done_L191_2 F (y : Int) (fun (v143 : Int) (v144 : zO) => (sh_L_now F v144).bind (fun (q147 : Int) => zkl q147 (zkl (nowv (onn A) (oa A)) (if q147 = (nowv (onn A) (oa A)) then sh_L_done_J244 F (y : Int) (nowv (onn A) (oa A)) (ab_bs (oa A)) v144 else none)))) F (0 : Int) v105)) else none))) F (0 : Int) (s_save A 0)) hv n0 0 F (fun _ => 0) (by omega) (by omega) (fun j hj => absurd hj (Nat.not_lt_zero _))
    rw [show ((0 : Nat) : Int) = (0 : Int) from rfl] at f1
    rw [f1]
    obtain ⟨B', l', d1, d2, d3, d4⟩ := dn_draw (A := A) (b := b) hb (F := F) (y := y) hn0 hn f2 (fun (v104 : Int) (v105 : zO) => (kd_totalGrade v105).bind (fun (q108 : Int) => zkr (ab_gs (oa A) + g) (if q108 = (ab_gs (oa A) + g) then zkr (n0 : Int) (if (1 : Int) < (n0 : Int) then sh_L_done_L191 F (y : Int) (fun (v122 : Int) (v123 : zO) => (sh_L_now F v123).bind (fun (q126 : Int) => zkl q126 (zkl (nowv (onn A) (oa A)) (if q126 = (nowv (onn A) (oa A)) then sh_L_done_J244 F (y : Int) (nowv (onn A) (oa A)) (ab_bs (oa A)) v123 else none)))) F (0 : Int) v105 else (kn_grade v105 (v_best (s_save A 0) (n0 : Int) 0) (0 : Int)).bind (fun (q131 : Int) => if q131 = (-103 : Int) then none else sh_L_done_L191_2 F (y : Int) (fun (v143 : Int) (v144 : zO) => (sh_L_now F v144).bind (fun (q147 : Int) => zkl q147 (zkl (nowv (onn A) (oa A)) (if q147 = (nowv (onn A) (oa A)) then sh_L_done_J244 F (y : Int) (nowv (onn A) (oa A)) (ab_bs (oa A)) v144 else none)))) F (0 : Int) v105)) else none))) n0 0 F g (s_save A 0) [] (by omega) (by omega) rfl ⟨⟨rfl, rfl⟩, rfl, h14, by rw [show ((0 : Nat) : Int) = (0 : Int) from rfl, Int.add_zero]; exact WS, ⟨Nat.zero_le _, fun j x hx => by cases hx⟩, rfl⟩ t3
    rw [show ((0 : Nat) : Int) = (0 : Int) from rfl] at d1
    rw [d1]
    exact tl B' l' d2 d3 d4
end DN
