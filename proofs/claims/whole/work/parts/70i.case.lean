/-! CALLS on the text -/
def zTX (tl sz : Int) (sg sc : Nat → Int) : Prop := ∃ L : Nat, tl = (L : Int) ∧ sz = (L : Int) ∧ L ≤ 120 ∧ ∀ j, j < L → sg j = sc j ∧ 0 ≤ sc j ∧ sc j ≤ 255
theorem zTX.ok {L : Nat} {sg sc : Nat → Int} (hL : L ≤ 120) (h : ∀ j, j < L → sg j = sc j ∧ 0 ≤ sc j ∧ sc j ≤ 255) : tx_ok L sc ∧ tx_ok L sg ∧ ∀ j, sg_of L sg j = sg_of L sc j := by
  refine ⟨⟨hL, fun j hj => (h j hj).2⟩, ⟨hL, fun j hj => by rw [(h j hj).1]; exact (h j hj).2⟩, fun j => ?_⟩
  unfold sg_of
  split
  · exact (h j (by assumption)).1
  · rfl
theorem tx_end_rng {L : Nat} (hL : L ≤ 120) {m at0 : Nat} {s : Nat → Int} (ha : at0 ≤ L) : -9 ≤ tx_end L (ps L s m at0) ∧ tx_end L (ps L s m at0) ≤ 120 := by
  have h := ps_le (L := L) (s := s) m at0 ha
  cases hp : ps L s m at0 with
  | inl e =>
    have := h.1 e hp
    show -9 ≤ (e : Int) ∧ (e : Int) ≤ 120
    omega
  | inr r =>
    have := (h.2 r hp).1
    show -9 ≤ (if r.1 < L then (r.1 : Int) else -9) ∧ (if r.1 < L then (r.1 : Int) else -9) ≤ 120
    split <;> omega
theorem tx_err_rng {L : Nat} {s : Nat → Int} (hL : L ≤ 120) : -9 ≤ tx_err L s ∧ tx_err L s ≤ 120 := by
  unfold tx_err
  split
  · split
    · split
      · split
        · have := sg_in (L := L) (s := s) (j := 3) (by omega)
          exact tx_end_rng hL (by omega)
        · omega
      · omega
    · omega
  · omega
theorem k_clearText {F : Nat} {tl sz : Int} {sg sc : Nat → Int} (T : zTX tl sz sg sc) : ∃ tl' rf sz', sh_L_case1 F tl sz = some (tl', rf, sz') ∧ zTX tl' sz' sg sc := by
  obtain ⟨L, rfl, rfl, hL, h⟩ := T
  refine ⟨0, 0, 0, ?_, 0, rfl, rfl, by omega, fun j hj => absurd hj (Nat.not_lt_zero _)⟩
  unfold sh_L_case1 sh_X8_clearText sh_X9_clearText sh_X1_clear
  simp (disch := omega) only [Option.bind_some, zkr_t, if_true]
theorem k_errorPosition {F : Nat} (hF : 20000 ≤ F) {tl sz : Int} {sg sc : Nat → Int} (T : zTX tl sz sg sc) (rh rw0 : Int) (rd : Nat → Int) : ∃ rf sp rh' rw' rd', sh_L_case2 F tl sg sz rh rw0 sc rd = some (rf, sp, rh', rw', rd') := by
  obtain ⟨L, rfl, rfl, hL, h⟩ := T
  obtain ⟨t1, t2, t3⟩ := zTX.ok hL h
  have e1 := c_findError (F := F) (by omega) t2
  rw [tx_cg t3] at e1
  obtain ⟨sp, rh', rw', rd', e2, -⟩ := m_read (F := F) (by omega) t1 rh rw0 rd
  have rg := tx_err_rng (s := sc) hL
  unfold sh_L_case2 sh_X8_errorPosition sh_X9_errorPosition
  simp (disch := omega) only [Option.bind_some, zkr_t, if_true, e1, e2]
  exact ⟨_, _, _, _, _, rfl⟩
theorem wl_0 {α : Type} {g : Int} {r : α} {e : Option α} (hg : -2147483648 ≤ g ∧ g ≤ 2147483647) : (if (0 : Int) = (0 : Int) then zkr g (zkx (0 : Int) 1 (some r)) else e) = some r := by
  rw [if_pos rfl, zkr_t hg.1 hg.2, zkx_t (by decide) (by decide)]
theorem wl_1 {α : Type} {r : α} {t e : Option α} : (if (1 : Int) = (0 : Int) then t else (if (1 : Int) = (1 : Int) then some r else e)) = some r := by
  rw [if_neg (by decide), if_pos rfl]
theorem wl_2 {α : Type} {r : α} {t e : Option α} : (if (2 : Int) = (0 : Int) then t else (if (2 : Int) = (2 : Int) then some r else e)) = some r := by
  rw [if_neg (by decide), if_pos rfl]
theorem wl_3 {α : Type} {r : α} {t e : Option α} : (if (3 : Int) = (0 : Int) then t else (if (3 : Int) = (3 : Int) then some r else e)) = some r := by
  rw [if_neg (by decide), if_pos rfl]
theorem wl_21 {α : Type} {r : α} {t s e : Option α} : (if (2 : Int) = (0 : Int) then t else (if (2 : Int) = (1 : Int) then s else if (2 : Int) = (2 : Int) then some r else e)) = some r := by
  rw [if_neg (by decide), if_neg (by decide), if_pos rfl]
theorem wl_31 {α : Type} {r : α} {t s e : Option α} : (if (3 : Int) = (0 : Int) then t else (if (3 : Int) = (1 : Int) then s else if (3 : Int) = (3 : Int) then some r else e)) = some r := by
  rw [if_neg (by decide), if_neg (by decide), if_pos rfl]
theorem wl_32 {α : Type} {r : α} {t s e : Option α} : (if (3 : Int) = (0 : Int) then t else (if (3 : Int) = (2 : Int) then s else if (3 : Int) = (3 : Int) then some r else e)) = some r := by
  rw [if_neg (by decide), if_neg (by decide), if_pos rfl]
theorem wl_321 {α : Type} {r : α} {t s u e : Option α} : (if (3 : Int) = (0 : Int) then t else (if (3 : Int) = (1 : Int) then s else if (3 : Int) = (2 : Int) then u else if (3 : Int) = (3 : Int) then some r else e)) = some r := by
  rw [if_neg (by decide), if_neg (by decide), if_neg (by decide), if_pos rfl]
theorem tl_0 {α : Type} {F : Nat} {g : Int} {k : Nat} {out : Nat → Int} {r s : α} (hk : k = 0) (hg : -2147483648 ≤ g ∧ g ≤ 2147483647) : (sh_X9_thrown F (0 : Int)).bind (fun (q : Int) => zkr q (zkr (0 : Int) (if q = (0 : Int) then (if (0 : Int) = (0 : Int) then zkr g (zkl (va_up out 0 g k) (if va_up out 0 g k = g then some r else none)) else some s) else none))) = some r := by
  subst hk
  have hv := up_s out 0 g
  unfold sh_X9_thrown
  rw [Option.bind_some, zkr_t (by decide) (by decide), zkr_t (by decide) (by decide), if_pos rfl, if_pos rfl, zkr_t hg.1 hg.2, zkl_t (by omega) (by omega), if_pos hv]
theorem tl_z {α : Type} {F : Nat} {z : Int} {t : Option α} {s : α} (h1 : 1 ≤ z) (h2 : z ≤ 3) : (sh_X9_thrown F z).bind (fun (q : Int) => zkr q (zkr z (if q = z then (if z = (0 : Int) then t else some s) else none))) = some s := by
  unfold sh_X9_thrown
  rw [Option.bind_some, zkr_t (by omega) (by omega), zkr_t (by omega) (by omega), if_pos rfl, if_neg (by omega)]
theorem c_app {F L : Nat} {sg : Nat → Int} {y : Int} (hL : L < 120) (hy : 0 ≤ y ∧ y ≤ 255) : sh_X8_append F (L : Int) sg y = some (0, (L : Int) + (1 : Int), (L : Int) + (1 : Int), va_up sg L y) := by
  unfold sh_X8_append sh_X1_isFull sh_X1_put
  rw [rr_in (F := F) (x := y) (lo := 0) (hi := 255) (by decide) (by decide) hy, Option.bind_some, if_pos rfl, zkr_t (by omega) (by omega), if_pos (by omega), Option.bind_some, zkr_t (by decide) (by decide), if_pos rfl, zkc_t (by omega), zkx_t (by omega) (by omega), ix_n, zkr_t (by omega) (by omega), if_pos (by omega), Option.bind_some]
  all_goals rfl
theorem m_app {F L : Nat} {sc : Nat → Int} {y : Int} (hL : L < 120) (hy : 0 ≤ y ∧ y ≤ 255) : sh_X9_append F (L : Int) sc y = some ((L : Int) + (1 : Int), 0, (L : Int) + (1 : Int), va_up sc L y) := by
  unfold sh_X9_append
  rw [m_in F y 0 255 (by omega) (by omega) (by omega), if_pos hy, zkr_t (by omega) (by omega), Option.bind_some, zkr_t (by decide) (by decide), if_neg (by decide), zkr_t (by omega) (by omega), if_neg (by omega), rf_0, Option.bind_some]
  dsimp only
  rw [zkr_t (by decide) (by decide), if_pos rfl, zkx_t (by omega) (by omega), ix_n]
theorem k_append {F : Nat} {tl sz : Int} {sg sc x : Nat → Int} {n i : Nat} (T : zTX tl sz sg sc) (hx : xs_ok x) (hi : i + 4 ≤ n) (hn : n ≤ 2048) (out : Nat → Int) : ∃ tl' sg' rf sz' sc' out', sh_L_case0 F x n (i : Int) tl sg sz sc out = some (tl', sg', rf, sz', sc', out') ∧ zTX tl' sz' sg' sc' := by
  obtain ⟨L, rfl, rfl, hL, h⟩ := T
  have hx1 := hx (i + 1)
  unfold sh_L_case0
  rw [zkx_t (by omega) (by omega), ix_i1]
  generalize x (i + 1) = y at *
  have mi := m_in F y 0 255 (by omega) (by decide) (by decide)
  by_cases hy : 0 ≤ y ∧ y ≤ 255
  · by_cases hf : L < 120
    · have gg : -2147483648 ≤ ((L : Int) + (1 : Int)) ∧ ((L : Int) + (1 : Int)) ≤ 2147483647 := by omega
      have e3 : sh_L_append F (L : Int) sg out 1 y = some (0, (L : Int) + (1 : Int), va_up sg L y, va_up out 0 ((L : Int) + (1 : Int))) := by
        unfold sh_L_append
        rw [c_app hf hy, Option.bind_some]
        exact wl_0 gg
      refine ⟨(L : Int) + (1 : Int), va_up sg L y, 0, (L : Int) + (1 : Int), va_up sc L y, va_up out 0 ((L : Int) + (1 : Int)), ?_, L + 1, rfl, rfl, hf, fun j hj => ?_⟩
      · rw [e3, m_app hf hy, Option.bind_some, Option.bind_some]
        dsimp only
        exact tl_0 rfl gg
      · by_cases e : j = L
        · subst e; rw [up_s, up_s]; exact ⟨rfl, hy⟩
        · rw [up_n _ _ _ e, up_n _ _ _ e]; exact h j (by omega)
    · have e : L = 120 := by omega
      have e1 : sh_X8_append F (L : Int) sg y = some (3, 0, (L : Int), sg) := by
        unfold sh_X8_append sh_X1_isFull
        rw [rr_in (F := F) (x := y) (lo := 0) (hi := 255) (by decide) (by decide) hy, Option.bind_some, if_pos rfl, zkr_t (by omega) (by omega), if_neg (by omega), Option.bind_some, zkr_t (by decide) (by decide), if_neg (by decide)]
      have e2 : sh_X9_append F (L : Int) sc y = some (0, 2, (L : Int), sc) := by
        unfold sh_X9_append
        rw [mi, if_pos hy, zkr_t (by omega) (by omega), Option.bind_some, zkr_t (by decide) (by decide), if_neg (by decide), zkr_t (by omega) (by omega), if_pos (by omega), rf_2, Option.bind_some]
        dsimp only
        rw [zkr_t (by decide) (by decide), if_neg (by decide)]
      have e3 : sh_L_append F (L : Int) sg out 1 y = some (2, (L : Int), sg, out) := by
        unfold sh_L_append
        rw [e1, Option.bind_some]
        exact wl_32
      refine ⟨(L : Int), sg, 2, (L : Int), sc, out, ?_, L, rfl, rfl, hL, h⟩
      rw [e3, e2, Option.bind_some, Option.bind_some]
      dsimp only
      exact tl_z (by decide) (by decide)
  · have e1 : sh_X8_append F (L : Int) sg y = some (2, 0, (L : Int), sg) := by
      unfold sh_X8_append
      rw [rr_out (F := F) (x := y) (lo := 0) (hi := 255) (by decide) (by decide) hx1 hy, Option.bind_some, if_neg (by decide)]
    have e2 : sh_X9_append F (L : Int) sc y = some (0, 1, (L : Int), sc) := by
      unfold sh_X9_append
      rw [mi, if_neg hy, zkr_t (by omega) (by omega), Option.bind_some, zkr_t (by decide) (by decide), if_pos rfl, rf_1, Option.bind_some]
      dsimp only
      rw [zkr_t (by decide) (by decide), if_neg (by decide)]
    have e3 : sh_L_append F (L : Int) sg out 1 y = some (1, (L : Int), sg, out) := by
      unfold sh_L_append
      rw [e1, Option.bind_some]
      exact wl_2
    refine ⟨(L : Int), sg, 1, (L : Int), sc, out, ?_, L, rfl, rfl, hL, h⟩
    rw [e3, e2, Option.bind_some, Option.bind_some]
    dsimp only
    exact tl_z (by decide) (by decide)
