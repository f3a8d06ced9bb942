/-! THE WHOLE: from the entry to the end -/
theorem whole_start {p : Program} {e : Env} {s : State} {m : MethodId} {below : List Frame} {meth : Method} {c : Code} (l : Launch) (hflags : l.flags = flags0) {b L : Nat} {xs : Nat → Int32} (hL : L ≤ 260) (C0 : lw_At p s m meth c b L xs) : W p l e room_1 s m #[Value.ref b] below meth c s.heap [] 0 0 (lw_Z below #[Value.ref b] s) (entryFrame m ([Value.ref b] : List Value).toArray 9) := by
  obtain ⟨hx, hb, hr, hml, hown, hts, hX, hbl, hlocks, hgv⟩ := id C0
  obtain ⟨D, J, hG, h7, hS⟩ := w_G hts hgv
  have hH := w_H hts hgv h7 hS hL hX hbl
  have hst : l.stackTraces = false := by
    unfold Launch.stackTraces
    rw [hflags]
    rfl
  have hl := lv_entry ([.ref b]) (n := 9) (Nat.le_of_ble_eq_true rfl)
  rw [lg_entry_eq]
  generalize (lg_sl ([.ref b]) ++ List.replicate (9 - (lg_sl ([.ref b])).length) Slot.unset).toArray = ls at hl ⊢
  have hl : lv_has ls 9 [(0, .ref b)] := hl
  rw [← h7] at hl
  have hA : ∀ q : Nat, s.heap.size ≤ q → (fun q : Nat => s.heap.size ≤ q) q := fun _ h => h
  have hZ := lw_go (p := p) (l := l) (e := e) (s := s) (m := m) (args := #[Value.ref b]) (below := below) (meth := meth) (c := c) (Q := lw_Z below #[Value.ref b] s) (ret := some .boolean) (nm := (meth.name, c.exceptionTable.toList)) (Af := fun q : Nat => s.heap.size ≤ q) (D := D) (J := J) (fun cs ss ws hcs hss => by
    refine z_iload_n (pc' := 282) 0 dL_law_281 rfl rfl rfl ?_
    intro H locs ls X hP hD hS hl
    obtain ⟨⟨hx, hb, hml, hown, hts⟩, ⟨hK, hG⟩, hA, hr, hlk, hnm, het, hHH, hst0⟩ := id X
    refine va_forget (fun q hq => hS.2.2 q hq) ?_
    refine W.widen (k := 849423) (n := 6553199) hcs hss ?_
    exact lw_ret hx hb hr hlk dL_law_282)
  exact hZ s.heap [] ls ⟨⟨hx, hb, hml, hown, fun w h => hts w (wsL_law_in w h)⟩, hG, hA, hr, hlocks, rfl, rfl, hH, hst⟩ (fun k q h => by simp at h) ⟨fun i j p q h => by simp at h, fun k q h => by simp at h⟩ va_S.rf hl
