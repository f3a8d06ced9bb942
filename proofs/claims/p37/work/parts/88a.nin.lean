/-! WORDS of the law among the tables' words -/
set_option maxRecDepth 20000 in
theorem wsL_law_in0_1 : ∀ w ∈ wsL_law0_r1, w ∈ lw_tbl := fun w h => (goodIn_p wsL_law0_r1 [45, 48] (by decide +kernel) (by decide +kernel) w h).1
set_option maxRecDepth 20000 in
theorem wsL_law_in0_2 : ∀ w ∈ wsL_law0_r2, w ∈ lw_tbl := fun w h => (goodIn_p wsL_law0_r2 [53] (by decide +kernel) (by decide +kernel) w h).1
set_option maxRecDepth 20000 in
theorem wsL_law_in0_3 : ∀ w ∈ wsL_law0_r3, w ∈ lw_tbl := fun w h => (goodIn_p wsL_law0_r3 [76, 107, 121, 140] (by decide +kernel) (by decide +kernel) w h).1
set_option maxRecDepth 20000 in
theorem wsL_law_in0_4 : ∀ w ∈ wsL_law0_r4, w ∈ lw_tbl := fun w h => (goodIn_p wsL_law0_r4 [156, 190, 202, 205] (by decide +kernel) (by decide +kernel) w h).1
set_option maxRecDepth 20000 in
theorem wsL_law_in0_5 : ∀ w ∈ wsL_law0_r5, w ∈ lw_tbl := fun w h => (goodIn_p wsL_law0_r5 [209, 213, 216, 220, 223] (by decide +kernel) (by decide +kernel) w h).1
theorem in_split {ws big : List Cond} (i : Nat) {E : Cond} (hE : ws.drop i = E :: ws.drop (i + 1)) (h1 : ∀ w ∈ ws.take i, w ∈ big) (h2 : E ∈ big) (h3 : ∀ w ∈ ws.drop (i + 1), w ∈ big) : ∀ w ∈ ws, w ∈ big := by
  intro w hw
  rw [← List.take_append_drop i ws, hE] at hw
  rcases List.mem_append.mp hw with h | h
  · exact h1 w h
  · rcases List.mem_cons.mp h with e | h
    · rw [e]; exact h2
    · exact h3 w h
theorem in_errors : Cond.code yL_errors cL_errors 4 (some .boolean) ∈ lw_tbl := List.mem_of_getElem? (i := 275) rfl
set_option maxRecDepth 20000 in
theorem wsL_law_in0_6 : ∀ w ∈ wsL_law0_r6, w ∈ lw_tbl := in_split 1 (E := Cond.code yL_errors cL_errors 4 (some .boolean)) rfl (fun w h => (goodIn_p (wsL_law0_r6.take 1) [] (by decide +kernel) (by decide +kernel) w h).1) in_errors (fun w h => (goodIn_p (wsL_law0_r6.drop (1 + 1)) [255, 259, 284] (by decide +kernel) (by decide +kernel) w h).1)
set_option maxRecDepth 20000 in
theorem wsL_law_in0_7 : ∀ w ∈ wsL_law0_r7, w ∈ lw_tbl := fun w h => (goodIn_p wsL_law0_r7 [287, 359, 379, 387] (by decide +kernel) (by decide +kernel) w h).1
set_option maxRecDepth 20000 in
theorem wsL_law_in0_8 : ∀ w ∈ wsL_law0_r8, w ∈ lw_tbl := fun w h => (goodIn_p wsL_law0_r8 [391, 395, 415, 422, 426] (by decide +kernel) (by decide +kernel) w h).1
