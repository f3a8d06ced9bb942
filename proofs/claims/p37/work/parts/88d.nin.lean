/-! WORDS of the law among the tables' words -/
set_option maxRecDepth 20000 in
theorem wsL_law_in0_25 : ∀ w ∈ wsL_law0_r25, w ∈ lw_tbl := fun w h => (goodIn_p wsL_law0_r25 [811, 818, 822, 827, 831] (by decide +kernel) (by decide +kernel) w h).1
set_option maxRecDepth 20000 in
theorem wsL_law_in0_26 : ∀ w ∈ wsL_law0_r26, w ∈ lw_tbl := fun w h => (goodIn_p wsL_law0_r26 [263, 270, 834, 837, 841, 845] (by decide +kernel) (by decide +kernel) w h).1
set_option maxRecDepth 20000 in
theorem wsL_law_in0_27 : ∀ w ∈ wsL_law0_r27, w ∈ lw_tbl := fun w h => (goodIn_p wsL_law0_r27 [850, 854, 859, 862, 867, 870] (by decide +kernel) (by decide +kernel) w h).1
set_option maxRecDepth 20000 in
theorem wsL_law_in0_28 : ∀ w ∈ wsL_law0_r28, w ∈ lw_tbl := fun w h => (goodIn_p wsL_law0_r28 [873, 876, 880, 893, 897] (by decide +kernel) (by decide +kernel) w h).1
set_option maxRecDepth 20000 in
theorem wsL_law_in0_29 : ∀ w ∈ wsL_law0_r29, w ∈ lw_tbl := fun w h => (goodIn_p wsL_law0_r29 [901, 905, 909, 913, 917, 922] (by decide +kernel) (by decide +kernel) w h).1
set_option maxRecDepth 20000 in
theorem wsL_law_in0_30 : ∀ w ∈ wsL_law0_r30, w ∈ lw_tbl := fun w h => (goodIn_p wsL_law0_r30 [929, 934, 941, 945] (by decide +kernel) (by decide +kernel) w h).1
set_option maxRecDepth 20000 in
theorem wsL_law_in0_31 : ∀ w ∈ wsL_law0_r31, w ∈ lw_tbl := fun w h => (goodIn_p wsL_law0_r31 [950, 953, 956, 961] (by decide +kernel) (by decide +kernel) w h).1
set_option maxRecDepth 100000 in
theorem in_c32_11 : Cond.code yL_bounds cL_bounds 13 (some .boolean) ∈ lw_tbl := List.mem_of_getElem? (i := 983) rfl
set_option maxRecDepth 100000 in
theorem in_c32_17 : Cond.code yL_wants cL_wants 17 (some .boolean) ∈ lw_tbl := List.mem_of_getElem? (i := 989) rfl
set_option maxRecDepth 100000 in
theorem in_c32_20 : Cond.code yL_done cL_done 14 (some .boolean) ∈ lw_tbl := List.mem_of_getElem? (i := 992) rfl
set_option maxRecDepth 20000 in
theorem wsL_law_in0_32 : ∀ w ∈ wsL_law0_r32, w ∈ lw_tbl := (in_split 11 (E := Cond.code yL_bounds cL_bounds 13 (some .boolean)) rfl (fun w h => (goodIn_p ((wsL_law0_r32).take 11) [965, 975, 979] (by decide +kernel) (by decide +kernel) w h).1) in_c32_11 (in_split 5 (E := Cond.code yL_wants cL_wants 17 (some .boolean)) rfl (fun w h => (goodIn_p (((wsL_law0_r32).drop (11 + 1)).take 5) [986] (by decide +kernel) (by decide +kernel) w h).1) in_c32_17 (in_split 2 (E := Cond.code yL_done cL_done 14 (some .boolean)) rfl (fun w h => (goodIn_p ((((wsL_law0_r32).drop (11 + 1)).drop (5 + 1)).take 2) [] (by decide +kernel) (by decide +kernel) w h).1) in_c32_20 (fun w h => (goodIn_p ((((wsL_law0_r32).drop (11 + 1)).drop (5 + 1)).drop (2 + 1)) [] (by decide +kernel) (by decide +kernel) w h).1))))
