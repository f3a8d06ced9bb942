/-! THE LOOP of the law -/
theorem zand_rng (x y : Int) : -2147483648 ≤ zand x y ∧ zand x y ≤ 2147483647 := by
  unfold zand
  have h1 := Int32.toInt_lt (zi x &&& zi y)
  have h2 := Int32.le_toInt (zi x &&& zi y)
  omega
section ZL
variable {p : Program} {l : Launch} {e : Env} {s : State} {m : MethodId} {args : Array Value} {below : List Frame} {meth : Method} {c : Code} {Q : State → Prop} {ret : Option FieldType} {nm : String × List ExceptionTableEntry} {A : Nat → Prop} {D : va_G} {J : Nat → ClassId} {ad : Nat → Nat × Nat × Nat × Nat × Nat} {x_s : Nat → Int} {n_L : Nat} {a_p0 a_x a_x_grid a_x_grid_rowOf a_x_grid_columnOf a_x_grid_neighbours a_x_grid_neighbourCount a_x_cave a_x_cave_buckets a_x_cave_grades a_x_cave_heights a_x_cave_drawn a_x_copy a_x_copy_buckets a_x_copy_grades a_x_copy_heights a_x_copy_drawn a_x_text a_x_text_signs a_x_history a_x_history_states a_x_slots a_x_slots_states a_x_slots_filled a_x_search a_x_search_ahead a_x_search_drawn a_x_search_taken a_x_search_mostFromStep a_x_search_trial a_x_search_best a_x_pattern a_x_pattern_values a_x_commands a_x_commands_values a_m a_m_now a_m_trial a_m_diary a_m_kept a_m_isKept a_m_script a_m_read a_m_wanted a_m_level a_m_chosen a_m_best a_out : Nat} {i cs ss : Nat} {b : Int}
theorem z_lvp {R : Room} {cc : ByteArray} {nL : Nat} {Ts : List Cond} {own : String} {ws : va_W} {lv : List (Nat × Value)} {pc : Nat} {st : List Value} (lv' : List (Nat × Value)) (ks : List Nat) (hk : lv_pick lv ks = lv') (kk : Z p l e R s m args below meth c Q cc nL Ts own D J A ret nm cs ss ws lv' pc st) : Z p l e R s m args below meth c Q cc nL Ts own D J A ret nm cs ss ws lv pc st := fun H locs ls X0 hP hD hS hl => kk H locs ls X0 hP hD hS (lv_sub hl ks hk)
theorem zw_foot {b1 : Int} (hb : b ≤ b1) (h : wFoot p l e s m args below meth c Q ret nm A D J ad a_p0 a_x a_x_grid a_x_grid_rowOf a_x_grid_columnOf a_x_grid_neighbours a_x_grid_neighbourCount a_x_cave a_x_cave_buckets a_x_cave_grades a_x_cave_heights a_x_cave_drawn a_x_copy a_x_copy_buckets a_x_copy_grades a_x_copy_heights a_x_copy_drawn a_x_text a_x_text_signs a_x_history a_x_history_states a_x_slots a_x_slots_states a_x_slots_filled a_x_search a_x_search_ahead a_x_search_drawn a_x_search_taken a_x_search_mostFromStep a_x_search_trial a_x_search_best a_x_pattern a_x_pattern_values a_x_commands a_x_commands_values a_m a_m_now a_m_trial a_m_diary a_m_kept a_m_isKept a_m_script a_m_read a_m_wanted a_m_level a_m_chosen a_m_best a_out (i + 4) cs ss b1 23) : wFoot p l e s m args below meth c Q ret nm A D J ad a_p0 a_x a_x_grid a_x_grid_rowOf a_x_grid_columnOf a_x_grid_neighbours a_x_grid_neighbourCount a_x_cave a_x_cave_buckets a_x_cave_grades a_x_cave_heights a_x_cave_drawn a_x_copy a_x_copy_buckets a_x_copy_grades a_x_copy_heights a_x_copy_drawn a_x_text a_x_text_signs a_x_history a_x_history_states a_x_slots a_x_slots_states a_x_slots_filled a_x_search a_x_search_ahead a_x_search_drawn a_x_search_taken a_x_search_mostFromStep a_x_search_trial a_x_search_best a_x_pattern a_x_pattern_values a_x_commands a_x_commands_values a_m a_m_now a_m_trial a_m_diary a_m_kept a_m_isKept a_m_script a_m_read a_m_wanted a_m_level a_m_chosen a_m_best a_out i cs ss b 1953 := by
  intro c_x_grid_size f_x_grid_rowOf f_x_grid_columnOf f_x_grid_neighbours f_x_grid_neighbourCount c_x_cave_limit c_x_cave_hungSet c_x_cave_bucketSum c_x_cave_gradeSum f_x_cave_buckets f_x_cave_grades f_x_cave_heights f_x_cave_drawn c_x_copy_limit c_x_copy_hungSet c_x_copy_bucketSum c_x_copy_gradeSum f_x_copy_buckets f_x_copy_grades f_x_copy_heights f_x_copy_drawn c_x_text_length f_x_text_signs c_x_history_oldest c_x_history_count f_x_slots_filled c_x_search_length c_x_search_limit c_x_search_bestSum f_x_search_ahead f_x_search_drawn f_x_search_taken f_x_search_mostFromStep f_x_search_trial f_x_search_best c_x_pattern_count f_x_pattern_values c_x_commands_count f_x_commands_values c_m_refusal c_m_high c_m_wide c_m_acts c_m_next c_m_scriptSize c_m_spot c_m_readHigh c_m_readWide f_m_now f_m_trial f_m_diary f_m_kept f_m_isKept f_m_script f_m_read f_m_wanted f_m_level f_m_chosen f_m_best f_out f_PL hr
  refine z_iinc (pc' := 1956) (n := 4) (x := (i : Int)) [(4, .int (zi ((i : Int) + 4))), (0, .ref a_p0), (1, .ref a_x), (2, .ref a_m), (3, .ref a_out)] 4 dL_law_1953 rfl (by decide) rfl rfl ?_
  refine z_goto (tgt := 23) dL_law_1956 (by decide) ?_
  refine z_lvp [(0, .ref a_p0), (1, .ref a_x), (2, .ref a_m), (3, .ref a_out), (4, .int (zi ((i : Int) + 4)))] [1, 2, 3, 4, 0] rfl ?_
  exact h (hr.mono hb)
theorem zw_head (hX : va_X a_p0 n_L (fun j => zi (x_s j)) s s.heap) (hbl : a_p0 < s.heap.size) (hbA : ¬ A a_p0) (hL : n_L ≤ 2048) (hcs : cs + 8 ≤ 601024) (hss : ss + 48 ≤ 7293034) (hx : xs_ok x_s) (hi0 : i ≤ 2052) (hb : 0 ≤ b ∧ b ≤ 100000) (hq : wFoot p l e s m args below meth c Q ret nm A D J ad a_p0 a_x a_x_grid a_x_grid_rowOf a_x_grid_columnOf a_x_grid_neighbours a_x_grid_neighbourCount a_x_cave a_x_cave_buckets a_x_cave_grades a_x_cave_heights a_x_cave_drawn a_x_copy a_x_copy_buckets a_x_copy_grades a_x_copy_heights a_x_copy_drawn a_x_text a_x_text_signs a_x_history a_x_history_states a_x_slots a_x_slots_states a_x_slots_filled a_x_search a_x_search_ahead a_x_search_drawn a_x_search_taken a_x_search_mostFromStep a_x_search_trial a_x_search_best a_x_pattern a_x_pattern_values a_x_commands a_x_commands_values a_m a_m_now a_m_trial a_m_diary a_m_kept a_m_isKept a_m_script a_m_read a_m_wanted a_m_level a_m_chosen a_m_best a_out i cs ss b 1959) (hf : i + 4 ≤ n_L → wFoot p l e s m args below meth c Q ret nm A D J ad a_p0 a_x a_x_grid a_x_grid_rowOf a_x_grid_columnOf a_x_grid_neighbours a_x_grid_neighbourCount a_x_cave a_x_cave_buckets a_x_cave_grades a_x_cave_heights a_x_cave_drawn a_x_copy a_x_copy_buckets a_x_copy_grades a_x_copy_heights a_x_copy_drawn a_x_text a_x_text_signs a_x_history a_x_history_states a_x_slots a_x_slots_states a_x_slots_filled a_x_search a_x_search_ahead a_x_search_drawn a_x_search_taken a_x_search_mostFromStep a_x_search_trial a_x_search_best a_x_pattern a_x_pattern_values a_x_commands a_x_commands_values a_m a_m_now a_m_trial a_m_diary a_m_kept a_m_isKept a_m_script a_m_read a_m_wanted a_m_level a_m_chosen a_m_best a_out i (cs + 8) (ss + 48) (b + 100) 1953) : wFoot p l e s m args below meth c Q ret nm A D J ad a_p0 a_x a_x_grid a_x_grid_rowOf a_x_grid_columnOf a_x_grid_neighbours a_x_grid_neighbourCount a_x_cave a_x_cave_buckets a_x_cave_grades a_x_cave_heights a_x_cave_drawn a_x_copy a_x_copy_buckets a_x_copy_grades a_x_copy_heights a_x_copy_drawn a_x_text a_x_text_signs a_x_history a_x_history_states a_x_slots a_x_slots_states a_x_slots_filled a_x_search a_x_search_ahead a_x_search_drawn a_x_search_taken a_x_search_mostFromStep a_x_search_trial a_x_search_best a_x_pattern a_x_pattern_values a_x_commands a_x_commands_values a_m a_m_now a_m_trial a_m_diary a_m_kept a_m_isKept a_m_script a_m_read a_m_wanted a_m_level a_m_chosen a_m_best a_out i cs ss b 23 := by
  intro c_x_grid_size f_x_grid_rowOf f_x_grid_columnOf f_x_grid_neighbours f_x_grid_neighbourCount c_x_cave_limit c_x_cave_hungSet c_x_cave_bucketSum c_x_cave_gradeSum f_x_cave_buckets f_x_cave_grades f_x_cave_heights f_x_cave_drawn c_x_copy_limit c_x_copy_hungSet c_x_copy_bucketSum c_x_copy_gradeSum f_x_copy_buckets f_x_copy_grades f_x_copy_heights f_x_copy_drawn c_x_text_length f_x_text_signs c_x_history_oldest c_x_history_count f_x_slots_filled c_x_search_length c_x_search_limit c_x_search_bestSum f_x_search_ahead f_x_search_drawn f_x_search_taken f_x_search_mostFromStep f_x_search_trial f_x_search_best c_x_pattern_count f_x_pattern_values c_x_commands_count f_x_commands_values c_m_refusal c_m_high c_m_wide c_m_acts c_m_next c_m_scriptSize c_m_spot c_m_readHigh c_m_readWide f_m_now f_m_trial f_m_diary f_m_kept f_m_isKept f_m_script f_m_read f_m_wanted f_m_level f_m_chosen f_m_best f_out f_PL hr
  refine z_iload (pc' := 25) 4 dL_law_23 rfl rfl ?_
  refine z_aload_n (pc' := 26) 0 dL_law_25 rfl rfl rfl ?_
  refine z_slen (pc' := 27) hX hbl hbA dL_law_26 rfl ?_
  refine z_iconst (pc' := 28) dL_law_27 rfl ?_
  refine z_isub (pc' := 29) dL_law_28 rfl ?_
  refine z_icmp_gt (pc' := 32) (tgt := 1959) dL_law_29 (by decide) (by omega) (by omega) rfl (fun _ => hq hr) (fun q => ?_)
  have hi : i + 4 ≤ n_L := by omega
  have hf := hf hi
  refine z_aload_n (pc' := 33) 0 dL_law_32 rfl rfl rfl ?_
  refine z_iload (pc' := 35) 4 dL_law_33 rfl rfl ?_
  refine z_sld (pc' := 36) hX hbl hbA (by omega) dL_law_35 (by omega) rfl ?_
  refine z_bipush (n := 63) (pc' := 38) dL_law_36 (by decide) rfl ?_
  refine z_iand (pc' := 39) dL_law_38 rfl ?_
  have gy := zand_rng (x_s ((i : Int)).toNat) 63
  generalize zand (x_s ((i : Int)).toNat) 63 = y at gy ⊢
  by_cases q0 : y = 0
  · exact z_tableIn (k := 0) (off := 149) (tgt := 188) dL_law_39 q0 gy (by decide) (by decide) rfl (by decide) (zw_0 hX hbl hbA hL hcs hss hx hi hb hr hf)
  by_cases q1 : y = 1
  · exact z_tableIn (k := 1) (off := 205) (tgt := 244) dL_law_39 q1 gy (by decide) (by decide) rfl (by decide) (zw_1 hX hbl hbA hL hcs hss hx hi hb hr hf)
  by_cases q2 : y = 2
  · exact z_tableIn (k := 2) (off := 218) (tgt := 257) dL_law_39 q2 gy (by decide) (by decide) rfl (by decide) (zw_2 hX hbl hbA hL hcs hss hx hi hb hr hf)
  by_cases q3 : y = 3
  · exact z_tableIn (k := 3) (off := 231) (tgt := 270) dL_law_39 q3 gy (by decide) (by decide) rfl (by decide) (zw_3 hX hbl hbA hL hcs hss hx hi hb hr hf)
  by_cases q4 : y = 4
  · exact z_tableIn (k := 4) (off := 275) (tgt := 314) dL_law_39 q4 gy (by decide) (by decide) rfl (by decide) (zw_4 hX hbl hbA hL hcs hss hx hi hb hr hf)
  by_cases q5 : y = 5
  · exact z_tableIn (k := 5) (off := 288) (tgt := 327) dL_law_39 q5 gy (by decide) (by decide) rfl (by decide) (zw_5 hX hbl hbA hL hcs hss hx hi hb hr hf)
  by_cases q6 : y = 6
  · exact z_tableIn (k := 6) (off := 301) (tgt := 340) dL_law_39 q6 gy (by decide) (by decide) rfl (by decide) (zw_6 hX hbl hbA hL hcs hss hx hi hb hr hf)
  by_cases q7 : y = 7
  · exact z_tableIn (k := 7) (off := 357) (tgt := 396) dL_law_39 q7 gy (by decide) (by decide) rfl (by decide) (zw_7 hX hbl hbA hL hcs hss hx hi hb hr hf)
  by_cases q8 : y = 8
  · exact z_tableIn (k := 8) (off := 413) (tgt := 452) dL_law_39 q8 gy (by decide) (by decide) rfl (by decide) (zw_8 hX hbl hbA hL hcs hss hx hi hb hr hf)
  by_cases q9 : y = 9
  · exact z_tableIn (k := 9) (off := 469) (tgt := 508) dL_law_39 q9 gy (by decide) (by decide) rfl (by decide) (zw_9 hX hbl hbA hL hcs hss hx hi hb hr hf)
  by_cases q10 : y = 10
  · exact z_tableIn (k := 10) (off := 537) (tgt := 576) dL_law_39 q10 gy (by decide) (by decide) rfl (by decide) (zw_10 hX hbl hbA hL hcs hss hx hi hb hr hf)
  by_cases q11 : y = 11
  · exact z_tableIn (k := 11) (off := 600) (tgt := 639) dL_law_39 q11 gy (by decide) (by decide) rfl (by decide) (zw_11 hX hbl hbA hL hcs hss hx hi hb hr hf)
  by_cases q12 : y = 12
  · exact z_tableIn (k := 12) (off := 613) (tgt := 652) dL_law_39 q12 gy (by decide) (by decide) rfl (by decide) (zw_12 hX hbl hbA hL hcs hss hx hi hb hr hf)
  by_cases q13 : y = 13
  · exact z_tableIn (k := 13) (off := 626) (tgt := 665) dL_law_39 q13 gy (by decide) (by decide) rfl (by decide) (zw_13 hX hbl hbA hL hcs hss hx hi hb hr hf)
  by_cases q14 : y = 14
  · exact z_tableIn (k := 14) (off := 682) (tgt := 721) dL_law_39 q14 gy (by decide) (by decide) rfl (by decide) (zw_14 hX hbl hbA hL hcs hss hx hi hb hr hf)
  by_cases q15 : y = 15
  · exact z_tableIn (k := 15) (off := 738) (tgt := 777) dL_law_39 q15 gy (by decide) (by decide) rfl (by decide) (zw_15 hX hbl hbA hL hcs hss hx hi hb hr hf)
  by_cases q16 : y = 16
  · exact z_tableIn (k := 16) (off := 794) (tgt := 833) dL_law_39 q16 gy (by decide) (by decide) rfl (by decide) (zw_16 hX hbl hbA hL hcs hss hx hi hb hr hf)
  by_cases q17 : y = 17
  · exact z_tableIn (k := 17) (off := 850) (tgt := 889) dL_law_39 q17 gy (by decide) (by decide) rfl (by decide) (zw_17 hX hbl hbA hL hcs hss hx hi hb hr hf)
  by_cases q18 : y = 18
  · exact z_tableIn (k := 18) (off := 930) (tgt := 969) dL_law_39 q18 gy (by decide) (by decide) rfl (by decide) (zw_18 hX hbl hbA hL hcs hss hx hi hb hr hf)
  by_cases q19 : y = 19
  · exact z_tableIn (k := 19) (off := 986) (tgt := 1025) dL_law_39 q19 gy (by decide) (by decide) rfl (by decide) (zw_19 hX hbl hbA hL hcs hss hx hi hb hr hf)
  by_cases q20 : y = 20
  · exact z_tableIn (k := 20) (off := 1030) (tgt := 1069) dL_law_39 q20 gy (by decide) (by decide) rfl (by decide) (zw_20 hX hbl hbA hL hcs hss hx hi hb hr hf)
  by_cases q21 : y = 21
  · exact z_tableIn (k := 21) (off := 1093) (tgt := 1132) dL_law_39 q21 gy (by decide) (by decide) rfl (by decide) (zw_21 hX hbl hbA hL hcs hss hx hi hb hr hf)
  by_cases q22 : y = 22
  · exact z_tableIn (k := 22) (off := 1149) (tgt := 1188) dL_law_39 q22 gy (by decide) (by decide) rfl (by decide) (zw_22 hX hbl hbA hL hcs hss hx hi hb hr hf)
  by_cases q23 : y = 23
  · exact z_tableIn (k := 23) (off := 1205) (tgt := 1244) dL_law_39 q23 gy (by decide) (by decide) rfl (by decide) (zw_23 hX hbl hbA hL hcs hss hx hi hb hr hf)
  by_cases q24 : y = 24
  · exact z_tableIn (k := 24) (off := 1218) (tgt := 1257) dL_law_39 q24 gy (by decide) (by decide) rfl (by decide) (zw_24 hX hbl hbA hL hcs hss hx hi hb hr hf)
  by_cases q25 : y = 25
  · exact z_tableIn (k := 25) (off := 1274) (tgt := 1313) dL_law_39 q25 gy (by decide) (by decide) rfl (by decide) (zw_25 hX hbl hbA hL hcs hss hx hi hb hr hf)
  by_cases q26 : y = 26
  · exact z_tableIn (k := 26) (off := 1342) (tgt := 1381) dL_law_39 q26 gy (by decide) (by decide) rfl (by decide) (zw_26 hX hbl hbA hL hcs hss hx hi hb hr hf)
  by_cases q27 : y = 27
  · exact z_tableIn (k := 27) (off := 1410) (tgt := 1449) dL_law_39 q27 gy (by decide) (by decide) rfl (by decide) (zw_27 hX hbl hbA hL hcs hss hx hi hb hr hf)
  by_cases q28 : y = 28
  · exact z_tableIn (k := 28) (off := 1466) (tgt := 1505) dL_law_39 q28 gy (by decide) (by decide) rfl (by decide) (zw_28 hX hbl hbA hL hcs hss hx hi hb hr hf)
  by_cases q29 : y = 29
  · exact z_tableIn (k := 29) (off := 1534) (tgt := 1573) dL_law_39 q29 gy (by decide) (by decide) rfl (by decide) (zw_29 hX hbl hbA hL hcs hss hx hi hb hr hf)
  by_cases q30 : y = 30
  · exact z_tableIn (k := 30) (off := 1602) (tgt := 1641) dL_law_39 q30 gy (by decide) (by decide) rfl (by decide) (zw_30 hX hbl hbA hL hcs hss hx hi hb hr hf)
  by_cases q31 : y = 31
  · exact z_tableIn (k := 31) (off := 1702) (tgt := 1741) dL_law_39 q31 gy (by decide) (by decide) rfl (by decide) (zw_31 hX hbl hbA hL hcs hss hx hi hb hr hf)
  by_cases q32 : y = 32
  · exact z_tableIn (k := 32) (off := 1802) (tgt := 1841) dL_law_39 q32 gy (by decide) (by decide) rfl (by decide) (zw_32 hX hbl hbA hL hcs hss hx hi hb hr hf)
  by_cases q33 : y = 33
  · exact z_tableIn (k := 33) (off := 1858) (tgt := 1897) dL_law_39 q33 gy (by decide) (by decide) rfl (by decide) (zw_33 hX hbl hbA hL hcs hss hx hi hb hr hf)
  refine z_tableOut (tgt := 1953) dL_law_39 gy (by omega) (by decide) ?_
  refine z_widen (cs + 8) (ss + 48) (by omega) (by omega) ?_
  exact hf (hr.mono (by omega))
end ZL
