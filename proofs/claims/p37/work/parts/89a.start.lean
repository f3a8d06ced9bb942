/-! THE LAW: its start, its twelve rounds -/
theorem w_init8 : ∃ ro co ne nc ht dr, sh_X8_init 20000 = some (((2 * 2 : Nat) : Int), ro, co, ne, nc, 2, 0, 0, 0, ht, dr) ∧ gz_ok 2 2 ((2 * 2 : Nat) : Int) ro co ne nc ∧ Rc (2 * 2) (fun _ => 0) (fun _ => 0) ht dr 2 0 0 0 (ab_new [] 2) := by
  obtain ⟨ro, co, ne, nc, e1, G⟩ := c_shape (F := 20000) (h := 2) (w := 2) (by omega) (by omega) (by omega) (fun _ => 0) (fun _ => 0) (fun _ => 0) (fun _ => 0)
  obtain ⟨ht, e2, f2⟩ := c_fill (F := 20000) (n := 16) (v := 0) (by omega) (by omega) (fun _ => 0)
  have e1' : sh_X2_shape 20000 (fun _ => 0) (fun _ => 0) (fun _ => 0) (fun _ => 0) (2 : Int) (2 : Int) = some (((2 * 2 : Nat) : Int), ro, co, ne, nc) := e1
  refine ⟨ro, co, ne, nc, ht, ht, ?_, G, fun p hp => ?_, ⟨by decide, by decide⟩, rfl, rfl, rfl⟩
  · unfold sh_X8_init sh_X2_init sh_X0_init sh_X1_init sh_X4_init sh_X7_init sh_X6_init sh_X3_init sh_X0_clear
    rw [Option.bind_some, Option.bind_some, Option.bind_some, Option.bind_some, Option.bind_some, Option.bind_some, Option.bind_some, Option.bind_some, Option.bind_some, e1', Option.bind_some, e2, Option.bind_some, Option.bind_some, Option.bind_some]
  · have h0 := f2 p (by omega)
    rw [h0]
    exact ⟨⟨by decide, by decide⟩, rfl, rfl, Nat.zero_testBit p⟩
def zO0 : zO := (2, 2, ab_new [] 2, (0, fun _ => ab_new [] 2), (fun _ => none), 0, fun _ => 0)
theorem zO0.ok : zOK 0 zO0 := ⟨⟨by decide, by decide⟩, ⟨by decide, by decide⟩, ab_new_wf (fun l hl => by cases hl) (by omega) (Int.le_refl _), fun i hi => absurd hi (Nat.not_lt_zero i), fun s a hs => by cases hs⟩
theorem zO0.rel {ro co ne nc ht dr : Nat → Int} (G : gz_ok 2 2 ((2 * 2 : Nat) : Int) ro co ne nc) (R : Rc (2 * 2) (fun _ => 0) (fun _ => 0) ht dr 2 0 0 0 (ab_new [] 2)) : oREL ((2 * 2 : Nat) : Int) ro co ne nc 2 0 0 0 (fun _ => 0) (fun _ => 0) ht dr 0 (fun _ => 0) 0 0 (fun _ => 0) (fun _ => zC0) zO0 := by
  refine ⟨G, R, ⟨0, by decide, rfl, rfl, Nat.zero_le _, fun i hi => absurd hi (Nat.not_lt_zero i)⟩, fun s hs => Or.inl ⟨rfl, rfl⟩, rfl, Nat.zero_le _, fun j hj => absurd hj (Nat.not_lt_zero j)⟩

section GO
variable {p : Program} {l : Launch} {e : Env} {s : State} {m : MethodId} {args : Array Value} {below : List Frame} {meth : Method} {c : Code} {Q : State → Prop} {ret : Option FieldType} {nm : String × List ExceptionTableEntry} {Af : Nat → Prop} {D : va_G} {J : Nat → ClassId}
set_option maxRecDepth 100000 in
set_option maxHeartbeats 4000000 in
theorem oc_init : ∀ a : Nat, ZM l D J yX8_init wsX8_init ({ frames := 4, cells := 113, slots := 4577, locals := 101 } : Room) 113 4577 [.ref a] [(a, .inr (7, [.null, .null, .null, .null, .null, .null, .null, .null, .null]))] (fun rv w9 => rv = none ∧ cOB J a zO0 w9) := by
  obtain ⟨ro, co, ne, nc, ht, dr, e, G, R⟩ := w_init8
  intro a
  refine (zc_X8_init l D J 20000 a (((2 * 2 : Nat) : Int), ro, co, ne, nc, 2, 0, 0, 0, ht, dr) e).post (fun rv w hq => ?_)
  obtain ⟨h0, x_grid, x_grid_rowOf, x_grid_columnOf, x_grid_neighbours, x_grid_neighbourCount, x_cave, x_cave_buckets, x_cave_grades, x_cave_heights, x_cave_drawn, x_copy, x_copy_buckets, x_copy_grades, x_copy_heights, x_copy_drawn, x_text, x_text_signs, x_history, x_history_states, x_slots, x_slots_states, x_slots_filled, x_search, x_search_ahead, x_search_drawn, x_search_taken, x_search_mostFromStep, x_search_trial, x_search_best, x_pattern, x_pattern_values, x_commands, x_commands_values, ad, hw⟩ := hq
  exact ⟨h0, cOB.mk _ _ _ _ _ _ _ _ _ _ _ _ _ _ _ _ _ _ _ _ _ _ _ _ _ _ _ _ _ _ _ _ _ _ _ _ _ _ _ _ _ _ _ _ _ _ _ _ _ _ _ _ _ _ _ _ _ _ _ _ _ _ _ _ _ _ _ _ _ _ _ _ _ _ hw (zO0.rel G R)⟩
theorem lw_loop (hend : ∀ (cs ss : Nat) (ws : va_W), cs ≤ 849423 → ss ≤ 6553199 → Z p l e room_1 s m args below meth c Q cL_law 9 wsL_law RL D J Af ret nm cs ss ws [(3, .int (zi (1 : Int)))] 281 []) {a1 a2 : Nat} : ∀ (n k cs ss : Nat) (B : zO) (b : Int) (w1 w2 : va_W), k + n = 12 → zOK b B → (0 ≤ b ∧ b ≤ 12 * (k : Int)) → cOB J a1 B w1 → cOB J a2 B w2 → cs = 2000 + 785 * k → ss = 20000 + 4726 * k → Z p l e room_1 s m args below meth c Q cL_law 9 wsL_law RL D J Af ret nm cs ss (w1 ++ w2) [(0, .ref (J 7)), (1, .ref a1), (2, .ref a2), (3, .int (zi (1 : Int))), (4, .int (zi ((ow B : Nat) : Int))), (5, .int (zi (k : Int)))] 51 [] := by
  intro n
  induction n with
  | zero =>
    intro k cs ss B b w1 w2 hk W hb h1 h2 hcs hss
    refine z_iload (pc' := 53) 5 dL_law_51 rfl rfl ?_
    refine z_bipush (pc' := 55) dL_law_53 (by decide) rfl ?_
    refine z_icmp_ge (pc' := 58) (tgt := 281) dL_law_55 (by decide) (by omega) (by decide) rfl (fun _ => ?_) (fun q => absurd q (by omega))
    refine z_lv [(3, .int (zi (1 : Int)))] [3] rfl ?_
    exact hend cs ss _ (by omega) (by omega)
  | succ n ih =>
    intro k cs ss B b w1 w2 hk W hb h1 h2 hcs hss
    refine lw_round W ⟨by omega, by omega⟩ h1 h2 (by omega) (by omega) (by omega) (fun B' w1' w2' WB h1' h2' => ?_)
    rw [nc_s]
    exact ih (k + 1) (cs + 785) (ss + 4726) B' (b + 12) w1' w2' (by omega) WB ⟨by omega, by omega⟩ h1' h2' (by omega) (by omega)
set_option maxRecDepth 100000 in
set_option maxHeartbeats 8000000 in
theorem lw_go (hend : ∀ (cs ss : Nat) (ws : va_W), cs ≤ 849423 → ss ≤ 6553199 → Z p l e room_1 s m args below meth c Q cL_law 9 wsL_law RL D J Af ret nm cs ss ws [(3, .int (zi (1 : Int)))] 281 []) : Z p l e room_1 s m args below meth c Q cL_law 9 wsL_law RL D J Af ret nm 0 0 [] [(0, .ref (J 7))] 0 [] := by
  have W9 : zOK 90000 zO0 := zO0.ok.mono (by omega)
  have ep : kd_pointCount zO0 = some 4 := by unfold kd_pointCount; exact kx_t W9
  have eb : kd_bound zO0 = some 2 := by unfold kd_bound; exact kx_t W9
  refine z_new (pc' := 3) (ci := 7) (C := RX8) (T := TX8) (N := 9) [.null, .null, .null, .null, .null, .null, .null, .null, .null] 1 9 tyX8 tyX8_ok dL_law_0 inlX8 (List.mem_of_getElem? (i := 0) rfl) (List.mem_of_getElem? (i := 1) rfl) (List.mem_of_getElem? (i := 2) rfl) rfl (by decide +kernel) rfl rfl (Nat.le_of_ble_eq_true rfl) (Nat.le_of_ble_eq_true rfl) rfl (fun a1 => ?_)
  refine z_ws [(a1, .inr (7, [.null, .null, .null, .null, .null, .null, .null, .null, .null]))] rfl ?_
  refine z_dup (pc' := 4) dL_law_3 rfl rfl ?_
  refine z_callI (pc' := 7) (As := []) (rest := [.ref a1]) (wr := []) 0 (oc_init a1) dL_law_4 gL_law_X8_init rfl rfl rfl (List.mem_of_getElem? (i := 2) rfl) (List.mem_of_getElem? (i := 3) rfl) (List.mem_of_getElem? (i := 4) rfl) rfl (by decide +kernel) ⟨Nat.le_of_ble_eq_true rfl, Nat.le_of_ble_eq_true rfl⟩ ⟨Nat.le_of_ble_eq_true rfl, Nat.le_of_ble_eq_true rfl⟩ (z_spl_nil _) rfl rfl (Nat.le_of_ble_eq_true rfl) rfl (fun rv w1 hq => ?_)
  obtain ⟨rfl, k1⟩ := hq
  refine z_ws w1 rfl ?_
  refine z_astore_n (pc' := 8) [(1, .ref a1), (0, .ref (J 7))] dL_law_7 rfl (by decide) rfl rfl ?_
  refine z_new (pc' := 11) (ci := 7) (C := RX8) (T := TX8) (N := 9) [.null, .null, .null, .null, .null, .null, .null, .null, .null] 115 4595 tyX8 tyX8_ok dL_law_8 inlX8 (List.mem_of_getElem? (i := 0) rfl) (List.mem_of_getElem? (i := 1) rfl) (List.mem_of_getElem? (i := 2) rfl) rfl (by decide +kernel) rfl rfl (Nat.le_of_ble_eq_true rfl) (Nat.le_of_ble_eq_true rfl) rfl (fun a2 => ?_)
  refine z_dup (pc' := 12) dL_law_11 rfl rfl ?_
  refine z_callI (pc' := 15) (As := []) (rest := [.ref a2]) (wr := w1) 0 (oc_init a2) dL_law_12 gL_law_X8_init rfl rfl rfl (List.mem_of_getElem? (i := 2) rfl) (List.mem_of_getElem? (i := 3) rfl) (List.mem_of_getElem? (i := 4) rfl) rfl (by decide +kernel) ⟨Nat.le_of_ble_eq_true rfl, Nat.le_of_ble_eq_true rfl⟩ ⟨Nat.le_of_ble_eq_true rfl, Nat.le_of_ble_eq_true rfl⟩ (z_spl_sw _ _) rfl rfl (Nat.le_of_ble_eq_true rfl) rfl (fun rv w2 hq => ?_)
  obtain ⟨rfl, k2⟩ := hq
  refine z_ws (w1 ++ w2) rfl ?_
  refine z_widen 228 9172 (by decide) (by decide) ?_
  refine z_astore_n (pc' := 16) [(2, .ref a2), (1, .ref a1), (0, .ref (J 7))] dL_law_15 rfl (by decide) rfl rfl ?_
  refine z_aload_n (pc' := 17) 0 dL_law_16 rfl rfl rfl ?_
  refine z_callS (pc' := 20) (As := [.ref a2]) (rest := []) (wr := w1) 1 (zc_L_errors l D J 20000 k2 1 (errors_ok W9)) dL_law_17 gL_law_L_errors rfl rfl rfl (by decide +kernel) ⟨Nat.le_of_ble_eq_true rfl, Nat.le_of_ble_eq_true rfl⟩ ⟨by show 228 + 227 ≤ 849423; omega, by show 9172 + 1362 ≤ 6553199; omega⟩ (z_spl_sw _ _) rfl rfl (Nat.le_of_ble_eq_true rfl) rfl (fun rv u1 hq => ?_)
  obtain ⟨rfl, k2⟩ := hq
  refine z_ws (w1 ++ u1) rfl ?_
  refine z_if_eq (pc' := 23) (tgt := 43) dL_law_20 (by decide) (by decide) rfl (fun q => absurd q (by decide)) (fun _ => ?_)
  refine z_aload_n (pc' := 24) 1 dL_law_23 rfl rfl rfl ?_
  obtain ⟨fs1, hz1⟩ := k1.h0
  refine z_callV (pc' := 27) (C := RX8) (As := []) (rest := []) (wr := u1) 0 (oc_pointCount_d l D J k1 ep) dL_law_24 gL_law_X8_pointCount rfl rfl rfl (by decide +kernel) ⟨Nat.le_of_ble_eq_true rfl, Nat.le_of_ble_eq_true rfl⟩ ⟨by show 228 + 227 + 0 ≤ 849423; omega, by show 9172 + 1362 + 0 ≤ 6553199; omega⟩ (z_spl_id _ _) hz1 rfl rfl rfl (Nat.le_of_ble_eq_true rfl) rfl (fun rv u2 hq => ?_)
  obtain ⟨rfl, -, k1⟩ := hq
  refine z_ws (u1 ++ u2) rfl ?_
  refine z_iconst (pc' := 28) dL_law_27 rfl ?_
  refine z_icmp_ne (pc' := 31) (tgt := 43) dL_law_28 (by decide) (by decide) (by decide) rfl (fun q => absurd rfl q) (fun _ => ?_)
  refine z_aload_n (pc' := 32) 1 dL_law_31 rfl rfl rfl ?_
  obtain ⟨fs2, hz2⟩ := k1.h0
  refine z_callV (pc' := 35) (C := RX8) (As := []) (rest := []) (wr := u1) 0 (oc_bound_d l D J k1 eb) dL_law_32 gL_law_X8_bound rfl rfl rfl (by decide +kernel) ⟨Nat.le_of_ble_eq_true rfl, Nat.le_of_ble_eq_true rfl⟩ ⟨by show 228 + 227 + 0 + 0 ≤ 849423; omega, by show 9172 + 1362 + 0 + 0 ≤ 6553199; omega⟩ (z_spl_sw _ _) hz2 rfl rfl rfl (Nat.le_of_ble_eq_true rfl) rfl (fun rv u3 hq => ?_)
  obtain ⟨rfl, -, k1⟩ := hq
  refine z_ws (u1 ++ u3) rfl ?_
  refine z_iconst (pc' := 36) dL_law_35 rfl ?_
  refine z_icmp_ne (pc' := 39) (tgt := 43) dL_law_36 (by decide) (by decide) (by decide) rfl (fun q => absurd rfl q) (fun _ => ?_)
  refine z_iconst (pc' := 40) dL_law_39 rfl ?_
  refine z_goto (tgt := 44) dL_law_40 (by decide) ?_
  refine z_istore_n (pc' := 45) [(3, .int (zi (1 : Int))), (2, .ref a2), (1, .ref a1), (0, .ref (J 7))] dL_law_44 rfl (by decide) rfl rfl ?_
  refine z_iconst (pc' := 46) dL_law_45 rfl ?_
  refine z_istore (pc' := 48) [(4, .int (zi (2 : Int))), (3, .int (zi (1 : Int))), (2, .ref a2), (1, .ref a1), (0, .ref (J 7))] dL_law_46 (by decide) rfl rfl ?_
  refine z_iconst (pc' := 49) dL_law_48 rfl ?_
  refine z_istore (pc' := 51) [(5, .int (zi (0 : Int))), (4, .int (zi (2 : Int))), (3, .int (zi (1 : Int))), (2, .ref a2), (1, .ref a1), (0, .ref (J 7))] dL_law_49 (by decide) rfl rfl ?_
  refine z_sw ?_
  refine z_widen 2000 20000 (by decide) (by decide) ?_
  refine z_lv [(0, .ref (J 7)), (1, .ref a1), (2, .ref a2), (3, .int (zi (1 : Int))), (4, .int (zi ((ow zO0 : Nat) : Int))), (5, .int (zi ((0 : Nat) : Int)))] [5, 4, 3, 2, 1, 0] rfl ?_
  exact lw_loop hend 12 0 2000 20000 zO0 0 u3 u1 (by omega) zO0.ok ⟨by omega, by omega⟩ k1 k2 rfl rfl
end GO
