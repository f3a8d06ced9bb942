def sh_X9_draw (F : Nat) (c_t_high : Int) (c_t_wide : Int) (c_t_acts : Int) (c_t_next : Int) (f_t_now : Nat → Int) (f_t_diary : Nat → Int) (p0 : Int) : Option (Int × Int × Int × Int × (Nat → Int) × (Nat → Int)) := (sh_X9_isPoint F c_t_high c_t_wide p0).bind (fun (q1 : Int) => zkr q1 (if q1 = (0 : Int) then (sh_X9_refused F (1 : Int)).bind (fun (q21 : Int × Int) => zkr q21.1 (if q21.1 = (0 : Int) then (sh_X9_note F c_t_acts c_t_next f_t_now f_t_diary).bind (fun (q24 : Int × Int × (Nat → Int)) => (sh_X9_take F f_t_now 243 (0 : Int) p0).bind (fun (q26 : Int × (Nat → Int)) => some (q26.1, q21.2, q24.1, q24.2.1, q26.2, q24.2.2))) else some ((0 : Int), q21.2, c_t_acts, c_t_next, f_t_now, f_t_diary))) else (sh_X9_isReadyIn F c_t_high c_t_wide f_t_now 243 (0 : Int) p0).bind (fun (q4 : Int) => zkr q4 (if q4 = (0 : Int) then (sh_X9_refused F (2 : Int)).bind (fun (q14 : Int × Int) => zkr q14.1 (if q14.1 = (0 : Int) then (sh_X9_note F c_t_acts c_t_next f_t_now f_t_diary).bind (fun (q17 : Int × Int × (Nat → Int)) => (sh_X9_take F f_t_now 243 (0 : Int) p0).bind (fun (q19 : Int × (Nat → Int)) => some (q19.1, q14.2, q17.1, q17.2.1, q19.2, q17.2.2))) else some ((0 : Int), q14.2, c_t_acts, c_t_next, f_t_now, f_t_diary))) else (sh_X9_refused F (0 : Int)).bind (fun (q7 : Int × Int) => zkr q7.1 (if q7.1 = (0 : Int) then (sh_X9_note F c_t_acts c_t_next f_t_now f_t_diary).bind (fun (q10 : Int × Int × (Nat → Int)) => (sh_X9_take F f_t_now 243 (0 : Int) p0).bind (fun (q12 : Int × (Nat → Int)) => some (q12.1, q7.2, q10.1, q10.2.1, q12.2, q10.2.2))) else some ((0 : Int), q7.2, c_t_acts, c_t_next, f_t_now, f_t_diary)))))))
theorem mX9_draw_f16 : Cond.fieldLink RX9 16 (TX9 3).1 (TX9 3).2.1 (TX9 3).2.2.1 ∈ wsX9_draw := List.mem_of_getElem? (i := 1) rfl
theorem iX9_draw_X9 : ∀ w ∈ wsX90, w ∈ wsX9_draw := fun _ h => (List.mem_cons_of_mem _ (List.mem_append_right _ h))
set_option maxRecDepth 100000 in
set_option maxHeartbeats 4000000 in
theorem zc_X9_draw (l : Launch) (D : va_G) (J : Nat → ClassId) (F : Nat) (a_t : Nat) (a_t_now : Nat) (a_t_trial : Nat) (a_t_diary : Nat) (a_t_kept : Nat) (a_t_isKept : Nat) (a_t_script : Nat) (a_t_read : Nat) (a_t_wanted : Nat) (a_t_level : Nat) (a_t_chosen : Nat) (a_t_best : Nat) (c_t_refusal : Int) (c_t_high : Int) (c_t_wide : Int) (c_t_acts : Int) (c_t_next : Int) (c_t_scriptSize : Int) (c_t_spot : Int) (c_t_readHigh : Int) (c_t_readWide : Int) (f_t_now : Nat → Int) (f_t_diary : Nat → Int) (p0 : Int) (res : Int × Int × Int × Int × (Nat → Int) × (Nat → Int)) (hsh : sh_X9_draw F c_t_high c_t_wide c_t_acts c_t_next f_t_now f_t_diary p0 = some res) : ZM l D J yX9_draw wsX9_draw ({ frames := 4, cells := 0, slots := 0, locals := 98 } : Room) 0 0 [.ref a_t, .int (zi p0)] [(a_t, .inr (8, [.int (zi c_t_refusal), .int (zi c_t_high), .int (zi c_t_wide), .ref a_t_now, .ref a_t_trial, .ref a_t_diary, .int (zi c_t_acts), .int (zi c_t_next), .ref a_t_kept, .ref a_t_isKept, .ref a_t_script, .int (zi c_t_scriptSize), .int (zi c_t_spot), .ref a_t_read, .int (zi c_t_readHigh), .int (zi c_t_readWide), .ref a_t_wanted, .ref a_t_level, .ref a_t_chosen, .ref a_t_best])), (a_t_now, zI J 243 f_t_now), (a_t_diary, zI J 3402 f_t_diary)] (fun rv w9 => rv = some (.int (zi res.1)) ∧ w9 = [(a_t, .inr (8, [.int (zi res.2.1), .int (zi c_t_high), .int (zi c_t_wide), .ref a_t_now, .ref a_t_trial, .ref a_t_diary, .int (zi res.2.2.1), .int (zi res.2.2.2.1), .ref a_t_kept, .ref a_t_isKept, .ref a_t_script, .int (zi c_t_scriptSize), .int (zi c_t_spot), .ref a_t_read, .int (zi c_t_readHigh), .int (zi c_t_readWide), .ref a_t_wanted, .ref a_t_level, .ref a_t_chosen, .ref a_t_best])), (a_t_now, zI J 243 res.2.2.2.2.1), (a_t_diary, zI J 3402 res.2.2.2.2.2)]) := by
  refine z_ofZ (cc := cX9_draw) (maxL := 2) (ret := (some .int)) 0 0 (by decide) rfl (Nat.le_of_ble_eq_true rfl) [(0, .ref a_t), (1, .int (zi p0))] rfl ?_
  intro p e s m args below meth c A
  unfold sh_X9_draw at hsh
  refine z_aload_n (pc' := 1) 0 dX9_draw_0 rfl rfl rfl ?_
  refine z_aload_n (pc' := 2) 0 dX9_draw_1 rfl rfl rfl ?_
  refine z_iload_n (pc' := 3) 1 dX9_draw_2 rfl rfl rfl ?_
  obtain ⟨q1, h2, hsh⟩ := zbind hsh
  refine z_callV (pc' := 6) (C := RX9) (As := [.int (zi p0)]) (rest := [.ref a_t]) (wr := [(a_t_now, zI J 243 f_t_now), (a_t_diary, zI J 3402 f_t_diary)]) 1 (zc_X9_isPoint l D J F (a_t := a_t) (a_t_now := a_t_now) (a_t_trial := a_t_trial) (a_t_diary := a_t_diary) (a_t_kept := a_t_kept) (a_t_isKept := a_t_isKept) (a_t_script := a_t_script) (a_t_read := a_t_read) (a_t_wanted := a_t_wanted) (a_t_level := a_t_level) (a_t_chosen := a_t_chosen) (a_t_best := a_t_best) (c_t_refusal := c_t_refusal) (c_t_high := c_t_high) (c_t_wide := c_t_wide) (c_t_acts := c_t_acts) (c_t_next := c_t_next) (c_t_scriptSize := c_t_scriptSize) (c_t_spot := c_t_spot) (c_t_readHigh := c_t_readHigh) (c_t_readWide := c_t_readWide) (p0 := p0)  q1 h2) dX9_draw_3 gX9_draw_X9_isPoint rfl rfl rfl (by decide +kernel) ⟨Nat.le_of_ble_eq_true rfl, Nat.le_of_ble_eq_true rfl⟩ ⟨Nat.le_of_ble_eq_true rfl, Nat.le_of_ble_eq_true rfl⟩ (z_spl_of [0, 1, 2] rfl rfl) rfl rfl rfl rfl (Nat.le_of_ble_eq_true rfl) rfl (fun rv w9 hq => ?_)
  obtain ⟨rfl, rfl⟩ := hq
  refine z_ws [(a_t_now, zI J 243 f_t_now), (a_t_diary, zI J 3402 f_t_diary), (a_t, .inr (8, [.int (zi c_t_refusal), .int (zi c_t_high), .int (zi c_t_wide), .ref a_t_now, .ref a_t_trial, .ref a_t_diary, .int (zi c_t_acts), .int (zi c_t_next), .ref a_t_kept, .ref a_t_isKept, .ref a_t_script, .int (zi c_t_scriptSize), .int (zi c_t_spot), .ref a_t_read, .int (zi c_t_readHigh), .int (zi c_t_readWide), .ref a_t_wanted, .ref a_t_level, .ref a_t_chosen, .ref a_t_best]))] rfl ?_
  have g3 := zkr_p hsh
  replace hsh := zkr_k hsh
  refine z_if_ne (pc' := 9) (tgt := 13) dX9_draw_6 (by decide) g3 rfl (fun q => ?_) (fun q => ?_)
  · replace hsh := zif_f q hsh
    refine z_aload_n (pc' := 14) 0 dX9_draw_13 rfl rfl rfl ?_
    refine z_aload_n (pc' := 15) 0 dX9_draw_14 rfl rfl rfl ?_
    refine z_getfield (pc' := 18) (C := RX9) (T := TX9) (N := 20) 2 3 dX9_draw_15 iX9_draw_X9 rfl rfl (by decide) mX9_draw_f16 rfl rfl ?_
    refine z_iconst (pc' := 19) dX9_draw_18 rfl ?_
    refine z_iload_n (pc' := 20) 1 dX9_draw_19 rfl rfl rfl ?_
    obtain ⟨q4, h5, hsh⟩ := zbind hsh
    refine z_callV (pc' := 23) (C := RX9) (As := [.ref a_t_now, .int (zi (0 : Int)), .int (zi p0)]) (rest := [.ref a_t]) (wr := [(a_t_diary, zI J 3402 f_t_diary)]) 3 (zc_X9_isReadyIn l D J F (a_t := a_t) (a_p0 := a_t_now) (a_t_now := a_t_now) (a_t_trial := a_t_trial) (a_t_diary := a_t_diary) (a_t_kept := a_t_kept) (a_t_isKept := a_t_isKept) (a_t_script := a_t_script) (a_t_read := a_t_read) (a_t_wanted := a_t_wanted) (a_t_level := a_t_level) (a_t_chosen := a_t_chosen) (a_t_best := a_t_best) (c_t_refusal := c_t_refusal) (c_t_high := c_t_high) (c_t_wide := c_t_wide) (c_t_acts := c_t_acts) (c_t_next := c_t_next) (c_t_scriptSize := c_t_scriptSize) (c_t_spot := c_t_spot) (c_t_readHigh := c_t_readHigh) (c_t_readWide := c_t_readWide) (f_p0 := f_t_now) (n_p0 := 243) (p1 := (0 : Int)) (p2 := p0) (hn_p0 := (by decide)) q4 h5) dX9_draw_20 gX9_draw_X9_isReadyIn rfl rfl rfl (by decide +kernel) ⟨Nat.le_of_ble_eq_true rfl, Nat.le_of_ble_eq_true rfl⟩ ⟨Nat.le_of_ble_eq_true rfl, Nat.le_of_ble_eq_true rfl⟩ (z_spl_of [2, 0, 1] rfl rfl) rfl rfl rfl rfl (Nat.le_of_ble_eq_true rfl) rfl (fun rv w9 hq => ?_)
    obtain ⟨rfl, rfl⟩ := hq
    refine z_ws [(a_t_diary, zI J 3402 f_t_diary), (a_t, .inr (8, [.int (zi c_t_refusal), .int (zi c_t_high), .int (zi c_t_wide), .ref a_t_now, .ref a_t_trial, .ref a_t_diary, .int (zi c_t_acts), .int (zi c_t_next), .ref a_t_kept, .ref a_t_isKept, .ref a_t_script, .int (zi c_t_scriptSize), .int (zi c_t_spot), .ref a_t_read, .int (zi c_t_readHigh), .int (zi c_t_readWide), .ref a_t_wanted, .ref a_t_level, .ref a_t_chosen, .ref a_t_best])), (a_t_now, zI J 243 f_t_now)] rfl ?_
    have g6 := zkr_p hsh
    replace hsh := zkr_k hsh
    refine z_if_ne (pc' := 26) (tgt := 30) dX9_draw_23 (by decide) g6 rfl (fun q => ?_) (fun q => ?_)
    · replace hsh := zif_f q hsh
      refine z_iconst (pc' := 31) dX9_draw_30 rfl ?_
      obtain ⟨q7, h8, hsh⟩ := zbind hsh
      refine z_callV (pc' := 34) (C := RX9) (As := [.int (zi (0 : Int))]) (rest := []) (wr := [(a_t_diary, zI J 3402 f_t_diary), (a_t_now, zI J 243 f_t_now)]) 1 (zc_X9_refused l D J F (a_t := a_t) (a_t_now := a_t_now) (a_t_trial := a_t_trial) (a_t_diary := a_t_diary) (a_t_kept := a_t_kept) (a_t_isKept := a_t_isKept) (a_t_script := a_t_script) (a_t_read := a_t_read) (a_t_wanted := a_t_wanted) (a_t_level := a_t_level) (a_t_chosen := a_t_chosen) (a_t_best := a_t_best) (c_t_refusal := c_t_refusal) (c_t_high := c_t_high) (c_t_wide := c_t_wide) (c_t_acts := c_t_acts) (c_t_next := c_t_next) (c_t_scriptSize := c_t_scriptSize) (c_t_spot := c_t_spot) (c_t_readHigh := c_t_readHigh) (c_t_readWide := c_t_readWide) (p0 := (0 : Int))  q7 h8) dX9_draw_31 gX9_draw_X9_refused rfl rfl rfl (by decide +kernel) ⟨Nat.le_of_ble_eq_true rfl, Nat.le_of_ble_eq_true rfl⟩ ⟨Nat.le_of_ble_eq_true rfl, Nat.le_of_ble_eq_true rfl⟩ (z_spl_of [1, 0, 2] rfl rfl) rfl rfl rfl rfl (Nat.le_of_ble_eq_true rfl) rfl (fun rv w9 hq => ?_)
      obtain ⟨rfl, rfl⟩ := hq
      refine z_ws [(a_t_diary, zI J 3402 f_t_diary), (a_t_now, zI J 243 f_t_now), (a_t, .inr (8, [.int (zi q7.2), .int (zi c_t_high), .int (zi c_t_wide), .ref a_t_now, .ref a_t_trial, .ref a_t_diary, .int (zi c_t_acts), .int (zi c_t_next), .ref a_t_kept, .ref a_t_isKept, .ref a_t_script, .int (zi c_t_scriptSize), .int (zi c_t_spot), .ref a_t_read, .int (zi c_t_readHigh), .int (zi c_t_readWide), .ref a_t_wanted, .ref a_t_level, .ref a_t_chosen, .ref a_t_best]))] rfl ?_
      have g9 := zkr_p hsh
      replace hsh := zkr_k hsh
      refine z_if_eq (pc' := 37) (tgt := 39) dX9_draw_34 (by decide) g9 rfl (fun q => ?_) (fun q => ?_)
      · replace hsh := zif_t q hsh
        refine z_aload_n (pc' := 40) 0 dX9_draw_39 rfl rfl rfl ?_
        obtain ⟨q10, h11, hsh⟩ := zbind hsh
        refine z_callV (pc' := 43) (C := RX9) (As := []) (rest := []) (wr := []) 0 (zc_X9_note l D J F (a_t := a_t) (a_t_now := a_t_now) (a_t_trial := a_t_trial) (a_t_diary := a_t_diary) (a_t_kept := a_t_kept) (a_t_isKept := a_t_isKept) (a_t_script := a_t_script) (a_t_read := a_t_read) (a_t_wanted := a_t_wanted) (a_t_level := a_t_level) (a_t_chosen := a_t_chosen) (a_t_best := a_t_best) (c_t_refusal := q7.2) (c_t_high := c_t_high) (c_t_wide := c_t_wide) (c_t_acts := c_t_acts) (c_t_next := c_t_next) (c_t_scriptSize := c_t_scriptSize) (c_t_spot := c_t_spot) (c_t_readHigh := c_t_readHigh) (c_t_readWide := c_t_readWide) (f_t_now := f_t_now) (f_t_diary := f_t_diary)  q10 h11) dX9_draw_40 gX9_draw_X9_note rfl rfl rfl (by decide +kernel) ⟨Nat.le_of_ble_eq_true rfl, Nat.le_of_ble_eq_true rfl⟩ ⟨Nat.le_of_ble_eq_true rfl, Nat.le_of_ble_eq_true rfl⟩ (z_spl_of [2, 1, 0] rfl rfl) rfl rfl rfl rfl (Nat.le_of_ble_eq_true rfl) rfl (fun rv w9 hq => ?_)
        obtain ⟨rfl, rfl⟩ := hq
        refine z_ws [(a_t, .inr (8, [.int (zi q7.2), .int (zi c_t_high), .int (zi c_t_wide), .ref a_t_now, .ref a_t_trial, .ref a_t_diary, .int (zi q10.1), .int (zi q10.2.1), .ref a_t_kept, .ref a_t_isKept, .ref a_t_script, .int (zi c_t_scriptSize), .int (zi c_t_spot), .ref a_t_read, .int (zi c_t_readHigh), .int (zi c_t_readWide), .ref a_t_wanted, .ref a_t_level, .ref a_t_chosen, .ref a_t_best])), (a_t_now, zI J 243 f_t_now), (a_t_diary, zI J 3402 q10.2.2)] rfl ?_
        refine z_aload_n (pc' := 44) 0 dX9_draw_43 rfl rfl rfl ?_
        refine z_getfield (pc' := 47) (C := RX9) (T := TX9) (N := 20) 0 3 dX9_draw_44 iX9_draw_X9 rfl rfl (by decide) mX9_draw_f16 rfl rfl ?_
        refine z_iconst (pc' := 48) dX9_draw_47 rfl ?_
        refine z_iload_n (pc' := 49) 1 dX9_draw_48 rfl rfl rfl ?_
        obtain ⟨q12, h13, hsh⟩ := zbind hsh
        refine z_callS (pc' := 52) (As := [.ref a_t_now, .int (zi (0 : Int)), .int (zi p0)]) (rest := []) (wr := [(a_t, .inr (8, [.int (zi q7.2), .int (zi c_t_high), .int (zi c_t_wide), .ref a_t_now, .ref a_t_trial, .ref a_t_diary, .int (zi q10.1), .int (zi q10.2.1), .ref a_t_kept, .ref a_t_isKept, .ref a_t_script, .int (zi c_t_scriptSize), .int (zi c_t_spot), .ref a_t_read, .int (zi c_t_readHigh), .int (zi c_t_readWide), .ref a_t_wanted, .ref a_t_level, .ref a_t_chosen, .ref a_t_best])), (a_t_diary, zI J 3402 q10.2.2)]) 3 (zc_X9_take l D J F (a_p0 := a_t_now) (f_p0 := f_t_now) (n_p0 := 243) (p1 := (0 : Int)) (p2 := p0) (hn_p0 := (by decide)) q12 h13) dX9_draw_49 gX9_draw_X9_take rfl rfl rfl (by decide +kernel) ⟨Nat.le_of_ble_eq_true rfl, Nat.le_of_ble_eq_true rfl⟩ ⟨Nat.le_of_ble_eq_true rfl, Nat.le_of_ble_eq_true rfl⟩ (z_spl_of [1, 0, 2] rfl rfl) rfl rfl (Nat.le_of_ble_eq_true rfl) rfl (fun rv w9 hq => ?_)
        obtain ⟨rfl, rfl⟩ := hq
        refine z_ws [(a_t, .inr (8, [.int (zi q7.2), .int (zi c_t_high), .int (zi c_t_wide), .ref a_t_now, .ref a_t_trial, .ref a_t_diary, .int (zi q10.1), .int (zi q10.2.1), .ref a_t_kept, .ref a_t_isKept, .ref a_t_script, .int (zi c_t_scriptSize), .int (zi c_t_spot), .ref a_t_read, .int (zi c_t_readHigh), .int (zi c_t_readWide), .ref a_t_wanted, .ref a_t_level, .ref a_t_chosen, .ref a_t_best])), (a_t_diary, zI J 3402 q10.2.2), (a_t_now, zI J 243 q12.2)] rfl ?_
        refine z_perm [(a_t, .inr (8, [.int (zi q7.2), .int (zi c_t_high), .int (zi c_t_wide), .ref a_t_now, .ref a_t_trial, .ref a_t_diary, .int (zi q10.1), .int (zi q10.2.1), .ref a_t_kept, .ref a_t_isKept, .ref a_t_script, .int (zi c_t_scriptSize), .int (zi c_t_spot), .ref a_t_read, .int (zi c_t_readHigh), .int (zi c_t_readWide), .ref a_t_wanted, .ref a_t_level, .ref a_t_chosen, .ref a_t_best])), (a_t_now, zI J 243 q12.2), (a_t_diary, zI J 3402 q10.2.2)] [(0, .ref a_t), (1, .int (zi p0))] [0, 2, 1] [0, 1] rfl rfl rfl ?_
        cases hsh
        exact z_iret rfl dX9_draw_52 ⟨rfl, rfl⟩
      · replace hsh := zif_f q hsh
        refine z_iconst (pc' := 38) dX9_draw_37 rfl ?_
        refine z_perm [(a_t, .inr (8, [.int (zi q7.2), .int (zi c_t_high), .int (zi c_t_wide), .ref a_t_now, .ref a_t_trial, .ref a_t_diary, .int (zi c_t_acts), .int (zi c_t_next), .ref a_t_kept, .ref a_t_isKept, .ref a_t_script, .int (zi c_t_scriptSize), .int (zi c_t_spot), .ref a_t_read, .int (zi c_t_readHigh), .int (zi c_t_readWide), .ref a_t_wanted, .ref a_t_level, .ref a_t_chosen, .ref a_t_best])), (a_t_now, zI J 243 f_t_now), (a_t_diary, zI J 3402 f_t_diary)] [(0, .ref a_t), (1, .int (zi p0))] [2, 1, 0] [0, 1] rfl rfl rfl ?_
        cases hsh
        exact z_iret rfl dX9_draw_38 ⟨rfl, rfl⟩
    · replace hsh := zif_t q hsh
      refine z_iconst (pc' := 27) dX9_draw_26 rfl ?_
      refine z_goto (tgt := 31) dX9_draw_27 (by decide) ?_
      obtain ⟨q14, h15, hsh⟩ := zbind hsh
      refine z_callV (pc' := 34) (C := RX9) (As := [.int (zi (2 : Int))]) (rest := []) (wr := [(a_t_diary, zI J 3402 f_t_diary), (a_t_now, zI J 243 f_t_now)]) 1 (zc_X9_refused l D J F (a_t := a_t) (a_t_now := a_t_now) (a_t_trial := a_t_trial) (a_t_diary := a_t_diary) (a_t_kept := a_t_kept) (a_t_isKept := a_t_isKept) (a_t_script := a_t_script) (a_t_read := a_t_read) (a_t_wanted := a_t_wanted) (a_t_level := a_t_level) (a_t_chosen := a_t_chosen) (a_t_best := a_t_best) (c_t_refusal := c_t_refusal) (c_t_high := c_t_high) (c_t_wide := c_t_wide) (c_t_acts := c_t_acts) (c_t_next := c_t_next) (c_t_scriptSize := c_t_scriptSize) (c_t_spot := c_t_spot) (c_t_readHigh := c_t_readHigh) (c_t_readWide := c_t_readWide) (p0 := (2 : Int))  q14 h15) dX9_draw_31 gX9_draw_X9_refused rfl rfl rfl (by decide +kernel) ⟨Nat.le_of_ble_eq_true rfl, Nat.le_of_ble_eq_true rfl⟩ ⟨Nat.le_of_ble_eq_true rfl, Nat.le_of_ble_eq_true rfl⟩ (z_spl_of [1, 0, 2] rfl rfl) rfl rfl rfl rfl (Nat.le_of_ble_eq_true rfl) rfl (fun rv w9 hq => ?_)
      obtain ⟨rfl, rfl⟩ := hq
      refine z_ws [(a_t_diary, zI J 3402 f_t_diary), (a_t_now, zI J 243 f_t_now), (a_t, .inr (8, [.int (zi q14.2), .int (zi c_t_high), .int (zi c_t_wide), .ref a_t_now, .ref a_t_trial, .ref a_t_diary, .int (zi c_t_acts), .int (zi c_t_next), .ref a_t_kept, .ref a_t_isKept, .ref a_t_script, .int (zi c_t_scriptSize), .int (zi c_t_spot), .ref a_t_read, .int (zi c_t_readHigh), .int (zi c_t_readWide), .ref a_t_wanted, .ref a_t_level, .ref a_t_chosen, .ref a_t_best]))] rfl ?_
      have g16 := zkr_p hsh
      replace hsh := zkr_k hsh
      refine z_if_eq (pc' := 37) (tgt := 39) dX9_draw_34 (by decide) g16 rfl (fun q => ?_) (fun q => ?_)
      · replace hsh := zif_t q hsh
        refine z_aload_n (pc' := 40) 0 dX9_draw_39 rfl rfl rfl ?_
        obtain ⟨q17, h18, hsh⟩ := zbind hsh
        refine z_callV (pc' := 43) (C := RX9) (As := []) (rest := []) (wr := []) 0 (zc_X9_note l D J F (a_t := a_t) (a_t_now := a_t_now) (a_t_trial := a_t_trial) (a_t_diary := a_t_diary) (a_t_kept := a_t_kept) (a_t_isKept := a_t_isKept) (a_t_script := a_t_script) (a_t_read := a_t_read) (a_t_wanted := a_t_wanted) (a_t_level := a_t_level) (a_t_chosen := a_t_chosen) (a_t_best := a_t_best) (c_t_refusal := q14.2) (c_t_high := c_t_high) (c_t_wide := c_t_wide) (c_t_acts := c_t_acts) (c_t_next := c_t_next) (c_t_scriptSize := c_t_scriptSize) (c_t_spot := c_t_spot) (c_t_readHigh := c_t_readHigh) (c_t_readWide := c_t_readWide) (f_t_now := f_t_now) (f_t_diary := f_t_diary)  q17 h18) dX9_draw_40 gX9_draw_X9_note rfl rfl rfl (by decide +kernel) ⟨Nat.le_of_ble_eq_true rfl, Nat.le_of_ble_eq_true rfl⟩ ⟨Nat.le_of_ble_eq_true rfl, Nat.le_of_ble_eq_true rfl⟩ (z_spl_of [2, 1, 0] rfl rfl) rfl rfl rfl rfl (Nat.le_of_ble_eq_true rfl) rfl (fun rv w9 hq => ?_)
        obtain ⟨rfl, rfl⟩ := hq
        refine z_ws [(a_t, .inr (8, [.int (zi q14.2), .int (zi c_t_high), .int (zi c_t_wide), .ref a_t_now, .ref a_t_trial, .ref a_t_diary, .int (zi q17.1), .int (zi q17.2.1), .ref a_t_kept, .ref a_t_isKept, .ref a_t_script, .int (zi c_t_scriptSize), .int (zi c_t_spot), .ref a_t_read, .int (zi c_t_readHigh), .int (zi c_t_readWide), .ref a_t_wanted, .ref a_t_level, .ref a_t_chosen, .ref a_t_best])), (a_t_now, zI J 243 f_t_now), (a_t_diary, zI J 3402 q17.2.2)] rfl ?_
        refine z_aload_n (pc' := 44) 0 dX9_draw_43 rfl rfl rfl ?_
        refine z_getfield (pc' := 47) (C := RX9) (T := TX9) (N := 20) 0 3 dX9_draw_44 iX9_draw_X9 rfl rfl (by decide) mX9_draw_f16 rfl rfl ?_
        refine z_iconst (pc' := 48) dX9_draw_47 rfl ?_
        refine z_iload_n (pc' := 49) 1 dX9_draw_48 rfl rfl rfl ?_
        obtain ⟨q19, h20, hsh⟩ := zbind hsh
        refine z_callS (pc' := 52) (As := [.ref a_t_now, .int (zi (0 : Int)), .int (zi p0)]) (rest := []) (wr := [(a_t, .inr (8, [.int (zi q14.2), .int (zi c_t_high), .int (zi c_t_wide), .ref a_t_now, .ref a_t_trial, .ref a_t_diary, .int (zi q17.1), .int (zi q17.2.1), .ref a_t_kept, .ref a_t_isKept, .ref a_t_script, .int (zi c_t_scriptSize), .int (zi c_t_spot), .ref a_t_read, .int (zi c_t_readHigh), .int (zi c_t_readWide), .ref a_t_wanted, .ref a_t_level, .ref a_t_chosen, .ref a_t_best])), (a_t_diary, zI J 3402 q17.2.2)]) 3 (zc_X9_take l D J F (a_p0 := a_t_now) (f_p0 := f_t_now) (n_p0 := 243) (p1 := (0 : Int)) (p2 := p0) (hn_p0 := (by decide)) q19 h20) dX9_draw_49 gX9_draw_X9_take rfl rfl rfl (by decide +kernel) ⟨Nat.le_of_ble_eq_true rfl, Nat.le_of_ble_eq_true rfl⟩ ⟨Nat.le_of_ble_eq_true rfl, Nat.le_of_ble_eq_true rfl⟩ (z_spl_of [1, 0, 2] rfl rfl) rfl rfl (Nat.le_of_ble_eq_true rfl) rfl (fun rv w9 hq => ?_)
        obtain ⟨rfl, rfl⟩ := hq
        refine z_ws [(a_t, .inr (8, [.int (zi q14.2), .int (zi c_t_high), .int (zi c_t_wide), .ref a_t_now, .ref a_t_trial, .ref a_t_diary, .int (zi q17.1), .int (zi q17.2.1), .ref a_t_kept, .ref a_t_isKept, .ref a_t_script, .int (zi c_t_scriptSize), .int (zi c_t_spot), .ref a_t_read, .int (zi c_t_readHigh), .int (zi c_t_readWide), .ref a_t_wanted, .ref a_t_level, .ref a_t_chosen, .ref a_t_best])), (a_t_diary, zI J 3402 q17.2.2), (a_t_now, zI J 243 q19.2)] rfl ?_
        refine z_perm [(a_t, .inr (8, [.int (zi q14.2), .int (zi c_t_high), .int (zi c_t_wide), .ref a_t_now, .ref a_t_trial, .ref a_t_diary, .int (zi q17.1), .int (zi q17.2.1), .ref a_t_kept, .ref a_t_isKept, .ref a_t_script, .int (zi c_t_scriptSize), .int (zi c_t_spot), .ref a_t_read, .int (zi c_t_readHigh), .int (zi c_t_readWide), .ref a_t_wanted, .ref a_t_level, .ref a_t_chosen, .ref a_t_best])), (a_t_now, zI J 243 q19.2), (a_t_diary, zI J 3402 q17.2.2)] [(0, .ref a_t), (1, .int (zi p0))] [0, 2, 1] [0, 1] rfl rfl rfl ?_
        cases hsh
        exact z_iret rfl dX9_draw_52 ⟨rfl, rfl⟩
      · replace hsh := zif_f q hsh
        refine z_iconst (pc' := 38) dX9_draw_37 rfl ?_
        refine z_perm [(a_t, .inr (8, [.int (zi q14.2), .int (zi c_t_high), .int (zi c_t_wide), .ref a_t_now, .ref a_t_trial, .ref a_t_diary, .int (zi c_t_acts), .int (zi c_t_next), .ref a_t_kept, .ref a_t_isKept, .ref a_t_script, .int (zi c_t_scriptSize), .int (zi c_t_spot), .ref a_t_read, .int (zi c_t_readHigh), .int (zi c_t_readWide), .ref a_t_wanted, .ref a_t_level, .ref a_t_chosen, .ref a_t_best])), (a_t_now, zI J 243 f_t_now), (a_t_diary, zI J 3402 f_t_diary)] [(0, .ref a_t), (1, .int (zi p0))] [2, 1, 0] [0, 1] rfl rfl rfl ?_
        cases hsh
        exact z_iret rfl dX9_draw_38 ⟨rfl, rfl⟩
  · replace hsh := zif_t q hsh
    refine z_iconst (pc' := 10) dX9_draw_9 rfl ?_
    refine z_goto (tgt := 31) dX9_draw_10 (by decide) ?_
    obtain ⟨q21, h22, hsh⟩ := zbind hsh
    refine z_callV (pc' := 34) (C := RX9) (As := [.int (zi (1 : Int))]) (rest := []) (wr := [(a_t_now, zI J 243 f_t_now), (a_t_diary, zI J 3402 f_t_diary)]) 1 (zc_X9_refused l D J F (a_t := a_t) (a_t_now := a_t_now) (a_t_trial := a_t_trial) (a_t_diary := a_t_diary) (a_t_kept := a_t_kept) (a_t_isKept := a_t_isKept) (a_t_script := a_t_script) (a_t_read := a_t_read) (a_t_wanted := a_t_wanted) (a_t_level := a_t_level) (a_t_chosen := a_t_chosen) (a_t_best := a_t_best) (c_t_refusal := c_t_refusal) (c_t_high := c_t_high) (c_t_wide := c_t_wide) (c_t_acts := c_t_acts) (c_t_next := c_t_next) (c_t_scriptSize := c_t_scriptSize) (c_t_spot := c_t_spot) (c_t_readHigh := c_t_readHigh) (c_t_readWide := c_t_readWide) (p0 := (1 : Int))  q21 h22) dX9_draw_31 gX9_draw_X9_refused rfl rfl rfl (by decide +kernel) ⟨Nat.le_of_ble_eq_true rfl, Nat.le_of_ble_eq_true rfl⟩ ⟨Nat.le_of_ble_eq_true rfl, Nat.le_of_ble_eq_true rfl⟩ (z_spl_of [2, 0, 1] rfl rfl) rfl rfl rfl rfl (Nat.le_of_ble_eq_true rfl) rfl (fun rv w9 hq => ?_)
    obtain ⟨rfl, rfl⟩ := hq
    refine z_ws [(a_t_now, zI J 243 f_t_now), (a_t_diary, zI J 3402 f_t_diary), (a_t, .inr (8, [.int (zi q21.2), .int (zi c_t_high), .int (zi c_t_wide), .ref a_t_now, .ref a_t_trial, .ref a_t_diary, .int (zi c_t_acts), .int (zi c_t_next), .ref a_t_kept, .ref a_t_isKept, .ref a_t_script, .int (zi c_t_scriptSize), .int (zi c_t_spot), .ref a_t_read, .int (zi c_t_readHigh), .int (zi c_t_readWide), .ref a_t_wanted, .ref a_t_level, .ref a_t_chosen, .ref a_t_best]))] rfl ?_
    have g23 := zkr_p hsh
    replace hsh := zkr_k hsh
    refine z_if_eq (pc' := 37) (tgt := 39) dX9_draw_34 (by decide) g23 rfl (fun q => ?_) (fun q => ?_)
    · replace hsh := zif_t q hsh
      refine z_aload_n (pc' := 40) 0 dX9_draw_39 rfl rfl rfl ?_
      obtain ⟨q24, h25, hsh⟩ := zbind hsh
      refine z_callV (pc' := 43) (C := RX9) (As := []) (rest := []) (wr := []) 0 (zc_X9_note l D J F (a_t := a_t) (a_t_now := a_t_now) (a_t_trial := a_t_trial) (a_t_diary := a_t_diary) (a_t_kept := a_t_kept) (a_t_isKept := a_t_isKept) (a_t_script := a_t_script) (a_t_read := a_t_read) (a_t_wanted := a_t_wanted) (a_t_level := a_t_level) (a_t_chosen := a_t_chosen) (a_t_best := a_t_best) (c_t_refusal := q21.2) (c_t_high := c_t_high) (c_t_wide := c_t_wide) (c_t_acts := c_t_acts) (c_t_next := c_t_next) (c_t_scriptSize := c_t_scriptSize) (c_t_spot := c_t_spot) (c_t_readHigh := c_t_readHigh) (c_t_readWide := c_t_readWide) (f_t_now := f_t_now) (f_t_diary := f_t_diary)  q24 h25) dX9_draw_40 gX9_draw_X9_note rfl rfl rfl (by decide +kernel) ⟨Nat.le_of_ble_eq_true rfl, Nat.le_of_ble_eq_true rfl⟩ ⟨Nat.le_of_ble_eq_true rfl, Nat.le_of_ble_eq_true rfl⟩ (z_spl_of [2, 0, 1] rfl rfl) rfl rfl rfl rfl (Nat.le_of_ble_eq_true rfl) rfl (fun rv w9 hq => ?_)
      obtain ⟨rfl, rfl⟩ := hq
      refine z_ws [(a_t, .inr (8, [.int (zi q21.2), .int (zi c_t_high), .int (zi c_t_wide), .ref a_t_now, .ref a_t_trial, .ref a_t_diary, .int (zi q24.1), .int (zi q24.2.1), .ref a_t_kept, .ref a_t_isKept, .ref a_t_script, .int (zi c_t_scriptSize), .int (zi c_t_spot), .ref a_t_read, .int (zi c_t_readHigh), .int (zi c_t_readWide), .ref a_t_wanted, .ref a_t_level, .ref a_t_chosen, .ref a_t_best])), (a_t_now, zI J 243 f_t_now), (a_t_diary, zI J 3402 q24.2.2)] rfl ?_
      refine z_aload_n (pc' := 44) 0 dX9_draw_43 rfl rfl rfl ?_
      refine z_getfield (pc' := 47) (C := RX9) (T := TX9) (N := 20) 0 3 dX9_draw_44 iX9_draw_X9 rfl rfl (by decide) mX9_draw_f16 rfl rfl ?_
      refine z_iconst (pc' := 48) dX9_draw_47 rfl ?_
      refine z_iload_n (pc' := 49) 1 dX9_draw_48 rfl rfl rfl ?_
      obtain ⟨q26, h27, hsh⟩ := zbind hsh
      refine z_callS (pc' := 52) (As := [.ref a_t_now, .int (zi (0 : Int)), .int (zi p0)]) (rest := []) (wr := [(a_t, .inr (8, [.int (zi q21.2), .int (zi c_t_high), .int (zi c_t_wide), .ref a_t_now, .ref a_t_trial, .ref a_t_diary, .int (zi q24.1), .int (zi q24.2.1), .ref a_t_kept, .ref a_t_isKept, .ref a_t_script, .int (zi c_t_scriptSize), .int (zi c_t_spot), .ref a_t_read, .int (zi c_t_readHigh), .int (zi c_t_readWide), .ref a_t_wanted, .ref a_t_level, .ref a_t_chosen, .ref a_t_best])), (a_t_diary, zI J 3402 q24.2.2)]) 3 (zc_X9_take l D J F (a_p0 := a_t_now) (f_p0 := f_t_now) (n_p0 := 243) (p1 := (0 : Int)) (p2 := p0) (hn_p0 := (by decide)) q26 h27) dX9_draw_49 gX9_draw_X9_take rfl rfl rfl (by decide +kernel) ⟨Nat.le_of_ble_eq_true rfl, Nat.le_of_ble_eq_true rfl⟩ ⟨Nat.le_of_ble_eq_true rfl, Nat.le_of_ble_eq_true rfl⟩ (z_spl_of [1, 0, 2] rfl rfl) rfl rfl (Nat.le_of_ble_eq_true rfl) rfl (fun rv w9 hq => ?_)
      obtain ⟨rfl, rfl⟩ := hq
      refine z_ws [(a_t, .inr (8, [.int (zi q21.2), .int (zi c_t_high), .int (zi c_t_wide), .ref a_t_now, .ref a_t_trial, .ref a_t_diary, .int (zi q24.1), .int (zi q24.2.1), .ref a_t_kept, .ref a_t_isKept, .ref a_t_script, .int (zi c_t_scriptSize), .int (zi c_t_spot), .ref a_t_read, .int (zi c_t_readHigh), .int (zi c_t_readWide), .ref a_t_wanted, .ref a_t_level, .ref a_t_chosen, .ref a_t_best])), (a_t_diary, zI J 3402 q24.2.2), (a_t_now, zI J 243 q26.2)] rfl ?_
      refine z_perm [(a_t, .inr (8, [.int (zi q21.2), .int (zi c_t_high), .int (zi c_t_wide), .ref a_t_now, .ref a_t_trial, .ref a_t_diary, .int (zi q24.1), .int (zi q24.2.1), .ref a_t_kept, .ref a_t_isKept, .ref a_t_script, .int (zi c_t_scriptSize), .int (zi c_t_spot), .ref a_t_read, .int (zi c_t_readHigh), .int (zi c_t_readWide), .ref a_t_wanted, .ref a_t_level, .ref a_t_chosen, .ref a_t_best])), (a_t_now, zI J 243 q26.2), (a_t_diary, zI J 3402 q24.2.2)] [(0, .ref a_t), (1, .int (zi p0))] [0, 2, 1] [0, 1] rfl rfl rfl ?_
      cases hsh
      exact z_iret rfl dX9_draw_52 ⟨rfl, rfl⟩
    · replace hsh := zif_f q hsh
      refine z_iconst (pc' := 38) dX9_draw_37 rfl ?_
      refine z_perm [(a_t, .inr (8, [.int (zi q21.2), .int (zi c_t_high), .int (zi c_t_wide), .ref a_t_now, .ref a_t_trial, .ref a_t_diary, .int (zi c_t_acts), .int (zi c_t_next), .ref a_t_kept, .ref a_t_isKept, .ref a_t_script, .int (zi c_t_scriptSize), .int (zi c_t_spot), .ref a_t_read, .int (zi c_t_readHigh), .int (zi c_t_readWide), .ref a_t_wanted, .ref a_t_level, .ref a_t_chosen, .ref a_t_best])), (a_t_now, zI J 243 f_t_now), (a_t_diary, zI J 3402 f_t_diary)] [(0, .ref a_t), (1, .int (zi p0))] [2, 0, 1] [0, 1] rfl rfl rfl ?_
      cases hsh
      exact z_iret rfl dX9_draw_38 ⟨rfl, rfl⟩
def sh_X9_nextOf_L11 (F : Nat) (n_p0 : Nat) (c_t_high : Int) (c_t_wide : Int) (f_p0 : Nat → Int) (k : Int → Int → Int → Int → Option (Int)) : Nat → Int → Int → Int → Int → Option (Int)
  | 0, _, _, _, _ => none
  | N + 1, v5, v6, v7, v8 => (sh_X9_points F c_t_high c_t_wide).bind (fun (q9 : Int) => zkr v8 (zkr q9 (if v8 < q9 then (sh_X9_slackOf F c_t_high c_t_wide f_p0 n_p0 (0 : Int) v8).bind (fun (q13 : Int) => zkr q13 (if (0 : Int) < q13 then (sh_X9_gradeOf F f_p0 n_p0 (0 : Int) v8 (0 : Int)).bind (fun (q18 : Int) => zkr v6 (if v6 < q13 then sh_X9_nextOf_L11 F n_p0 c_t_high c_t_wide f_p0 k N v8 q13 q18 (v8 + (1 : Int)) else if (0 : Int) < q13 then if q13 = v6 then zkr q18 (zkr v7 (if v7 < q18 then sh_X9_nextOf_L11 F n_p0 c_t_high c_t_wide f_p0 k N v8 q13 q18 (v8 + (1 : Int)) else sh_X9_nextOf_L11 F n_p0 c_t_high c_t_wide f_p0 k N v5 v6 v7 (v8 + (1 : Int)))) else sh_X9_nextOf_L11 F n_p0 c_t_high c_t_wide f_p0 k N v5 v6 v7 (v8 + (1 : Int)) else sh_X9_nextOf_L11 F n_p0 c_t_high c_t_wide f_p0 k N v5 v6 v7 (v8 + (1 : Int)))) else zkr v6 (if v6 < q13 then sh_X9_nextOf_L11 F n_p0 c_t_high c_t_wide f_p0 k N v8 q13 (0 : Int) (v8 + (1 : Int)) else if (0 : Int) < q13 then if q13 = v6 then zkr v7 (if v7 < (0 : Int) then sh_X9_nextOf_L11 F n_p0 c_t_high c_t_wide f_p0 k N v8 q13 (0 : Int) (v8 + (1 : Int)) else sh_X9_nextOf_L11 F n_p0 c_t_high c_t_wide f_p0 k N v5 v6 v7 (v8 + (1 : Int))) else sh_X9_nextOf_L11 F n_p0 c_t_high c_t_wide f_p0 k N v5 v6 v7 (v8 + (1 : Int)) else sh_X9_nextOf_L11 F n_p0 c_t_high c_t_wide f_p0 k N v5 v6 v7 (v8 + (1 : Int))))) else k v5 v6 v7 v8)))
def sh_X9_nextOf (F : Nat) (c_t_high : Int) (c_t_wide : Int) (f_p0 : Nat → Int) (n_p0 : Nat) : Option (Int) := sh_X9_nextOf_L11 F n_p0 c_t_high c_t_wide f_p0 (fun (v23 : Int) (v24 : Int) (v25 : Int) (v26 : Int) => some (v23)) F (-9 : Int) (0 : Int) (0 : Int) (0 : Int)
set_option maxRecDepth 100000 in
set_option maxHeartbeats 4000000 in
theorem zl_X9_nextOf_L11 {p : Program} {l : Launch} {e : Env} {s : State} {m : MethodId} {args : Array Value} {below : List Frame} {meth : Method} {c : Code} {A : Nat → Prop} {D : va_G} {J : Nat → ClassId} {F : Nat} {n_p0 : Nat} {c_t_high : Int} {c_t_wide : Int} {f_p0 : Nat → Int} {a_t : Nat} {c_t_refusal : Int} {a_t_now : Nat} {a_t_trial : Nat} {a_t_diary : Nat} {c_t_acts : Int} {c_t_next : Int} {a_t_kept : Nat} {a_t_isKept : Nat} {a_t_script : Nat} {c_t_scriptSize : Int} {c_t_spot : Int} {a_t_read : Nat} {c_t_readHigh : Int} {c_t_readWide : Int} {a_t_wanted : Nat} {a_t_level : Nat} {a_t_chosen : Nat} {a_t_best : Nat} {a_p0 : Nat} {res : Int} (hn_p0 : n_p0 ≤ 2147483647) {k : Int → Int → Int → Int → Option (Int)} (hk : ∀ (v5' : Int) (v6' : Int) (v7' : Int) (v8' : Int), k v5' v6' v7' v8' = some res → Z p l e ({ frames := 3, cells := 0, slots := 0, locals := 75 } : Room) s m args below meth c (MQ below (zQ D J A (fun rv w9 => rv = some (.int (zi res)) ∧ w9 = [(a_t, .inr (8, [.int (zi c_t_refusal), .int (zi c_t_high), .int (zi c_t_wide), .ref a_t_now, .ref a_t_trial, .ref a_t_diary, .int (zi c_t_acts), .int (zi c_t_next), .ref a_t_kept, .ref a_t_isKept, .ref a_t_script, .int (zi c_t_scriptSize), .int (zi c_t_spot), .ref a_t_read, .int (zi c_t_readHigh), .int (zi c_t_readWide), .ref a_t_wanted, .ref a_t_level, .ref a_t_chosen, .ref a_t_best])), (a_p0, zI J n_p0 f_p0)])) args s 0 0 A) cX9_nextOf 8 wsX9_nextOf RX9 D J A (some .int) (yX9_nextOf.name, []) 0 0 [(a_t, .inr (8, [.int (zi c_t_refusal), .int (zi c_t_high), .int (zi c_t_wide), .ref a_t_now, .ref a_t_trial, .ref a_t_diary, .int (zi c_t_acts), .int (zi c_t_next), .ref a_t_kept, .ref a_t_isKept, .ref a_t_script, .int (zi c_t_scriptSize), .int (zi c_t_spot), .ref a_t_read, .int (zi c_t_readHigh), .int (zi c_t_readWide), .ref a_t_wanted, .ref a_t_level, .ref a_t_chosen, .ref a_t_best])), (a_p0, zI J n_p0 f_p0)] [(2, .int (zi v5'))] 89 []) : ∀ (N : Nat) (v5 : Int) (v6 : Int) (v7 : Int) (v8 : Int), sh_X9_nextOf_L11 F n_p0 c_t_high c_t_wide f_p0 k N v5 v6 v7 v8 = some res → Z p l e ({ frames := 3, cells := 0, slots := 0, locals := 75 } : Room) s m args below meth c (MQ below (zQ D J A (fun rv w9 => rv = some (.int (zi res)) ∧ w9 = [(a_t, .inr (8, [.int (zi c_t_refusal), .int (zi c_t_high), .int (zi c_t_wide), .ref a_t_now, .ref a_t_trial, .ref a_t_diary, .int (zi c_t_acts), .int (zi c_t_next), .ref a_t_kept, .ref a_t_isKept, .ref a_t_script, .int (zi c_t_scriptSize), .int (zi c_t_spot), .ref a_t_read, .int (zi c_t_readHigh), .int (zi c_t_readWide), .ref a_t_wanted, .ref a_t_level, .ref a_t_chosen, .ref a_t_best])), (a_p0, zI J n_p0 f_p0)])) args s 0 0 A) cX9_nextOf 8 wsX9_nextOf RX9 D J A (some .int) (yX9_nextOf.name, []) 0 0 [(a_t, .inr (8, [.int (zi c_t_refusal), .int (zi c_t_high), .int (zi c_t_wide), .ref a_t_now, .ref a_t_trial, .ref a_t_diary, .int (zi c_t_acts), .int (zi c_t_next), .ref a_t_kept, .ref a_t_isKept, .ref a_t_script, .int (zi c_t_scriptSize), .int (zi c_t_spot), .ref a_t_read, .int (zi c_t_readHigh), .int (zi c_t_readWide), .ref a_t_wanted, .ref a_t_level, .ref a_t_chosen, .ref a_t_best])), (a_p0, zI J n_p0 f_p0)] [(0, .ref a_t), (1, .ref a_p0), (2, .int (zi v5)), (3, .int (zi v6)), (4, .int (zi v7)), (5, .int (zi v8))] 11 [] := by
  intro N
  induction N with
  | zero =>
    intro v5 v6 v7 v8 hsh
    exact absurd hsh (by simp [sh_X9_nextOf_L11])
  | succ N ih =>
    intro v5 v6 v7 v8 hsh
    rw [sh_X9_nextOf_L11] at hsh
    refine z_iload (pc' := 13) 5 dX9_nextOf_11 rfl rfl ?_
    refine z_aload_n (pc' := 14) 0 dX9_nextOf_13 rfl rfl rfl ?_
    obtain ⟨q9, h10, hsh⟩ := zbind hsh
    refine z_callV (pc' := 17) (C := RX9) (As := []) (rest := [.int (zi v8)]) (wr := [(a_p0, zI J n_p0 f_p0)]) 0 (zc_X9_points l D J F (a_t := a_t) (a_t_now := a_t_now) (a_t_trial := a_t_trial) (a_t_diary := a_t_diary) (a_t_kept := a_t_kept) (a_t_isKept := a_t_isKept) (a_t_script := a_t_script) (a_t_read := a_t_read) (a_t_wanted := a_t_wanted) (a_t_level := a_t_level) (a_t_chosen := a_t_chosen) (a_t_best := a_t_best) (c_t_refusal := c_t_refusal) (c_t_high := c_t_high) (c_t_wide := c_t_wide) (c_t_acts := c_t_acts) (c_t_next := c_t_next) (c_t_scriptSize := c_t_scriptSize) (c_t_spot := c_t_spot) (c_t_readHigh := c_t_readHigh) (c_t_readWide := c_t_readWide)  q9 h10) dX9_nextOf_14 gX9_nextOf_X9_points rfl rfl rfl (by decide +kernel) ⟨Nat.le_of_ble_eq_true rfl, Nat.le_of_ble_eq_true rfl⟩ ⟨Nat.le_of_ble_eq_true rfl, Nat.le_of_ble_eq_true rfl⟩ (z_spl_of [0, 1] rfl rfl) rfl rfl rfl rfl (Nat.le_of_ble_eq_true rfl) rfl (fun rv w9 hq => ?_)
    obtain ⟨rfl, rfl⟩ := hq
    refine z_ws [(a_p0, zI J n_p0 f_p0), (a_t, .inr (8, [.int (zi c_t_refusal), .int (zi c_t_high), .int (zi c_t_wide), .ref a_t_now, .ref a_t_trial, .ref a_t_diary, .int (zi c_t_acts), .int (zi c_t_next), .ref a_t_kept, .ref a_t_isKept, .ref a_t_script, .int (zi c_t_scriptSize), .int (zi c_t_spot), .ref a_t_read, .int (zi c_t_readHigh), .int (zi c_t_readWide), .ref a_t_wanted, .ref a_t_level, .ref a_t_chosen, .ref a_t_best]))] rfl ?_
    have g11 := zkr_p hsh
    replace hsh := zkr_k hsh
    have g12 := zkr_p hsh
    replace hsh := zkr_k hsh
    refine z_icmp_ge (pc' := 20) (tgt := 89) dX9_nextOf_17 (by decide) g11 g12 rfl (fun q => ?_) (fun q => ?_)
    · replace hsh := zif_f q hsh
      refine z_perm [(a_t, .inr (8, [.int (zi c_t_refusal), .int (zi c_t_high), .int (zi c_t_wide), .ref a_t_now, .ref a_t_trial, .ref a_t_diary, .int (zi c_t_acts), .int (zi c_t_next), .ref a_t_kept, .ref a_t_isKept, .ref a_t_script, .int (zi c_t_scriptSize), .int (zi c_t_spot), .ref a_t_read, .int (zi c_t_readHigh), .int (zi c_t_readWide), .ref a_t_wanted, .ref a_t_level, .ref a_t_chosen, .ref a_t_best])), (a_p0, zI J n_p0 f_p0)] [(2, .int (zi v5))] [1, 0] [2] rfl rfl rfl ?_
      exact hk _ _ _ _ hsh
    · replace hsh := zif_t q hsh
      refine z_aload_n (pc' := 21) 0 dX9_nextOf_20 rfl rfl rfl ?_
      refine z_aload_n (pc' := 22) 1 dX9_nextOf_21 rfl rfl rfl ?_
      refine z_iconst (pc' := 23) dX9_nextOf_22 rfl ?_
      refine z_iload (pc' := 25) 5 dX9_nextOf_23 rfl rfl ?_
      obtain ⟨q13, h14, hsh⟩ := zbind hsh
      refine z_callV (pc' := 28) (C := RX9) (As := [.ref a_p0, .int (zi (0 : Int)), .int (zi v8)]) (rest := []) (wr := []) 3 (zc_X9_slackOf l D J F (a_t := a_t) (a_p0 := a_p0) (a_t_now := a_t_now) (a_t_trial := a_t_trial) (a_t_diary := a_t_diary) (a_t_kept := a_t_kept) (a_t_isKept := a_t_isKept) (a_t_script := a_t_script) (a_t_read := a_t_read) (a_t_wanted := a_t_wanted) (a_t_level := a_t_level) (a_t_chosen := a_t_chosen) (a_t_best := a_t_best) (c_t_refusal := c_t_refusal) (c_t_high := c_t_high) (c_t_wide := c_t_wide) (c_t_acts := c_t_acts) (c_t_next := c_t_next) (c_t_scriptSize := c_t_scriptSize) (c_t_spot := c_t_spot) (c_t_readHigh := c_t_readHigh) (c_t_readWide := c_t_readWide) (f_p0 := f_p0) (n_p0 := n_p0) (p1 := (0 : Int)) (p2 := v8) (hn_p0 := hn_p0) q13 h14) dX9_nextOf_25 gX9_nextOf_X9_slackOf rfl rfl rfl (by decide +kernel) ⟨Nat.le_of_ble_eq_true rfl, Nat.le_of_ble_eq_true rfl⟩ ⟨Nat.le_of_ble_eq_true rfl, Nat.le_of_ble_eq_true rfl⟩ (z_spl_of [1, 0] rfl rfl) rfl rfl rfl rfl (Nat.le_of_ble_eq_true rfl) rfl (fun rv w9 hq => ?_)
      obtain ⟨rfl, rfl⟩ := hq
      refine z_ws [(a_t, .inr (8, [.int (zi c_t_refusal), .int (zi c_t_high), .int (zi c_t_wide), .ref a_t_now, .ref a_t_trial, .ref a_t_diary, .int (zi c_t_acts), .int (zi c_t_next), .ref a_t_kept, .ref a_t_isKept, .ref a_t_script, .int (zi c_t_scriptSize), .int (zi c_t_spot), .ref a_t_read, .int (zi c_t_readHigh), .int (zi c_t_readWide), .ref a_t_wanted, .ref a_t_level, .ref a_t_chosen, .ref a_t_best])), (a_p0, zI J n_p0 f_p0)] rfl ?_
      refine z_istore (pc' := 30) [(6, .int (zi q13)), (0, .ref a_t), (1, .ref a_p0), (2, .int (zi v5)), (3, .int (zi v6)), (4, .int (zi v7)), (5, .int (zi v8))] dX9_nextOf_28 (by decide) rfl rfl ?_
      refine z_iload (pc' := 32) 0 dX9_nextOf_30 rfl rfl ?_
      have g15 := zkr_p hsh
      replace hsh := zkr_k hsh
      refine z_if_le (pc' := 35) (tgt := 46) dX9_nextOf_32 (by decide) g15 rfl (fun q => ?_) (fun q => ?_)
      · replace hsh := zif_f q hsh
        refine z_iconst (pc' := 47) dX9_nextOf_46 rfl ?_
        refine z_istore (pc' := 49) [(7, .int (zi (0 : Int))), (6, .int (zi q13)), (0, .ref a_t), (1, .ref a_p0), (2, .int (zi v5)), (3, .int (zi v6)), (4, .int (zi v7)), (5, .int (zi v8))] dX9_nextOf_47 (by decide) rfl rfl ?_
        refine z_iload (pc' := 51) 1 dX9_nextOf_49 rfl rfl ?_
        refine z_iload_n (pc' := 52) 5 dX9_nextOf_51 rfl rfl rfl ?_
        have g16 := zkr_p hsh
        replace hsh := zkr_k hsh
        refine z_icmp_gt (pc' := 55) (tgt := 73) dX9_nextOf_52 (by decide) g15 g16 rfl (fun q => ?_) (fun q => ?_)
        · replace hsh := zif_t q hsh
          refine z_iload (pc' := 75) 7 dX9_nextOf_73 rfl rfl ?_
          refine z_istore_n (pc' := 76) [(2, .int (zi v8)), (7, .int (zi (0 : Int))), (6, .int (zi q13)), (0, .ref a_t), (1, .ref a_p0), (3, .int (zi v6)), (4, .int (zi v7)), (5, .int (zi v8))] dX9_nextOf_75 rfl (by decide) rfl rfl ?_
          refine z_iload (pc' := 78) 2 dX9_nextOf_76 rfl rfl ?_
          refine z_istore_n (pc' := 79) [(3, .int (zi q13)), (2, .int (zi v8)), (7, .int (zi (0 : Int))), (6, .int (zi q13)), (0, .ref a_t), (1, .ref a_p0), (4, .int (zi v7)), (5, .int (zi v8))] dX9_nextOf_78 rfl (by decide) rfl rfl ?_
          refine z_iload (pc' := 81) 2 dX9_nextOf_79 rfl rfl ?_
          refine z_istore (pc' := 83) [(4, .int (zi (0 : Int))), (3, .int (zi q13)), (2, .int (zi v8)), (7, .int (zi (0 : Int))), (6, .int (zi q13)), (0, .ref a_t), (1, .ref a_p0), (5, .int (zi v8))] dX9_nextOf_81 (by decide) rfl rfl ?_
          refine z_iinc (pc' := 86) [(5, .int (zi (v8 + (1 : Int)))), (4, .int (zi (0 : Int))), (3, .int (zi q13)), (2, .int (zi v8)), (7, .int (zi (0 : Int))), (6, .int (zi q13)), (0, .ref a_t), (1, .ref a_p0)] 7 dX9_nextOf_83 rfl (by decide) rfl rfl ?_
          refine z_goto (tgt := 11) dX9_nextOf_86 (by decide) ?_
          refine z_perm [(a_t, .inr (8, [.int (zi c_t_refusal), .int (zi c_t_high), .int (zi c_t_wide), .ref a_t_now, .ref a_t_trial, .ref a_t_diary, .int (zi c_t_acts), .int (zi c_t_next), .ref a_t_kept, .ref a_t_isKept, .ref a_t_script, .int (zi c_t_scriptSize), .int (zi c_t_spot), .ref a_t_read, .int (zi c_t_readHigh), .int (zi c_t_readWide), .ref a_t_wanted, .ref a_t_level, .ref a_t_chosen, .ref a_t_best])), (a_p0, zI J n_p0 f_p0)] [(0, .ref a_t), (1, .ref a_p0), (2, .int (zi v8)), (3, .int (zi q13)), (4, .int (zi (0 : Int))), (5, .int (zi (v8 + (1 : Int))))] [0, 1] [6, 7, 3, 2, 1, 0] rfl rfl rfl ?_
          exact ih _ _ _ _ hsh
        · replace hsh := zif_f q hsh
          refine z_iload (pc' := 57) 1 dX9_nextOf_55 rfl rfl ?_
          refine z_if_le (pc' := 60) (tgt := 83) dX9_nextOf_57 (by decide) g15 rfl (fun q => ?_) (fun q => ?_)
          · replace hsh := zif_f q hsh
            refine z_iinc (pc' := 86) [(5, .int (zi (v8 + (1 : Int)))), (7, .int (zi (0 : Int))), (6, .int (zi q13)), (0, .ref a_t), (1, .ref a_p0), (2, .int (zi v5)), (3, .int (zi v6)), (4, .int (zi v7))] 7 dX9_nextOf_83 rfl (by decide) rfl rfl ?_
            refine z_goto (tgt := 11) dX9_nextOf_86 (by decide) ?_
            refine z_perm [(a_t, .inr (8, [.int (zi c_t_refusal), .int (zi c_t_high), .int (zi c_t_wide), .ref a_t_now, .ref a_t_trial, .ref a_t_diary, .int (zi c_t_acts), .int (zi c_t_next), .ref a_t_kept, .ref a_t_isKept, .ref a_t_script, .int (zi c_t_scriptSize), .int (zi c_t_spot), .ref a_t_read, .int (zi c_t_readHigh), .int (zi c_t_readWide), .ref a_t_wanted, .ref a_t_level, .ref a_t_chosen, .ref a_t_best])), (a_p0, zI J n_p0 f_p0)] [(0, .ref a_t), (1, .ref a_p0), (2, .int (zi v5)), (3, .int (zi v6)), (4, .int (zi v7)), (5, .int (zi (v8 + (1 : Int))))] [0, 1] [3, 4, 5, 6, 7, 0] rfl rfl rfl ?_
            exact ih _ _ _ _ hsh
          · replace hsh := zif_t q hsh
            refine z_iload (pc' := 62) 1 dX9_nextOf_60 rfl rfl ?_
            refine z_iload_n (pc' := 63) 5 dX9_nextOf_62 rfl rfl rfl ?_
            refine z_icmp_ne (pc' := 66) (tgt := 83) dX9_nextOf_63 (by decide) g15 g16 rfl (fun q => ?_) (fun q => ?_)
            · replace hsh := zif_f q hsh
              refine z_iinc (pc' := 86) [(5, .int (zi (v8 + (1 : Int)))), (7, .int (zi (0 : Int))), (6, .int (zi q13)), (0, .ref a_t), (1, .ref a_p0), (2, .int (zi v5)), (3, .int (zi v6)), (4, .int (zi v7))] 7 dX9_nextOf_83 rfl (by decide) rfl rfl ?_
              refine z_goto (tgt := 11) dX9_nextOf_86 (by decide) ?_
              refine z_perm [(a_t, .inr (8, [.int (zi c_t_refusal), .int (zi c_t_high), .int (zi c_t_wide), .ref a_t_now, .ref a_t_trial, .ref a_t_diary, .int (zi c_t_acts), .int (zi c_t_next), .ref a_t_kept, .ref a_t_isKept, .ref a_t_script, .int (zi c_t_scriptSize), .int (zi c_t_spot), .ref a_t_read, .int (zi c_t_readHigh), .int (zi c_t_readWide), .ref a_t_wanted, .ref a_t_level, .ref a_t_chosen, .ref a_t_best])), (a_p0, zI J n_p0 f_p0)] [(0, .ref a_t), (1, .ref a_p0), (2, .int (zi v5)), (3, .int (zi v6)), (4, .int (zi v7)), (5, .int (zi (v8 + (1 : Int))))] [0, 1] [3, 4, 5, 6, 7, 0] rfl rfl rfl ?_
              exact ih _ _ _ _ hsh
            · replace hsh := zif_t q hsh
              refine z_iload (pc' := 68) 0 dX9_nextOf_66 rfl rfl ?_
              refine z_iload (pc' := 70) 6 dX9_nextOf_68 rfl rfl ?_
              have g17 := zkr_p hsh
              replace hsh := zkr_k hsh
              refine z_icmp_le (pc' := 73) (tgt := 83) dX9_nextOf_70 (by decide) zr0 g17 rfl (fun q => ?_) (fun q => ?_)
              · replace hsh := zif_f q hsh
                refine z_iinc (pc' := 86) [(5, .int (zi (v8 + (1 : Int)))), (7, .int (zi (0 : Int))), (6, .int (zi q13)), (0, .ref a_t), (1, .ref a_p0), (2, .int (zi v5)), (3, .int (zi v6)), (4, .int (zi v7))] 7 dX9_nextOf_83 rfl (by decide) rfl rfl ?_
                refine z_goto (tgt := 11) dX9_nextOf_86 (by decide) ?_
                refine z_perm [(a_t, .inr (8, [.int (zi c_t_refusal), .int (zi c_t_high), .int (zi c_t_wide), .ref a_t_now, .ref a_t_trial, .ref a_t_diary, .int (zi c_t_acts), .int (zi c_t_next), .ref a_t_kept, .ref a_t_isKept, .ref a_t_script, .int (zi c_t_scriptSize), .int (zi c_t_spot), .ref a_t_read, .int (zi c_t_readHigh), .int (zi c_t_readWide), .ref a_t_wanted, .ref a_t_level, .ref a_t_chosen, .ref a_t_best])), (a_p0, zI J n_p0 f_p0)] [(0, .ref a_t), (1, .ref a_p0), (2, .int (zi v5)), (3, .int (zi v6)), (4, .int (zi v7)), (5, .int (zi (v8 + (1 : Int))))] [0, 1] [3, 4, 5, 6, 7, 0] rfl rfl rfl ?_
                exact ih _ _ _ _ hsh
              · replace hsh := zif_t q hsh
                refine z_iload (pc' := 75) 7 dX9_nextOf_73 rfl rfl ?_
                refine z_istore_n (pc' := 76) [(2, .int (zi v8)), (7, .int (zi (0 : Int))), (6, .int (zi q13)), (0, .ref a_t), (1, .ref a_p0), (3, .int (zi v6)), (4, .int (zi v7)), (5, .int (zi v8))] dX9_nextOf_75 rfl (by decide) rfl rfl ?_
                refine z_iload (pc' := 78) 2 dX9_nextOf_76 rfl rfl ?_
                refine z_istore_n (pc' := 79) [(3, .int (zi q13)), (2, .int (zi v8)), (7, .int (zi (0 : Int))), (6, .int (zi q13)), (0, .ref a_t), (1, .ref a_p0), (4, .int (zi v7)), (5, .int (zi v8))] dX9_nextOf_78 rfl (by decide) rfl rfl ?_
                refine z_iload (pc' := 81) 2 dX9_nextOf_79 rfl rfl ?_
                refine z_istore (pc' := 83) [(4, .int (zi (0 : Int))), (3, .int (zi q13)), (2, .int (zi v8)), (7, .int (zi (0 : Int))), (6, .int (zi q13)), (0, .ref a_t), (1, .ref a_p0), (5, .int (zi v8))] dX9_nextOf_81 (by decide) rfl rfl ?_
                refine z_iinc (pc' := 86) [(5, .int (zi (v8 + (1 : Int)))), (4, .int (zi (0 : Int))), (3, .int (zi q13)), (2, .int (zi v8)), (7, .int (zi (0 : Int))), (6, .int (zi q13)), (0, .ref a_t), (1, .ref a_p0)] 7 dX9_nextOf_83 rfl (by decide) rfl rfl ?_
                refine z_goto (tgt := 11) dX9_nextOf_86 (by decide) ?_
                refine z_perm [(a_t, .inr (8, [.int (zi c_t_refusal), .int (zi c_t_high), .int (zi c_t_wide), .ref a_t_now, .ref a_t_trial, .ref a_t_diary, .int (zi c_t_acts), .int (zi c_t_next), .ref a_t_kept, .ref a_t_isKept, .ref a_t_script, .int (zi c_t_scriptSize), .int (zi c_t_spot), .ref a_t_read, .int (zi c_t_readHigh), .int (zi c_t_readWide), .ref a_t_wanted, .ref a_t_level, .ref a_t_chosen, .ref a_t_best])), (a_p0, zI J n_p0 f_p0)] [(0, .ref a_t), (1, .ref a_p0), (2, .int (zi v8)), (3, .int (zi q13)), (4, .int (zi (0 : Int))), (5, .int (zi (v8 + (1 : Int))))] [0, 1] [6, 7, 3, 2, 1, 0] rfl rfl rfl ?_
                exact ih _ _ _ _ hsh
      · replace hsh := zif_t q hsh
        refine z_aload_n (pc' := 36) 2 dX9_nextOf_35 rfl rfl rfl ?_
        refine z_iconst (pc' := 37) dX9_nextOf_36 rfl ?_
        refine z_iload (pc' := 39) 6 dX9_nextOf_37 rfl rfl ?_
        refine z_iconst (pc' := 40) dX9_nextOf_39 rfl ?_
        obtain ⟨q18, h19, hsh⟩ := zbind hsh
        refine z_callS (pc' := 43) (As := [.ref a_p0, .int (zi (0 : Int)), .int (zi v8), .int (zi (0 : Int))]) (rest := []) (wr := [(a_t, .inr (8, [.int (zi c_t_refusal), .int (zi c_t_high), .int (zi c_t_wide), .ref a_t_now, .ref a_t_trial, .ref a_t_diary, .int (zi c_t_acts), .int (zi c_t_next), .ref a_t_kept, .ref a_t_isKept, .ref a_t_script, .int (zi c_t_scriptSize), .int (zi c_t_spot), .ref a_t_read, .int (zi c_t_readHigh), .int (zi c_t_readWide), .ref a_t_wanted, .ref a_t_level, .ref a_t_chosen, .ref a_t_best]))]) 4 (zc_X9_gradeOf l D J F (a_p0 := a_p0) (f_p0 := f_p0) (n_p0 := n_p0) (p1 := (0 : Int)) (p2 := v8) (p3 := (0 : Int)) (hn_p0 := hn_p0) q18 h19) dX9_nextOf_40 gX9_nextOf_X9_gradeOf rfl rfl rfl (by decide +kernel) ⟨Nat.le_of_ble_eq_true rfl, Nat.le_of_ble_eq_true rfl⟩ ⟨Nat.le_of_ble_eq_true rfl, Nat.le_of_ble_eq_true rfl⟩ (z_spl_of [1, 0] rfl rfl) rfl rfl (Nat.le_of_ble_eq_true rfl) rfl (fun rv w9 hq => ?_)
        obtain ⟨rfl, rfl⟩ := hq
        refine z_ws [(a_t, .inr (8, [.int (zi c_t_refusal), .int (zi c_t_high), .int (zi c_t_wide), .ref a_t_now, .ref a_t_trial, .ref a_t_diary, .int (zi c_t_acts), .int (zi c_t_next), .ref a_t_kept, .ref a_t_isKept, .ref a_t_script, .int (zi c_t_scriptSize), .int (zi c_t_spot), .ref a_t_read, .int (zi c_t_readHigh), .int (zi c_t_readWide), .ref a_t_wanted, .ref a_t_level, .ref a_t_chosen, .ref a_t_best])), (a_p0, zI J n_p0 f_p0)] rfl ?_
        refine z_goto (tgt := 47) dX9_nextOf_43 (by decide) ?_
        refine z_istore (pc' := 49) [(7, .int (zi q18)), (6, .int (zi q13)), (0, .ref a_t), (1, .ref a_p0), (2, .int (zi v5)), (3, .int (zi v6)), (4, .int (zi v7)), (5, .int (zi v8))] dX9_nextOf_47 (by decide) rfl rfl ?_
        refine z_iload (pc' := 51) 1 dX9_nextOf_49 rfl rfl ?_
        refine z_iload_n (pc' := 52) 5 dX9_nextOf_51 rfl rfl rfl ?_
        have g20 := zkr_p hsh
        replace hsh := zkr_k hsh
        refine z_icmp_gt (pc' := 55) (tgt := 73) dX9_nextOf_52 (by decide) g15 g20 rfl (fun q => ?_) (fun q => ?_)
        · replace hsh := zif_t q hsh
          refine z_iload (pc' := 75) 7 dX9_nextOf_73 rfl rfl ?_
          refine z_istore_n (pc' := 76) [(2, .int (zi v8)), (7, .int (zi q18)), (6, .int (zi q13)), (0, .ref a_t), (1, .ref a_p0), (3, .int (zi v6)), (4, .int (zi v7)), (5, .int (zi v8))] dX9_nextOf_75 rfl (by decide) rfl rfl ?_
          refine z_iload (pc' := 78) 2 dX9_nextOf_76 rfl rfl ?_
          refine z_istore_n (pc' := 79) [(3, .int (zi q13)), (2, .int (zi v8)), (7, .int (zi q18)), (6, .int (zi q13)), (0, .ref a_t), (1, .ref a_p0), (4, .int (zi v7)), (5, .int (zi v8))] dX9_nextOf_78 rfl (by decide) rfl rfl ?_
          refine z_iload (pc' := 81) 2 dX9_nextOf_79 rfl rfl ?_
          refine z_istore (pc' := 83) [(4, .int (zi q18)), (3, .int (zi q13)), (2, .int (zi v8)), (7, .int (zi q18)), (6, .int (zi q13)), (0, .ref a_t), (1, .ref a_p0), (5, .int (zi v8))] dX9_nextOf_81 (by decide) rfl rfl ?_
          refine z_iinc (pc' := 86) [(5, .int (zi (v8 + (1 : Int)))), (4, .int (zi q18)), (3, .int (zi q13)), (2, .int (zi v8)), (7, .int (zi q18)), (6, .int (zi q13)), (0, .ref a_t), (1, .ref a_p0)] 7 dX9_nextOf_83 rfl (by decide) rfl rfl ?_
          refine z_goto (tgt := 11) dX9_nextOf_86 (by decide) ?_
          refine z_perm [(a_t, .inr (8, [.int (zi c_t_refusal), .int (zi c_t_high), .int (zi c_t_wide), .ref a_t_now, .ref a_t_trial, .ref a_t_diary, .int (zi c_t_acts), .int (zi c_t_next), .ref a_t_kept, .ref a_t_isKept, .ref a_t_script, .int (zi c_t_scriptSize), .int (zi c_t_spot), .ref a_t_read, .int (zi c_t_readHigh), .int (zi c_t_readWide), .ref a_t_wanted, .ref a_t_level, .ref a_t_chosen, .ref a_t_best])), (a_p0, zI J n_p0 f_p0)] [(0, .ref a_t), (1, .ref a_p0), (2, .int (zi v8)), (3, .int (zi q13)), (4, .int (zi q18)), (5, .int (zi (v8 + (1 : Int))))] [0, 1] [6, 7, 3, 2, 1, 0] rfl rfl rfl ?_
          exact ih _ _ _ _ hsh
        · replace hsh := zif_f q hsh
          refine z_iload (pc' := 57) 1 dX9_nextOf_55 rfl rfl ?_
          refine z_if_le (pc' := 60) (tgt := 83) dX9_nextOf_57 (by decide) g15 rfl (fun q => ?_) (fun q => ?_)
          · replace hsh := zif_f q hsh
            refine z_iinc (pc' := 86) [(5, .int (zi (v8 + (1 : Int)))), (7, .int (zi q18)), (6, .int (zi q13)), (0, .ref a_t), (1, .ref a_p0), (2, .int (zi v5)), (3, .int (zi v6)), (4, .int (zi v7))] 7 dX9_nextOf_83 rfl (by decide) rfl rfl ?_
            refine z_goto (tgt := 11) dX9_nextOf_86 (by decide) ?_
            refine z_perm [(a_t, .inr (8, [.int (zi c_t_refusal), .int (zi c_t_high), .int (zi c_t_wide), .ref a_t_now, .ref a_t_trial, .ref a_t_diary, .int (zi c_t_acts), .int (zi c_t_next), .ref a_t_kept, .ref a_t_isKept, .ref a_t_script, .int (zi c_t_scriptSize), .int (zi c_t_spot), .ref a_t_read, .int (zi c_t_readHigh), .int (zi c_t_readWide), .ref a_t_wanted, .ref a_t_level, .ref a_t_chosen, .ref a_t_best])), (a_p0, zI J n_p0 f_p0)] [(0, .ref a_t), (1, .ref a_p0), (2, .int (zi v5)), (3, .int (zi v6)), (4, .int (zi v7)), (5, .int (zi (v8 + (1 : Int))))] [0, 1] [3, 4, 5, 6, 7, 0] rfl rfl rfl ?_
            exact ih _ _ _ _ hsh
          · replace hsh := zif_t q hsh
            refine z_iload (pc' := 62) 1 dX9_nextOf_60 rfl rfl ?_
            refine z_iload_n (pc' := 63) 5 dX9_nextOf_62 rfl rfl rfl ?_
            refine z_icmp_ne (pc' := 66) (tgt := 83) dX9_nextOf_63 (by decide) g15 g20 rfl (fun q => ?_) (fun q => ?_)
            · replace hsh := zif_f q hsh
              refine z_iinc (pc' := 86) [(5, .int (zi (v8 + (1 : Int)))), (7, .int (zi q18)), (6, .int (zi q13)), (0, .ref a_t), (1, .ref a_p0), (2, .int (zi v5)), (3, .int (zi v6)), (4, .int (zi v7))] 7 dX9_nextOf_83 rfl (by decide) rfl rfl ?_
              refine z_goto (tgt := 11) dX9_nextOf_86 (by decide) ?_
              refine z_perm [(a_t, .inr (8, [.int (zi c_t_refusal), .int (zi c_t_high), .int (zi c_t_wide), .ref a_t_now, .ref a_t_trial, .ref a_t_diary, .int (zi c_t_acts), .int (zi c_t_next), .ref a_t_kept, .ref a_t_isKept, .ref a_t_script, .int (zi c_t_scriptSize), .int (zi c_t_spot), .ref a_t_read, .int (zi c_t_readHigh), .int (zi c_t_readWide), .ref a_t_wanted, .ref a_t_level, .ref a_t_chosen, .ref a_t_best])), (a_p0, zI J n_p0 f_p0)] [(0, .ref a_t), (1, .ref a_p0), (2, .int (zi v5)), (3, .int (zi v6)), (4, .int (zi v7)), (5, .int (zi (v8 + (1 : Int))))] [0, 1] [3, 4, 5, 6, 7, 0] rfl rfl rfl ?_
              exact ih _ _ _ _ hsh
            · replace hsh := zif_t q hsh
              refine z_iload (pc' := 68) 0 dX9_nextOf_66 rfl rfl ?_
              refine z_iload (pc' := 70) 6 dX9_nextOf_68 rfl rfl ?_
              have g21 := zkr_p hsh
              replace hsh := zkr_k hsh
              have g22 := zkr_p hsh
              replace hsh := zkr_k hsh
              refine z_icmp_le (pc' := 73) (tgt := 83) dX9_nextOf_70 (by decide) g21 g22 rfl (fun q => ?_) (fun q => ?_)
              · replace hsh := zif_f q hsh
                refine z_iinc (pc' := 86) [(5, .int (zi (v8 + (1 : Int)))), (7, .int (zi q18)), (6, .int (zi q13)), (0, .ref a_t), (1, .ref a_p0), (2, .int (zi v5)), (3, .int (zi v6)), (4, .int (zi v7))] 7 dX9_nextOf_83 rfl (by decide) rfl rfl ?_
                refine z_goto (tgt := 11) dX9_nextOf_86 (by decide) ?_
                refine z_perm [(a_t, .inr (8, [.int (zi c_t_refusal), .int (zi c_t_high), .int (zi c_t_wide), .ref a_t_now, .ref a_t_trial, .ref a_t_diary, .int (zi c_t_acts), .int (zi c_t_next), .ref a_t_kept, .ref a_t_isKept, .ref a_t_script, .int (zi c_t_scriptSize), .int (zi c_t_spot), .ref a_t_read, .int (zi c_t_readHigh), .int (zi c_t_readWide), .ref a_t_wanted, .ref a_t_level, .ref a_t_chosen, .ref a_t_best])), (a_p0, zI J n_p0 f_p0)] [(0, .ref a_t), (1, .ref a_p0), (2, .int (zi v5)), (3, .int (zi v6)), (4, .int (zi v7)), (5, .int (zi (v8 + (1 : Int))))] [0, 1] [3, 4, 5, 6, 7, 0] rfl rfl rfl ?_
                exact ih _ _ _ _ hsh
              · replace hsh := zif_t q hsh
                refine z_iload (pc' := 75) 7 dX9_nextOf_73 rfl rfl ?_
                refine z_istore_n (pc' := 76) [(2, .int (zi v8)), (7, .int (zi q18)), (6, .int (zi q13)), (0, .ref a_t), (1, .ref a_p0), (3, .int (zi v6)), (4, .int (zi v7)), (5, .int (zi v8))] dX9_nextOf_75 rfl (by decide) rfl rfl ?_
                refine z_iload (pc' := 78) 2 dX9_nextOf_76 rfl rfl ?_
                refine z_istore_n (pc' := 79) [(3, .int (zi q13)), (2, .int (zi v8)), (7, .int (zi q18)), (6, .int (zi q13)), (0, .ref a_t), (1, .ref a_p0), (4, .int (zi v7)), (5, .int (zi v8))] dX9_nextOf_78 rfl (by decide) rfl rfl ?_
                refine z_iload (pc' := 81) 2 dX9_nextOf_79 rfl rfl ?_
                refine z_istore (pc' := 83) [(4, .int (zi q18)), (3, .int (zi q13)), (2, .int (zi v8)), (7, .int (zi q18)), (6, .int (zi q13)), (0, .ref a_t), (1, .ref a_p0), (5, .int (zi v8))] dX9_nextOf_81 (by decide) rfl rfl ?_
                refine z_iinc (pc' := 86) [(5, .int (zi (v8 + (1 : Int)))), (4, .int (zi q18)), (3, .int (zi q13)), (2, .int (zi v8)), (7, .int (zi q18)), (6, .int (zi q13)), (0, .ref a_t), (1, .ref a_p0)] 7 dX9_nextOf_83 rfl (by decide) rfl rfl ?_
                refine z_goto (tgt := 11) dX9_nextOf_86 (by decide) ?_
                refine z_perm [(a_t, .inr (8, [.int (zi c_t_refusal), .int (zi c_t_high), .int (zi c_t_wide), .ref a_t_now, .ref a_t_trial, .ref a_t_diary, .int (zi c_t_acts), .int (zi c_t_next), .ref a_t_kept, .ref a_t_isKept, .ref a_t_script, .int (zi c_t_scriptSize), .int (zi c_t_spot), .ref a_t_read, .int (zi c_t_readHigh), .int (zi c_t_readWide), .ref a_t_wanted, .ref a_t_level, .ref a_t_chosen, .ref a_t_best])), (a_p0, zI J n_p0 f_p0)] [(0, .ref a_t), (1, .ref a_p0), (2, .int (zi v8)), (3, .int (zi q13)), (4, .int (zi q18)), (5, .int (zi (v8 + (1 : Int))))] [0, 1] [6, 7, 3, 2, 1, 0] rfl rfl rfl ?_
                exact ih _ _ _ _ hsh
set_option maxRecDepth 100000 in
set_option maxHeartbeats 4000000 in
theorem zc_X9_nextOf (l : Launch) (D : va_G) (J : Nat → ClassId) (F : Nat) (a_t : Nat) (a_p0 : Nat) (a_t_now : Nat) (a_t_trial : Nat) (a_t_diary : Nat) (a_t_kept : Nat) (a_t_isKept : Nat) (a_t_script : Nat) (a_t_read : Nat) (a_t_wanted : Nat) (a_t_level : Nat) (a_t_chosen : Nat) (a_t_best : Nat) (c_t_refusal : Int) (c_t_high : Int) (c_t_wide : Int) (c_t_acts : Int) (c_t_next : Int) (c_t_scriptSize : Int) (c_t_spot : Int) (c_t_readHigh : Int) (c_t_readWide : Int) (f_p0 : Nat → Int) (n_p0 : Nat) (hn_p0 : n_p0 ≤ 2147483647) (res : Int) (hsh : sh_X9_nextOf F c_t_high c_t_wide f_p0 n_p0 = some res) : ZM l D J yX9_nextOf wsX9_nextOf ({ frames := 3, cells := 0, slots := 0, locals := 75 } : Room) 0 0 [.ref a_t, .ref a_p0] [(a_t, .inr (8, [.int (zi c_t_refusal), .int (zi c_t_high), .int (zi c_t_wide), .ref a_t_now, .ref a_t_trial, .ref a_t_diary, .int (zi c_t_acts), .int (zi c_t_next), .ref a_t_kept, .ref a_t_isKept, .ref a_t_script, .int (zi c_t_scriptSize), .int (zi c_t_spot), .ref a_t_read, .int (zi c_t_readHigh), .int (zi c_t_readWide), .ref a_t_wanted, .ref a_t_level, .ref a_t_chosen, .ref a_t_best])), (a_p0, zI J n_p0 f_p0)] (fun rv w9 => rv = some (.int (zi res)) ∧ w9 = [(a_t, .inr (8, [.int (zi c_t_refusal), .int (zi c_t_high), .int (zi c_t_wide), .ref a_t_now, .ref a_t_trial, .ref a_t_diary, .int (zi c_t_acts), .int (zi c_t_next), .ref a_t_kept, .ref a_t_isKept, .ref a_t_script, .int (zi c_t_scriptSize), .int (zi c_t_spot), .ref a_t_read, .int (zi c_t_readHigh), .int (zi c_t_readWide), .ref a_t_wanted, .ref a_t_level, .ref a_t_chosen, .ref a_t_best])), (a_p0, zI J n_p0 f_p0)]) := by
  refine z_ofZ (cc := cX9_nextOf) (maxL := 8) (ret := (some .int)) 0 0 (by decide) rfl (Nat.le_of_ble_eq_true rfl) [(0, .ref a_t), (1, .ref a_p0)] rfl ?_
  intro p e s m args below meth c A
  unfold sh_X9_nextOf at hsh
  refine z_bipush (pc' := 2) dX9_nextOf_0 (by decide) rfl ?_
  refine z_istore_n (pc' := 3) [(2, .int (zi (-9 : Int))), (0, .ref a_t), (1, .ref a_p0)] dX9_nextOf_2 rfl (by decide) rfl rfl ?_
  refine z_iconst (pc' := 4) dX9_nextOf_3 rfl ?_
  refine z_istore_n (pc' := 5) [(3, .int (zi (0 : Int))), (2, .int (zi (-9 : Int))), (0, .ref a_t), (1, .ref a_p0)] dX9_nextOf_4 rfl (by decide) rfl rfl ?_
  refine z_iconst (pc' := 6) dX9_nextOf_5 rfl ?_
  refine z_istore (pc' := 8) [(4, .int (zi (0 : Int))), (3, .int (zi (0 : Int))), (2, .int (zi (-9 : Int))), (0, .ref a_t), (1, .ref a_p0)] dX9_nextOf_6 (by decide) rfl rfl ?_
  refine z_iconst (pc' := 9) dX9_nextOf_8 rfl ?_
  refine z_istore (pc' := 11) [(5, .int (zi (0 : Int))), (4, .int (zi (0 : Int))), (3, .int (zi (0 : Int))), (2, .int (zi (-9 : Int))), (0, .ref a_t), (1, .ref a_p0)] dX9_nextOf_9 (by decide) rfl rfl ?_
  refine z_perm [(a_t, .inr (8, [.int (zi c_t_refusal), .int (zi c_t_high), .int (zi c_t_wide), .ref a_t_now, .ref a_t_trial, .ref a_t_diary, .int (zi c_t_acts), .int (zi c_t_next), .ref a_t_kept, .ref a_t_isKept, .ref a_t_script, .int (zi c_t_scriptSize), .int (zi c_t_spot), .ref a_t_read, .int (zi c_t_readHigh), .int (zi c_t_readWide), .ref a_t_wanted, .ref a_t_level, .ref a_t_chosen, .ref a_t_best])), (a_p0, zI J n_p0 f_p0)] [(0, .ref a_t), (1, .ref a_p0), (2, .int (zi (-9 : Int))), (3, .int (zi (0 : Int))), (4, .int (zi (0 : Int))), (5, .int (zi (0 : Int)))] [0, 1] [4, 5, 3, 2, 1, 0] rfl rfl rfl ?_
  refine zl_X9_nextOf_L11 (F := F) (hn_p0 := hn_p0) (hk := fun v23 v24 v25 v26 hsh => ?_) _ _ _ _ _ hsh
  refine z_iload_n (pc' := 90) 0 dX9_nextOf_89 rfl rfl rfl ?_
  cases hsh
  exact z_iret rfl dX9_nextOf_90 ⟨rfl, rfl⟩
def sh_X9_goByOrder_L9 (F : Nat) (n_p0 : Nat) (p1 : Int) (c_t_high : Int) (c_t_wide : Int) (k : Int → Int → (Nat → Int) → Option (Int × (Nat → Int))) : Nat → Int → Int → (Nat → Int) → Option (Int × (Nat → Int))
  | 0, _, _, _ => none
  | N + 1, v8, v9, v10 => zkr v8 (zkr p1 (if v8 < p1 then zkr v9 (if v9 = (-9 : Int) then k v8 v9 v10 else (sh_X9_take F v10 n_p0 (0 : Int) v9).bind (fun (q14 : Int × (Nat → Int)) => (sh_X9_nextOf F c_t_high c_t_wide q14.2 n_p0).bind (fun (q16 : Int) => sh_X9_goByOrder_L9 F n_p0 p1 c_t_high c_t_wide k N (v8 + (1 : Int)) q16 q14.2))) else k v8 v9 v10))
def sh_X9_goByOrder (F : Nat) (c_t_high : Int) (c_t_wide : Int) (f_p0 : Nat → Int) (n_p0 : Nat) (p1 : Int) : Option (Int × (Nat → Int)) := (sh_X9_nextOf F c_t_high c_t_wide f_p0 n_p0).bind (fun (q1 : Int) => sh_X9_goByOrder_L9 F n_p0 p1 c_t_high c_t_wide (fun (v18 : Int) (v19 : Int) (v20 : (Nat → Int)) => some (v18, v20)) F (0 : Int) q1 f_p0)
set_option maxRecDepth 100000 in
set_option maxHeartbeats 4000000 in
theorem zl_X9_goByOrder_L9 {p : Program} {l : Launch} {e : Env} {s : State} {m : MethodId} {args : Array Value} {below : List Frame} {meth : Method} {c : Code} {A : Nat → Prop} {D : va_G} {J : Nat → ClassId} {F : Nat} {n_p0 : Nat} {p1 : Int} {c_t_high : Int} {c_t_wide : Int} {a_t : Nat} {c_t_refusal : Int} {a_t_now : Nat} {a_t_trial : Nat} {a_t_diary : Nat} {c_t_acts : Int} {c_t_next : Int} {a_t_kept : Nat} {a_t_isKept : Nat} {a_t_script : Nat} {c_t_scriptSize : Int} {c_t_spot : Int} {a_t_read : Nat} {c_t_readHigh : Int} {c_t_readWide : Int} {a_t_wanted : Nat} {a_t_level : Nat} {a_t_chosen : Nat} {a_t_best : Nat} {a_p0 : Nat} {res : Int × (Nat → Int)} (hn_p0 : n_p0 ≤ 2147483647) {k : Int → Int → (Nat → Int) → Option (Int × (Nat → Int))} (hk : ∀ (v8' : Int) (v9' : Int) (v10' : (Nat → Int)), k v8' v9' v10' = some res → Z p l e ({ frames := 4, cells := 0, slots := 0, locals := 102 } : Room) s m args below meth c (MQ below (zQ D J A (fun rv w9 => rv = some (.int (zi res.1)) ∧ w9 = [(a_t, .inr (8, [.int (zi c_t_refusal), .int (zi c_t_high), .int (zi c_t_wide), .ref a_t_now, .ref a_t_trial, .ref a_t_diary, .int (zi c_t_acts), .int (zi c_t_next), .ref a_t_kept, .ref a_t_isKept, .ref a_t_script, .int (zi c_t_scriptSize), .int (zi c_t_spot), .ref a_t_read, .int (zi c_t_readHigh), .int (zi c_t_readWide), .ref a_t_wanted, .ref a_t_level, .ref a_t_chosen, .ref a_t_best])), (a_p0, zI J n_p0 res.2)])) args s 0 0 A) cX9_goByOrder 5 wsX9_goByOrder RX9 D J A (some .int) (yX9_goByOrder.name, []) 0 0 [(a_t, .inr (8, [.int (zi c_t_refusal), .int (zi c_t_high), .int (zi c_t_wide), .ref a_t_now, .ref a_t_trial, .ref a_t_diary, .int (zi c_t_acts), .int (zi c_t_next), .ref a_t_kept, .ref a_t_isKept, .ref a_t_script, .int (zi c_t_scriptSize), .int (zi c_t_spot), .ref a_t_read, .int (zi c_t_readHigh), .int (zi c_t_readWide), .ref a_t_wanted, .ref a_t_level, .ref a_t_chosen, .ref a_t_best])), (a_p0, zI J n_p0 v10')] [(3, .int (zi v8'))] 42 []) : ∀ (N : Nat) (v8 : Int) (v9 : Int) (v10 : (Nat → Int)), sh_X9_goByOrder_L9 F n_p0 p1 c_t_high c_t_wide k N v8 v9 v10 = some res → Z p l e ({ frames := 4, cells := 0, slots := 0, locals := 102 } : Room) s m args below meth c (MQ below (zQ D J A (fun rv w9 => rv = some (.int (zi res.1)) ∧ w9 = [(a_t, .inr (8, [.int (zi c_t_refusal), .int (zi c_t_high), .int (zi c_t_wide), .ref a_t_now, .ref a_t_trial, .ref a_t_diary, .int (zi c_t_acts), .int (zi c_t_next), .ref a_t_kept, .ref a_t_isKept, .ref a_t_script, .int (zi c_t_scriptSize), .int (zi c_t_spot), .ref a_t_read, .int (zi c_t_readHigh), .int (zi c_t_readWide), .ref a_t_wanted, .ref a_t_level, .ref a_t_chosen, .ref a_t_best])), (a_p0, zI J n_p0 res.2)])) args s 0 0 A) cX9_goByOrder 5 wsX9_goByOrder RX9 D J A (some .int) (yX9_goByOrder.name, []) 0 0 [(a_t, .inr (8, [.int (zi c_t_refusal), .int (zi c_t_high), .int (zi c_t_wide), .ref a_t_now, .ref a_t_trial, .ref a_t_diary, .int (zi c_t_acts), .int (zi c_t_next), .ref a_t_kept, .ref a_t_isKept, .ref a_t_script, .int (zi c_t_scriptSize), .int (zi c_t_spot), .ref a_t_read, .int (zi c_t_readHigh), .int (zi c_t_readWide), .ref a_t_wanted, .ref a_t_level, .ref a_t_chosen, .ref a_t_best])), (a_p0, zI J n_p0 v10)] [(0, .ref a_t), (1, .ref a_p0), (2, .int (zi p1)), (3, .int (zi v8)), (4, .int (zi v9))] 9 [] := by
  intro N
  induction N with
  | zero =>
    intro v8 v9 v10 hsh
    exact absurd hsh (by simp [sh_X9_goByOrder_L9])
  | succ N ih =>
    intro v8 v9 v10 hsh
    rw [sh_X9_goByOrder_L9] at hsh
    refine z_iload_n (pc' := 10) 3 dX9_goByOrder_9 rfl rfl rfl ?_
    refine z_iload_n (pc' := 11) 2 dX9_goByOrder_10 rfl rfl rfl ?_
    have g11 := zkr_p hsh
    replace hsh := zkr_k hsh
    have g12 := zkr_p hsh
    replace hsh := zkr_k hsh
    refine z_icmp_ge (pc' := 14) (tgt := 42) dX9_goByOrder_11 (by decide) g11 g12 rfl (fun q => ?_) (fun q => ?_)
    · replace hsh := zif_f q hsh
      refine z_perm [(a_t, .inr (8, [.int (zi c_t_refusal), .int (zi c_t_high), .int (zi c_t_wide), .ref a_t_now, .ref a_t_trial, .ref a_t_diary, .int (zi c_t_acts), .int (zi c_t_next), .ref a_t_kept, .ref a_t_isKept, .ref a_t_script, .int (zi c_t_scriptSize), .int (zi c_t_spot), .ref a_t_read, .int (zi c_t_readHigh), .int (zi c_t_readWide), .ref a_t_wanted, .ref a_t_level, .ref a_t_chosen, .ref a_t_best])), (a_p0, zI J n_p0 v10)] [(3, .int (zi v8))] [0, 1] [3] rfl rfl rfl ?_
      exact hk _ _ _ hsh
    · replace hsh := zif_t q hsh
      refine z_iload (pc' := 16) 4 dX9_goByOrder_14 rfl rfl ?_
      refine z_bipush (pc' := 18) dX9_goByOrder_16 (by decide) rfl ?_
      have g13 := zkr_p hsh
      replace hsh := zkr_k hsh
      refine z_icmp_eq (pc' := 21) (tgt := 42) dX9_goByOrder_18 (by decide) g13 (by decide) rfl (fun q => ?_) (fun q => ?_)
      · replace hsh := zif_t q hsh
        refine z_perm [(a_t, .inr (8, [.int (zi c_t_refusal), .int (zi c_t_high), .int (zi c_t_wide), .ref a_t_now, .ref a_t_trial, .ref a_t_diary, .int (zi c_t_acts), .int (zi c_t_next), .ref a_t_kept, .ref a_t_isKept, .ref a_t_script, .int (zi c_t_scriptSize), .int (zi c_t_spot), .ref a_t_read, .int (zi c_t_readHigh), .int (zi c_t_readWide), .ref a_t_wanted, .ref a_t_level, .ref a_t_chosen, .ref a_t_best])), (a_p0, zI J n_p0 v10)] [(3, .int (zi v8))] [0, 1] [3] rfl rfl rfl ?_
        exact hk _ _ _ hsh
      · replace hsh := zif_f q hsh
        refine z_aload_n (pc' := 22) 1 dX9_goByOrder_21 rfl rfl rfl ?_
        refine z_iconst (pc' := 23) dX9_goByOrder_22 rfl ?_
        refine z_iload (pc' := 25) 4 dX9_goByOrder_23 rfl rfl ?_
        obtain ⟨q14, h15, hsh⟩ := zbind hsh
        refine z_callS (pc' := 28) (As := [.ref a_p0, .int (zi (0 : Int)), .int (zi v9)]) (rest := []) (wr := [(a_t, .inr (8, [.int (zi c_t_refusal), .int (zi c_t_high), .int (zi c_t_wide), .ref a_t_now, .ref a_t_trial, .ref a_t_diary, .int (zi c_t_acts), .int (zi c_t_next), .ref a_t_kept, .ref a_t_isKept, .ref a_t_script, .int (zi c_t_scriptSize), .int (zi c_t_spot), .ref a_t_read, .int (zi c_t_readHigh), .int (zi c_t_readWide), .ref a_t_wanted, .ref a_t_level, .ref a_t_chosen, .ref a_t_best]))]) 3 (zc_X9_take l D J F (a_p0 := a_p0) (f_p0 := v10) (n_p0 := n_p0) (p1 := (0 : Int)) (p2 := v9) (hn_p0 := hn_p0) q14 h15) dX9_goByOrder_25 gX9_goByOrder_X9_take rfl rfl rfl (by decide +kernel) ⟨Nat.le_of_ble_eq_true rfl, Nat.le_of_ble_eq_true rfl⟩ ⟨Nat.le_of_ble_eq_true rfl, Nat.le_of_ble_eq_true rfl⟩ (z_spl_of [1, 0] rfl rfl) rfl rfl (Nat.le_of_ble_eq_true rfl) rfl (fun rv w9 hq => ?_)
        obtain ⟨rfl, rfl⟩ := hq
        refine z_ws [(a_t, .inr (8, [.int (zi c_t_refusal), .int (zi c_t_high), .int (zi c_t_wide), .ref a_t_now, .ref a_t_trial, .ref a_t_diary, .int (zi c_t_acts), .int (zi c_t_next), .ref a_t_kept, .ref a_t_isKept, .ref a_t_script, .int (zi c_t_scriptSize), .int (zi c_t_spot), .ref a_t_read, .int (zi c_t_readHigh), .int (zi c_t_readWide), .ref a_t_wanted, .ref a_t_level, .ref a_t_chosen, .ref a_t_best])), (a_p0, zI J n_p0 q14.2)] rfl ?_
        refine z_pop (pc' := 29) dX9_goByOrder_28 rfl rfl ?_
        refine z_iinc (pc' := 32) [(3, .int (zi (v8 + (1 : Int)))), (0, .ref a_t), (1, .ref a_p0), (2, .int (zi p1)), (4, .int (zi v9))] 3 dX9_goByOrder_29 rfl (by decide) rfl rfl ?_
        refine z_aload_n (pc' := 33) 1 dX9_goByOrder_32 rfl rfl rfl ?_
        refine z_aload_n (pc' := 34) 2 dX9_goByOrder_33 rfl rfl rfl ?_
        obtain ⟨q16, h17, hsh⟩ := zbind hsh
        refine z_callV (pc' := 37) (C := RX9) (As := [.ref a_p0]) (rest := []) (wr := []) 1 (zc_X9_nextOf l D J F (a_t := a_t) (a_p0 := a_p0) (a_t_now := a_t_now) (a_t_trial := a_t_trial) (a_t_diary := a_t_diary) (a_t_kept := a_t_kept) (a_t_isKept := a_t_isKept) (a_t_script := a_t_script) (a_t_read := a_t_read) (a_t_wanted := a_t_wanted) (a_t_level := a_t_level) (a_t_chosen := a_t_chosen) (a_t_best := a_t_best) (c_t_refusal := c_t_refusal) (c_t_high := c_t_high) (c_t_wide := c_t_wide) (c_t_acts := c_t_acts) (c_t_next := c_t_next) (c_t_scriptSize := c_t_scriptSize) (c_t_spot := c_t_spot) (c_t_readHigh := c_t_readHigh) (c_t_readWide := c_t_readWide) (f_p0 := q14.2) (n_p0 := n_p0) (hn_p0 := hn_p0) q16 h17) dX9_goByOrder_34 gX9_goByOrder_X9_nextOf rfl rfl rfl (by decide +kernel) ⟨Nat.le_of_ble_eq_true rfl, Nat.le_of_ble_eq_true rfl⟩ ⟨Nat.le_of_ble_eq_true rfl, Nat.le_of_ble_eq_true rfl⟩ (z_spl_of [0, 1] rfl rfl) rfl rfl rfl rfl (Nat.le_of_ble_eq_true rfl) rfl (fun rv w9 hq => ?_)
        obtain ⟨rfl, rfl⟩ := hq
        refine z_ws [(a_t, .inr (8, [.int (zi c_t_refusal), .int (zi c_t_high), .int (zi c_t_wide), .ref a_t_now, .ref a_t_trial, .ref a_t_diary, .int (zi c_t_acts), .int (zi c_t_next), .ref a_t_kept, .ref a_t_isKept, .ref a_t_script, .int (zi c_t_scriptSize), .int (zi c_t_spot), .ref a_t_read, .int (zi c_t_readHigh), .int (zi c_t_readWide), .ref a_t_wanted, .ref a_t_level, .ref a_t_chosen, .ref a_t_best])), (a_p0, zI J n_p0 q14.2)] rfl ?_
        refine z_istore (pc' := 39) [(4, .int (zi q16)), (3, .int (zi (v8 + (1 : Int)))), (0, .ref a_t), (1, .ref a_p0), (2, .int (zi p1))] dX9_goByOrder_37 (by decide) rfl rfl ?_
        refine z_goto (tgt := 9) dX9_goByOrder_39 (by decide) ?_
        refine z_perm [(a_t, .inr (8, [.int (zi c_t_refusal), .int (zi c_t_high), .int (zi c_t_wide), .ref a_t_now, .ref a_t_trial, .ref a_t_diary, .int (zi c_t_acts), .int (zi c_t_next), .ref a_t_kept, .ref a_t_isKept, .ref a_t_script, .int (zi c_t_scriptSize), .int (zi c_t_spot), .ref a_t_read, .int (zi c_t_readHigh), .int (zi c_t_readWide), .ref a_t_wanted, .ref a_t_level, .ref a_t_chosen, .ref a_t_best])), (a_p0, zI J n_p0 q14.2)] [(0, .ref a_t), (1, .ref a_p0), (2, .int (zi p1)), (3, .int (zi (v8 + (1 : Int)))), (4, .int (zi q16))] [0, 1] [2, 3, 4, 1, 0] rfl rfl rfl ?_
        exact ih _ _ _ hsh
set_option maxRecDepth 100000 in
set_option maxHeartbeats 4000000 in
theorem zc_X9_goByOrder (l : Launch) (D : va_G) (J : Nat → ClassId) (F : Nat) (a_t : Nat) (a_p0 : Nat) (a_t_now : Nat) (a_t_trial : Nat) (a_t_diary : Nat) (a_t_kept : Nat) (a_t_isKept : Nat) (a_t_script : Nat) (a_t_read : Nat) (a_t_wanted : Nat) (a_t_level : Nat) (a_t_chosen : Nat) (a_t_best : Nat) (c_t_refusal : Int) (c_t_high : Int) (c_t_wide : Int) (c_t_acts : Int) (c_t_next : Int) (c_t_scriptSize : Int) (c_t_spot : Int) (c_t_readHigh : Int) (c_t_readWide : Int) (f_p0 : Nat → Int) (n_p0 : Nat) (p1 : Int) (hn_p0 : n_p0 ≤ 2147483647) (res : Int × (Nat → Int)) (hsh : sh_X9_goByOrder F c_t_high c_t_wide f_p0 n_p0 p1 = some res) : ZM l D J yX9_goByOrder wsX9_goByOrder ({ frames := 4, cells := 0, slots := 0, locals := 102 } : Room) 0 0 [.ref a_t, .ref a_p0, .int (zi p1)] [(a_t, .inr (8, [.int (zi c_t_refusal), .int (zi c_t_high), .int (zi c_t_wide), .ref a_t_now, .ref a_t_trial, .ref a_t_diary, .int (zi c_t_acts), .int (zi c_t_next), .ref a_t_kept, .ref a_t_isKept, .ref a_t_script, .int (zi c_t_scriptSize), .int (zi c_t_spot), .ref a_t_read, .int (zi c_t_readHigh), .int (zi c_t_readWide), .ref a_t_wanted, .ref a_t_level, .ref a_t_chosen, .ref a_t_best])), (a_p0, zI J n_p0 f_p0)] (fun rv w9 => rv = some (.int (zi res.1)) ∧ w9 = [(a_t, .inr (8, [.int (zi c_t_refusal), .int (zi c_t_high), .int (zi c_t_wide), .ref a_t_now, .ref a_t_trial, .ref a_t_diary, .int (zi c_t_acts), .int (zi c_t_next), .ref a_t_kept, .ref a_t_isKept, .ref a_t_script, .int (zi c_t_scriptSize), .int (zi c_t_spot), .ref a_t_read, .int (zi c_t_readHigh), .int (zi c_t_readWide), .ref a_t_wanted, .ref a_t_level, .ref a_t_chosen, .ref a_t_best])), (a_p0, zI J n_p0 res.2)]) := by
  refine z_ofZ (cc := cX9_goByOrder) (maxL := 5) (ret := (some .int)) 0 0 (by decide) rfl (Nat.le_of_ble_eq_true rfl) [(0, .ref a_t), (1, .ref a_p0), (2, .int (zi p1))] rfl ?_
  intro p e s m args below meth c A
  unfold sh_X9_goByOrder at hsh
  refine z_iconst (pc' := 1) dX9_goByOrder_0 rfl ?_
  refine z_istore_n (pc' := 2) [(3, .int (zi (0 : Int))), (0, .ref a_t), (1, .ref a_p0), (2, .int (zi p1))] dX9_goByOrder_1 rfl (by decide) rfl rfl ?_
  refine z_aload_n (pc' := 3) 1 dX9_goByOrder_2 rfl rfl rfl ?_
  refine z_aload_n (pc' := 4) 2 dX9_goByOrder_3 rfl rfl rfl ?_
  obtain ⟨q1, h2, hsh⟩ := zbind hsh
  refine z_callV (pc' := 7) (C := RX9) (As := [.ref a_p0]) (rest := []) (wr := []) 1 (zc_X9_nextOf l D J F (a_t := a_t) (a_p0 := a_p0) (a_t_now := a_t_now) (a_t_trial := a_t_trial) (a_t_diary := a_t_diary) (a_t_kept := a_t_kept) (a_t_isKept := a_t_isKept) (a_t_script := a_t_script) (a_t_read := a_t_read) (a_t_wanted := a_t_wanted) (a_t_level := a_t_level) (a_t_chosen := a_t_chosen) (a_t_best := a_t_best) (c_t_refusal := c_t_refusal) (c_t_high := c_t_high) (c_t_wide := c_t_wide) (c_t_acts := c_t_acts) (c_t_next := c_t_next) (c_t_scriptSize := c_t_scriptSize) (c_t_spot := c_t_spot) (c_t_readHigh := c_t_readHigh) (c_t_readWide := c_t_readWide) (f_p0 := f_p0) (n_p0 := n_p0) (hn_p0 := hn_p0) q1 h2) dX9_goByOrder_4 gX9_goByOrder_X9_nextOf rfl rfl rfl (by decide +kernel) ⟨Nat.le_of_ble_eq_true rfl, Nat.le_of_ble_eq_true rfl⟩ ⟨Nat.le_of_ble_eq_true rfl, Nat.le_of_ble_eq_true rfl⟩ (z_spl_of [0, 1] rfl rfl) rfl rfl rfl rfl (Nat.le_of_ble_eq_true rfl) rfl (fun rv w9 hq => ?_)
  obtain ⟨rfl, rfl⟩ := hq
  refine z_ws [(a_t, .inr (8, [.int (zi c_t_refusal), .int (zi c_t_high), .int (zi c_t_wide), .ref a_t_now, .ref a_t_trial, .ref a_t_diary, .int (zi c_t_acts), .int (zi c_t_next), .ref a_t_kept, .ref a_t_isKept, .ref a_t_script, .int (zi c_t_scriptSize), .int (zi c_t_spot), .ref a_t_read, .int (zi c_t_readHigh), .int (zi c_t_readWide), .ref a_t_wanted, .ref a_t_level, .ref a_t_chosen, .ref a_t_best])), (a_p0, zI J n_p0 f_p0)] rfl ?_
  refine z_istore (pc' := 9) [(4, .int (zi q1)), (3, .int (zi (0 : Int))), (0, .ref a_t), (1, .ref a_p0), (2, .int (zi p1))] dX9_goByOrder_7 (by decide) rfl rfl ?_
  refine z_perm [(a_t, .inr (8, [.int (zi c_t_refusal), .int (zi c_t_high), .int (zi c_t_wide), .ref a_t_now, .ref a_t_trial, .ref a_t_diary, .int (zi c_t_acts), .int (zi c_t_next), .ref a_t_kept, .ref a_t_isKept, .ref a_t_script, .int (zi c_t_scriptSize), .int (zi c_t_spot), .ref a_t_read, .int (zi c_t_readHigh), .int (zi c_t_readWide), .ref a_t_wanted, .ref a_t_level, .ref a_t_chosen, .ref a_t_best])), (a_p0, zI J n_p0 f_p0)] [(0, .ref a_t), (1, .ref a_p0), (2, .int (zi p1)), (3, .int (zi (0 : Int))), (4, .int (zi q1))] [0, 1] [2, 3, 4, 1, 0] rfl rfl rfl ?_
  refine zl_X9_goByOrder_L9 (F := F) (hn_p0 := hn_p0) (hk := fun v18 v19 v20 hsh => ?_) _ _ _ _ hsh
  refine z_iload_n (pc' := 43) 0 dX9_goByOrder_42 rfl rfl rfl ?_
  cases hsh
  exact z_iret rfl dX9_goByOrder_43 ⟨rfl, rfl⟩
def sh_X9_drawByOrder (F : Nat) (c_t_high : Int) (c_t_wide : Int) (c_t_acts : Int) (c_t_next : Int) (f_t_now : Nat → Int) (f_t_diary : Nat → Int) (p0 : Int) : Option (Int × Int × Int × Int × (Nat → Int) × (Nat → Int)) := zkr p0 ((sh_X9_in F p0 (1 : Int) (99 : Int)).bind (fun (q2 : Int) => zkr q2 (if q2 = (0 : Int) then (sh_X9_refused F (1 : Int)).bind (fun (q5 : Int × Int) => zkr q5.1 (if q5.1 = (0 : Int) then (sh_X9_note F c_t_acts c_t_next f_t_now f_t_diary).bind (fun (q8 : Int × Int × (Nat → Int)) => (sh_X9_goByOrder F c_t_high c_t_wide f_t_now 243 p0).bind (fun (q10 : Int × (Nat → Int)) => some (q10.1, q5.2, q8.1, q8.2.1, q10.2, q8.2.2))) else some ((0 : Int), q5.2, c_t_acts, c_t_next, f_t_now, f_t_diary))) else (sh_X9_refused F (0 : Int)).bind (fun (q12 : Int × Int) => zkr q12.1 (if q12.1 = (0 : Int) then (sh_X9_note F c_t_acts c_t_next f_t_now f_t_diary).bind (fun (q15 : Int × Int × (Nat → Int)) => (sh_X9_goByOrder F c_t_high c_t_wide f_t_now 243 p0).bind (fun (q17 : Int × (Nat → Int)) => some (q17.1, q12.2, q15.1, q15.2.1, q17.2, q15.2.2))) else some ((0 : Int), q12.2, c_t_acts, c_t_next, f_t_now, f_t_diary))))))
theorem mX9_drawByOrder_k128 : Cond.constantLong RX9 128 (99) ∈ wsX9_drawByOrder := List.mem_of_getElem? (i := 1) rfl
theorem mX9_drawByOrder_f16 : Cond.fieldLink RX9 16 (TX9 3).1 (TX9 3).2.1 (TX9 3).2.2.1 ∈ wsX9_drawByOrder := List.mem_of_getElem? (i := 2) rfl
theorem iX9_drawByOrder_X9 : ∀ w ∈ wsX90, w ∈ wsX9_drawByOrder := fun _ h => (List.mem_cons_of_mem _ (List.mem_append_right _ h))
set_option maxRecDepth 100000 in
set_option maxHeartbeats 4000000 in
theorem zc_X9_drawByOrder (l : Launch) (D : va_G) (J : Nat → ClassId) (F : Nat) (a_t : Nat) (a_t_now : Nat) (a_t_trial : Nat) (a_t_diary : Nat) (a_t_kept : Nat) (a_t_isKept : Nat) (a_t_script : Nat) (a_t_read : Nat) (a_t_wanted : Nat) (a_t_level : Nat) (a_t_chosen : Nat) (a_t_best : Nat) (c_t_refusal : Int) (c_t_high : Int) (c_t_wide : Int) (c_t_acts : Int) (c_t_next : Int) (c_t_scriptSize : Int) (c_t_spot : Int) (c_t_readHigh : Int) (c_t_readWide : Int) (f_t_now : Nat → Int) (f_t_diary : Nat → Int) (p0 : Int) (res : Int × Int × Int × Int × (Nat → Int) × (Nat → Int)) (hsh : sh_X9_drawByOrder F c_t_high c_t_wide c_t_acts c_t_next f_t_now f_t_diary p0 = some res) : ZM l D J yX9_drawByOrder wsX9_drawByOrder ({ frames := 5, cells := 0, slots := 0, locals := 126 } : Room) 0 0 [.ref a_t, .int (zi p0)] [(a_t, .inr (8, [.int (zi c_t_refusal), .int (zi c_t_high), .int (zi c_t_wide), .ref a_t_now, .ref a_t_trial, .ref a_t_diary, .int (zi c_t_acts), .int (zi c_t_next), .ref a_t_kept, .ref a_t_isKept, .ref a_t_script, .int (zi c_t_scriptSize), .int (zi c_t_spot), .ref a_t_read, .int (zi c_t_readHigh), .int (zi c_t_readWide), .ref a_t_wanted, .ref a_t_level, .ref a_t_chosen, .ref a_t_best])), (a_t_now, zI J 243 f_t_now), (a_t_diary, zI J 3402 f_t_diary)] (fun rv w9 => rv = some (.int (zi res.1)) ∧ w9 = [(a_t, .inr (8, [.int (zi res.2.1), .int (zi c_t_high), .int (zi c_t_wide), .ref a_t_now, .ref a_t_trial, .ref a_t_diary, .int (zi res.2.2.1), .int (zi res.2.2.2.1), .ref a_t_kept, .ref a_t_isKept, .ref a_t_script, .int (zi c_t_scriptSize), .int (zi c_t_spot), .ref a_t_read, .int (zi c_t_readHigh), .int (zi c_t_readWide), .ref a_t_wanted, .ref a_t_level, .ref a_t_chosen, .ref a_t_best])), (a_t_now, zI J 243 res.2.2.2.2.1), (a_t_diary, zI J 3402 res.2.2.2.2.2)]) := by
  refine z_ofZ (cc := cX9_drawByOrder) (maxL := 2) (ret := (some .int)) 0 0 (by decide) rfl (Nat.le_of_ble_eq_true rfl) [(0, .ref a_t), (1, .int (zi p0))] rfl ?_
  intro p e s m args below meth c A
  unfold sh_X9_drawByOrder at hsh
  refine z_aload_n (pc' := 1) 0 dX9_drawByOrder_0 rfl rfl rfl ?_
  refine z_iload_n (pc' := 2) 1 dX9_drawByOrder_1 rfl rfl rfl ?_
  have g1 := zkr_p hsh
  replace hsh := zkr_k hsh
  refine z_i2l (pc' := 3) dX9_drawByOrder_2 g1 rfl ?_
  refine z_lconst (pc' := 4) 1 dX9_drawByOrder_3 (by decide) rfl ?_
  refine z_ldc2 (pc' := 7) (99 : Int) dX9_drawByOrder_4 mX9_drawByOrder_k128 (by decide) rfl ?_
  obtain ⟨q2, h3, hsh⟩ := zbind hsh
  refine z_callS (pc' := 10) (As := [.long (zl p0), .long (zl (1 : Int)), .long (zl (99 : Int))]) (rest := [.ref a_t]) (wr := [(a_t, .inr (8, [.int (zi c_t_refusal), .int (zi c_t_high), .int (zi c_t_wide), .ref a_t_now, .ref a_t_trial, .ref a_t_diary, .int (zi c_t_acts), .int (zi c_t_next), .ref a_t_kept, .ref a_t_isKept, .ref a_t_script, .int (zi c_t_scriptSize), .int (zi c_t_spot), .ref a_t_read, .int (zi c_t_readHigh), .int (zi c_t_readWide), .ref a_t_wanted, .ref a_t_level, .ref a_t_chosen, .ref a_t_best])), (a_t_now, zI J 243 f_t_now), (a_t_diary, zI J 3402 f_t_diary)]) 3 (zc_X9_in l D J F (p0 := p0) (p1 := (1 : Int)) (p2 := (99 : Int))  q2 h3) dX9_drawByOrder_7 gX9_drawByOrder_X9_in rfl rfl rfl (by decide +kernel) ⟨Nat.le_of_ble_eq_true rfl, Nat.le_of_ble_eq_true rfl⟩ ⟨Nat.le_of_ble_eq_true rfl, Nat.le_of_ble_eq_true rfl⟩ (z_spl_of [0, 1, 2] rfl rfl) rfl rfl (Nat.le_of_ble_eq_true rfl) rfl (fun rv w9 hq => ?_)
  obtain ⟨rfl, rfl⟩ := hq
  refine z_ws [(a_t, .inr (8, [.int (zi c_t_refusal), .int (zi c_t_high), .int (zi c_t_wide), .ref a_t_now, .ref a_t_trial, .ref a_t_diary, .int (zi c_t_acts), .int (zi c_t_next), .ref a_t_kept, .ref a_t_isKept, .ref a_t_script, .int (zi c_t_scriptSize), .int (zi c_t_spot), .ref a_t_read, .int (zi c_t_readHigh), .int (zi c_t_readWide), .ref a_t_wanted, .ref a_t_level, .ref a_t_chosen, .ref a_t_best])), (a_t_now, zI J 243 f_t_now), (a_t_diary, zI J 3402 f_t_diary)] rfl ?_
  have g4 := zkr_p hsh
  replace hsh := zkr_k hsh
  refine z_if_eq (pc' := 13) (tgt := 17) dX9_drawByOrder_10 (by decide) g4 rfl (fun q => ?_) (fun q => ?_)
  · replace hsh := zif_t q hsh
    refine z_iconst (pc' := 18) dX9_drawByOrder_17 rfl ?_
    obtain ⟨q5, h6, hsh⟩ := zbind hsh
    refine z_callV (pc' := 21) (C := RX9) (As := [.int (zi (1 : Int))]) (rest := []) (wr := [(a_t_now, zI J 243 f_t_now), (a_t_diary, zI J 3402 f_t_diary)]) 1 (zc_X9_refused l D J F (a_t := a_t) (a_t_now := a_t_now) (a_t_trial := a_t_trial) (a_t_diary := a_t_diary) (a_t_kept := a_t_kept) (a_t_isKept := a_t_isKept) (a_t_script := a_t_script) (a_t_read := a_t_read) (a_t_wanted := a_t_wanted) (a_t_level := a_t_level) (a_t_chosen := a_t_chosen) (a_t_best := a_t_best) (c_t_refusal := c_t_refusal) (c_t_high := c_t_high) (c_t_wide := c_t_wide) (c_t_acts := c_t_acts) (c_t_next := c_t_next) (c_t_scriptSize := c_t_scriptSize) (c_t_spot := c_t_spot) (c_t_readHigh := c_t_readHigh) (c_t_readWide := c_t_readWide) (p0 := (1 : Int))  q5 h6) dX9_drawByOrder_18 gX9_drawByOrder_X9_refused rfl rfl rfl (by decide +kernel) ⟨Nat.le_of_ble_eq_true rfl, Nat.le_of_ble_eq_true rfl⟩ ⟨Nat.le_of_ble_eq_true rfl, Nat.le_of_ble_eq_true rfl⟩ (z_spl_of [0, 1, 2] rfl rfl) rfl rfl rfl rfl (Nat.le_of_ble_eq_true rfl) rfl (fun rv w9 hq => ?_)
    obtain ⟨rfl, rfl⟩ := hq
    refine z_ws [(a_t_now, zI J 243 f_t_now), (a_t_diary, zI J 3402 f_t_diary), (a_t, .inr (8, [.int (zi q5.2), .int (zi c_t_high), .int (zi c_t_wide), .ref a_t_now, .ref a_t_trial, .ref a_t_diary, .int (zi c_t_acts), .int (zi c_t_next), .ref a_t_kept, .ref a_t_isKept, .ref a_t_script, .int (zi c_t_scriptSize), .int (zi c_t_spot), .ref a_t_read, .int (zi c_t_readHigh), .int (zi c_t_readWide), .ref a_t_wanted, .ref a_t_level, .ref a_t_chosen, .ref a_t_best]))] rfl ?_
    have g7 := zkr_p hsh
    replace hsh := zkr_k hsh
    refine z_if_eq (pc' := 24) (tgt := 26) dX9_drawByOrder_21 (by decide) g7 rfl (fun q => ?_) (fun q => ?_)
    · replace hsh := zif_t q hsh
      refine z_aload_n (pc' := 27) 0 dX9_drawByOrder_26 rfl rfl rfl ?_
      obtain ⟨q8, h9, hsh⟩ := zbind hsh
      refine z_callV (pc' := 30) (C := RX9) (As := []) (rest := []) (wr := []) 0 (zc_X9_note l D J F (a_t := a_t) (a_t_now := a_t_now) (a_t_trial := a_t_trial) (a_t_diary := a_t_diary) (a_t_kept := a_t_kept) (a_t_isKept := a_t_isKept) (a_t_script := a_t_script) (a_t_read := a_t_read) (a_t_wanted := a_t_wanted) (a_t_level := a_t_level) (a_t_chosen := a_t_chosen) (a_t_best := a_t_best) (c_t_refusal := q5.2) (c_t_high := c_t_high) (c_t_wide := c_t_wide) (c_t_acts := c_t_acts) (c_t_next := c_t_next) (c_t_scriptSize := c_t_scriptSize) (c_t_spot := c_t_spot) (c_t_readHigh := c_t_readHigh) (c_t_readWide := c_t_readWide) (f_t_now := f_t_now) (f_t_diary := f_t_diary)  q8 h9) dX9_drawByOrder_27 gX9_drawByOrder_X9_note rfl rfl rfl (by decide +kernel) ⟨Nat.le_of_ble_eq_true rfl, Nat.le_of_ble_eq_true rfl⟩ ⟨Nat.le_of_ble_eq_true rfl, Nat.le_of_ble_eq_true rfl⟩ (z_spl_of [2, 0, 1] rfl rfl) rfl rfl rfl rfl (Nat.le_of_ble_eq_true rfl) rfl (fun rv w9 hq => ?_)
      obtain ⟨rfl, rfl⟩ := hq
      refine z_ws [(a_t, .inr (8, [.int (zi q5.2), .int (zi c_t_high), .int (zi c_t_wide), .ref a_t_now, .ref a_t_trial, .ref a_t_diary, .int (zi q8.1), .int (zi q8.2.1), .ref a_t_kept, .ref a_t_isKept, .ref a_t_script, .int (zi c_t_scriptSize), .int (zi c_t_spot), .ref a_t_read, .int (zi c_t_readHigh), .int (zi c_t_readWide), .ref a_t_wanted, .ref a_t_level, .ref a_t_chosen, .ref a_t_best])), (a_t_now, zI J 243 f_t_now), (a_t_diary, zI J 3402 q8.2.2)] rfl ?_
      refine z_aload_n (pc' := 31) 0 dX9_drawByOrder_30 rfl rfl rfl ?_
      refine z_aload_n (pc' := 32) 0 dX9_drawByOrder_31 rfl rfl rfl ?_
      refine z_getfield (pc' := 35) (C := RX9) (T := TX9) (N := 20) 0 3 dX9_drawByOrder_32 iX9_drawByOrder_X9 rfl rfl (by decide) mX9_drawByOrder_f16 rfl rfl ?_
      refine z_iload_n (pc' := 36) 1 dX9_drawByOrder_35 rfl rfl rfl ?_
      obtain ⟨q10, h11, hsh⟩ := zbind hsh
      refine z_callV (pc' := 39) (C := RX9) (As := [.ref a_t_now, .int (zi p0)]) (rest := []) (wr := [(a_t_diary, zI J 3402 q8.2.2)]) 2 (zc_X9_goByOrder l D J F (a_t := a_t) (a_p0 := a_t_now) (a_t_now := a_t_now) (a_t_trial := a_t_trial) (a_t_diary := a_t_diary) (a_t_kept := a_t_kept) (a_t_isKept := a_t_isKept) (a_t_script := a_t_script) (a_t_read := a_t_read) (a_t_wanted := a_t_wanted) (a_t_level := a_t_level) (a_t_chosen := a_t_chosen) (a_t_best := a_t_best) (c_t_refusal := q5.2) (c_t_high := c_t_high) (c_t_wide := c_t_wide) (c_t_acts := q8.1) (c_t_next := q8.2.1) (c_t_scriptSize := c_t_scriptSize) (c_t_spot := c_t_spot) (c_t_readHigh := c_t_readHigh) (c_t_readWide := c_t_readWide) (f_p0 := f_t_now) (n_p0 := 243) (p1 := p0) (hn_p0 := (by decide)) q10 h11) dX9_drawByOrder_36 gX9_drawByOrder_X9_goByOrder rfl rfl rfl (by decide +kernel) ⟨Nat.le_of_ble_eq_true rfl, Nat.le_of_ble_eq_true rfl⟩ ⟨Nat.le_of_ble_eq_true rfl, Nat.le_of_ble_eq_true rfl⟩ (z_spl_of [0, 1, 2] rfl rfl) rfl rfl rfl rfl (Nat.le_of_ble_eq_true rfl) rfl (fun rv w9 hq => ?_)
      obtain ⟨rfl, rfl⟩ := hq
      refine z_ws [(a_t_diary, zI J 3402 q8.2.2), (a_t, .inr (8, [.int (zi q5.2), .int (zi c_t_high), .int (zi c_t_wide), .ref a_t_now, .ref a_t_trial, .ref a_t_diary, .int (zi q8.1), .int (zi q8.2.1), .ref a_t_kept, .ref a_t_isKept, .ref a_t_script, .int (zi c_t_scriptSize), .int (zi c_t_spot), .ref a_t_read, .int (zi c_t_readHigh), .int (zi c_t_readWide), .ref a_t_wanted, .ref a_t_level, .ref a_t_chosen, .ref a_t_best])), (a_t_now, zI J 243 q10.2)] rfl ?_
      refine z_perm [(a_t, .inr (8, [.int (zi q5.2), .int (zi c_t_high), .int (zi c_t_wide), .ref a_t_now, .ref a_t_trial, .ref a_t_diary, .int (zi q8.1), .int (zi q8.2.1), .ref a_t_kept, .ref a_t_isKept, .ref a_t_script, .int (zi c_t_scriptSize), .int (zi c_t_spot), .ref a_t_read, .int (zi c_t_readHigh), .int (zi c_t_readWide), .ref a_t_wanted, .ref a_t_level, .ref a_t_chosen, .ref a_t_best])), (a_t_now, zI J 243 q10.2), (a_t_diary, zI J 3402 q8.2.2)] [(0, .ref a_t), (1, .int (zi p0))] [1, 2, 0] [0, 1] rfl rfl rfl ?_
      cases hsh
      exact z_iret rfl dX9_drawByOrder_39 ⟨rfl, rfl⟩
    · replace hsh := zif_f q hsh
      refine z_iconst (pc' := 25) dX9_drawByOrder_24 rfl ?_
      refine z_perm [(a_t, .inr (8, [.int (zi q5.2), .int (zi c_t_high), .int (zi c_t_wide), .ref a_t_now, .ref a_t_trial, .ref a_t_diary, .int (zi c_t_acts), .int (zi c_t_next), .ref a_t_kept, .ref a_t_isKept, .ref a_t_script, .int (zi c_t_scriptSize), .int (zi c_t_spot), .ref a_t_read, .int (zi c_t_readHigh), .int (zi c_t_readWide), .ref a_t_wanted, .ref a_t_level, .ref a_t_chosen, .ref a_t_best])), (a_t_now, zI J 243 f_t_now), (a_t_diary, zI J 3402 f_t_diary)] [(0, .ref a_t), (1, .int (zi p0))] [2, 0, 1] [0, 1] rfl rfl rfl ?_
      cases hsh
      exact z_iret rfl dX9_drawByOrder_25 ⟨rfl, rfl⟩
  · replace hsh := zif_f q hsh
    refine z_iconst (pc' := 14) dX9_drawByOrder_13 rfl ?_
    refine z_goto (tgt := 18) dX9_drawByOrder_14 (by decide) ?_
    obtain ⟨q12, h13, hsh⟩ := zbind hsh
    refine z_callV (pc' := 21) (C := RX9) (As := [.int (zi (0 : Int))]) (rest := []) (wr := [(a_t_now, zI J 243 f_t_now), (a_t_diary, zI J 3402 f_t_diary)]) 1 (zc_X9_refused l D J F (a_t := a_t) (a_t_now := a_t_now) (a_t_trial := a_t_trial) (a_t_diary := a_t_diary) (a_t_kept := a_t_kept) (a_t_isKept := a_t_isKept) (a_t_script := a_t_script) (a_t_read := a_t_read) (a_t_wanted := a_t_wanted) (a_t_level := a_t_level) (a_t_chosen := a_t_chosen) (a_t_best := a_t_best) (c_t_refusal := c_t_refusal) (c_t_high := c_t_high) (c_t_wide := c_t_wide) (c_t_acts := c_t_acts) (c_t_next := c_t_next) (c_t_scriptSize := c_t_scriptSize) (c_t_spot := c_t_spot) (c_t_readHigh := c_t_readHigh) (c_t_readWide := c_t_readWide) (p0 := (0 : Int))  q12 h13) dX9_drawByOrder_18 gX9_drawByOrder_X9_refused rfl rfl rfl (by decide +kernel) ⟨Nat.le_of_ble_eq_true rfl, Nat.le_of_ble_eq_true rfl⟩ ⟨Nat.le_of_ble_eq_true rfl, Nat.le_of_ble_eq_true rfl⟩ (z_spl_of [0, 1, 2] rfl rfl) rfl rfl rfl rfl (Nat.le_of_ble_eq_true rfl) rfl (fun rv w9 hq => ?_)
    obtain ⟨rfl, rfl⟩ := hq
    refine z_ws [(a_t_now, zI J 243 f_t_now), (a_t_diary, zI J 3402 f_t_diary), (a_t, .inr (8, [.int (zi q12.2), .int (zi c_t_high), .int (zi c_t_wide), .ref a_t_now, .ref a_t_trial, .ref a_t_diary, .int (zi c_t_acts), .int (zi c_t_next), .ref a_t_kept, .ref a_t_isKept, .ref a_t_script, .int (zi c_t_scriptSize), .int (zi c_t_spot), .ref a_t_read, .int (zi c_t_readHigh), .int (zi c_t_readWide), .ref a_t_wanted, .ref a_t_level, .ref a_t_chosen, .ref a_t_best]))] rfl ?_
    have g14 := zkr_p hsh
    replace hsh := zkr_k hsh
    refine z_if_eq (pc' := 24) (tgt := 26) dX9_drawByOrder_21 (by decide) g14 rfl (fun q => ?_) (fun q => ?_)
    · replace hsh := zif_t q hsh
      refine z_aload_n (pc' := 27) 0 dX9_drawByOrder_26 rfl rfl rfl ?_
      obtain ⟨q15, h16, hsh⟩ := zbind hsh
      refine z_callV (pc' := 30) (C := RX9) (As := []) (rest := []) (wr := []) 0 (zc_X9_note l D J F (a_t := a_t) (a_t_now := a_t_now) (a_t_trial := a_t_trial) (a_t_diary := a_t_diary) (a_t_kept := a_t_kept) (a_t_isKept := a_t_isKept) (a_t_script := a_t_script) (a_t_read := a_t_read) (a_t_wanted := a_t_wanted) (a_t_level := a_t_level) (a_t_chosen := a_t_chosen) (a_t_best := a_t_best) (c_t_refusal := q12.2) (c_t_high := c_t_high) (c_t_wide := c_t_wide) (c_t_acts := c_t_acts) (c_t_next := c_t_next) (c_t_scriptSize := c_t_scriptSize) (c_t_spot := c_t_spot) (c_t_readHigh := c_t_readHigh) (c_t_readWide := c_t_readWide) (f_t_now := f_t_now) (f_t_diary := f_t_diary)  q15 h16) dX9_drawByOrder_27 gX9_drawByOrder_X9_note rfl rfl rfl (by decide +kernel) ⟨Nat.le_of_ble_eq_true rfl, Nat.le_of_ble_eq_true rfl⟩ ⟨Nat.le_of_ble_eq_true rfl, Nat.le_of_ble_eq_true rfl⟩ (z_spl_of [2, 0, 1] rfl rfl) rfl rfl rfl rfl (Nat.le_of_ble_eq_true rfl) rfl (fun rv w9 hq => ?_)
      obtain ⟨rfl, rfl⟩ := hq
      refine z_ws [(a_t, .inr (8, [.int (zi q12.2), .int (zi c_t_high), .int (zi c_t_wide), .ref a_t_now, .ref a_t_trial, .ref a_t_diary, .int (zi q15.1), .int (zi q15.2.1), .ref a_t_kept, .ref a_t_isKept, .ref a_t_script, .int (zi c_t_scriptSize), .int (zi c_t_spot), .ref a_t_read, .int (zi c_t_readHigh), .int (zi c_t_readWide), .ref a_t_wanted, .ref a_t_level, .ref a_t_chosen, .ref a_t_best])), (a_t_now, zI J 243 f_t_now), (a_t_diary, zI J 3402 q15.2.2)] rfl ?_
      refine z_aload_n (pc' := 31) 0 dX9_drawByOrder_30 rfl rfl rfl ?_
      refine z_aload_n (pc' := 32) 0 dX9_drawByOrder_31 rfl rfl rfl ?_
      refine z_getfield (pc' := 35) (C := RX9) (T := TX9) (N := 20) 0 3 dX9_drawByOrder_32 iX9_drawByOrder_X9 rfl rfl (by decide) mX9_drawByOrder_f16 rfl rfl ?_
      refine z_iload_n (pc' := 36) 1 dX9_drawByOrder_35 rfl rfl rfl ?_
      obtain ⟨q17, h18, hsh⟩ := zbind hsh
      refine z_callV (pc' := 39) (C := RX9) (As := [.ref a_t_now, .int (zi p0)]) (rest := []) (wr := [(a_t_diary, zI J 3402 q15.2.2)]) 2 (zc_X9_goByOrder l D J F (a_t := a_t) (a_p0 := a_t_now) (a_t_now := a_t_now) (a_t_trial := a_t_trial) (a_t_diary := a_t_diary) (a_t_kept := a_t_kept) (a_t_isKept := a_t_isKept) (a_t_script := a_t_script) (a_t_read := a_t_read) (a_t_wanted := a_t_wanted) (a_t_level := a_t_level) (a_t_chosen := a_t_chosen) (a_t_best := a_t_best) (c_t_refusal := q12.2) (c_t_high := c_t_high) (c_t_wide := c_t_wide) (c_t_acts := q15.1) (c_t_next := q15.2.1) (c_t_scriptSize := c_t_scriptSize) (c_t_spot := c_t_spot) (c_t_readHigh := c_t_readHigh) (c_t_readWide := c_t_readWide) (f_p0 := f_t_now) (n_p0 := 243) (p1 := p0) (hn_p0 := (by decide)) q17 h18) dX9_drawByOrder_36 gX9_drawByOrder_X9_goByOrder rfl rfl rfl (by decide +kernel) ⟨Nat.le_of_ble_eq_true rfl, Nat.le_of_ble_eq_true rfl⟩ ⟨Nat.le_of_ble_eq_true rfl, Nat.le_of_ble_eq_true rfl⟩ (z_spl_of [0, 1, 2] rfl rfl) rfl rfl rfl rfl (Nat.le_of_ble_eq_true rfl) rfl (fun rv w9 hq => ?_)
      obtain ⟨rfl, rfl⟩ := hq
      refine z_ws [(a_t_diary, zI J 3402 q15.2.2), (a_t, .inr (8, [.int (zi q12.2), .int (zi c_t_high), .int (zi c_t_wide), .ref a_t_now, .ref a_t_trial, .ref a_t_diary, .int (zi q15.1), .int (zi q15.2.1), .ref a_t_kept, .ref a_t_isKept, .ref a_t_script, .int (zi c_t_scriptSize), .int (zi c_t_spot), .ref a_t_read, .int (zi c_t_readHigh), .int (zi c_t_readWide), .ref a_t_wanted, .ref a_t_level, .ref a_t_chosen, .ref a_t_best])), (a_t_now, zI J 243 q17.2)] rfl ?_
      refine z_perm [(a_t, .inr (8, [.int (zi q12.2), .int (zi c_t_high), .int (zi c_t_wide), .ref a_t_now, .ref a_t_trial, .ref a_t_diary, .int (zi q15.1), .int (zi q15.2.1), .ref a_t_kept, .ref a_t_isKept, .ref a_t_script, .int (zi c_t_scriptSize), .int (zi c_t_spot), .ref a_t_read, .int (zi c_t_readHigh), .int (zi c_t_readWide), .ref a_t_wanted, .ref a_t_level, .ref a_t_chosen, .ref a_t_best])), (a_t_now, zI J 243 q17.2), (a_t_diary, zI J 3402 q15.2.2)] [(0, .ref a_t), (1, .int (zi p0))] [1, 2, 0] [0, 1] rfl rfl rfl ?_
      cases hsh
      exact z_iret rfl dX9_drawByOrder_39 ⟨rfl, rfl⟩
    · replace hsh := zif_f q hsh
      refine z_iconst (pc' := 25) dX9_drawByOrder_24 rfl ?_
      refine z_perm [(a_t, .inr (8, [.int (zi q12.2), .int (zi c_t_high), .int (zi c_t_wide), .ref a_t_now, .ref a_t_trial, .ref a_t_diary, .int (zi c_t_acts), .int (zi c_t_next), .ref a_t_kept, .ref a_t_isKept, .ref a_t_script, .int (zi c_t_scriptSize), .int (zi c_t_spot), .ref a_t_read, .int (zi c_t_readHigh), .int (zi c_t_readWide), .ref a_t_wanted, .ref a_t_level, .ref a_t_chosen, .ref a_t_best])), (a_t_now, zI J 243 f_t_now), (a_t_diary, zI J 3402 f_t_diary)] [(0, .ref a_t), (1, .int (zi p0))] [2, 0, 1] [0, 1] rfl rfl rfl ?_
      cases hsh
      exact z_iret rfl dX9_drawByOrder_25 ⟨rfl, rfl⟩
def sh_X9_hungOf_L4 (F : Nat) (n_p0 : Nat) (c_t_high : Int) (c_t_wide : Int) (f_p0 : Nat → Int) (k : Int → Int → Option (Int)) : Nat → Int → Int → Option (Int)
  | 0, _, _ => none
  | N + 1, v3, v4 => (sh_X9_points F c_t_high c_t_wide).bind (fun (q5 : Int) => zkr v4 (zkr q5 (if v4 < q5 then zkx (((15 : Int) * v4) + (1 : Int)) n_p0 (sh_X9_hungOf_L4 F n_p0 c_t_high c_t_wide f_p0 k N (v3 + (f_p0 ((((15 : Int) * v4) + (1 : Int))).toNat)) (v4 + (1 : Int))) else k v3 v4)))
def sh_X9_hungOf (F : Nat) (c_t_high : Int) (c_t_wide : Int) (f_p0 : Nat → Int) (n_p0 : Nat) : Option (Int) := sh_X9_hungOf_L4 F n_p0 c_t_high c_t_wide f_p0 (fun (v10 : Int) (v11 : Int) => some (v10)) F (0 : Int) (0 : Int)
set_option maxRecDepth 100000 in
set_option maxHeartbeats 4000000 in
theorem zl_X9_hungOf_L4 {p : Program} {l : Launch} {e : Env} {s : State} {m : MethodId} {args : Array Value} {below : List Frame} {meth : Method} {c : Code} {A : Nat → Prop} {D : va_G} {J : Nat → ClassId} {F : Nat} {n_p0 : Nat} {c_t_high : Int} {c_t_wide : Int} {f_p0 : Nat → Int} {a_t : Nat} {c_t_refusal : Int} {a_t_now : Nat} {a_t_trial : Nat} {a_t_diary : Nat} {c_t_acts : Int} {c_t_next : Int} {a_t_kept : Nat} {a_t_isKept : Nat} {a_t_script : Nat} {c_t_scriptSize : Int} {c_t_spot : Int} {a_t_read : Nat} {c_t_readHigh : Int} {c_t_readWide : Int} {a_t_wanted : Nat} {a_t_level : Nat} {a_t_chosen : Nat} {a_t_best : Nat} {a_p0 : Nat} {res : Int} (hn_p0 : n_p0 ≤ 2147483647) {k : Int → Int → Option (Int)} (hk : ∀ (v3' : Int) (v4' : Int), k v3' v4' = some res → Z p l e ({ frames := 1, cells := 0, slots := 0, locals := 20 } : Room) s m args below meth c (MQ below (zQ D J A (fun rv w9 => rv = some (.int (zi res)) ∧ w9 = [(a_t, .inr (8, [.int (zi c_t_refusal), .int (zi c_t_high), .int (zi c_t_wide), .ref a_t_now, .ref a_t_trial, .ref a_t_diary, .int (zi c_t_acts), .int (zi c_t_next), .ref a_t_kept, .ref a_t_isKept, .ref a_t_script, .int (zi c_t_scriptSize), .int (zi c_t_spot), .ref a_t_read, .int (zi c_t_readHigh), .int (zi c_t_readWide), .ref a_t_wanted, .ref a_t_level, .ref a_t_chosen, .ref a_t_best])), (a_p0, zI J n_p0 f_p0)])) args s 0 0 A) cX9_hungOf 4 wsX9_hungOf RX9 D J A (some .int) (yX9_hungOf.name, []) 0 0 [(a_t, .inr (8, [.int (zi c_t_refusal), .int (zi c_t_high), .int (zi c_t_wide), .ref a_t_now, .ref a_t_trial, .ref a_t_diary, .int (zi c_t_acts), .int (zi c_t_next), .ref a_t_kept, .ref a_t_isKept, .ref a_t_script, .int (zi c_t_scriptSize), .int (zi c_t_spot), .ref a_t_read, .int (zi c_t_readHigh), .int (zi c_t_readWide), .ref a_t_wanted, .ref a_t_level, .ref a_t_chosen, .ref a_t_best])), (a_p0, zI J n_p0 f_p0)] [(2, .int (zi v3'))] 29 []) : ∀ (N : Nat) (v3 : Int) (v4 : Int), sh_X9_hungOf_L4 F n_p0 c_t_high c_t_wide f_p0 k N v3 v4 = some res → Z p l e ({ frames := 1, cells := 0, slots := 0, locals := 20 } : Room) s m args below meth c (MQ below (zQ D J A (fun rv w9 => rv = some (.int (zi res)) ∧ w9 = [(a_t, .inr (8, [.int (zi c_t_refusal), .int (zi c_t_high), .int (zi c_t_wide), .ref a_t_now, .ref a_t_trial, .ref a_t_diary, .int (zi c_t_acts), .int (zi c_t_next), .ref a_t_kept, .ref a_t_isKept, .ref a_t_script, .int (zi c_t_scriptSize), .int (zi c_t_spot), .ref a_t_read, .int (zi c_t_readHigh), .int (zi c_t_readWide), .ref a_t_wanted, .ref a_t_level, .ref a_t_chosen, .ref a_t_best])), (a_p0, zI J n_p0 f_p0)])) args s 0 0 A) cX9_hungOf 4 wsX9_hungOf RX9 D J A (some .int) (yX9_hungOf.name, []) 0 0 [(a_t, .inr (8, [.int (zi c_t_refusal), .int (zi c_t_high), .int (zi c_t_wide), .ref a_t_now, .ref a_t_trial, .ref a_t_diary, .int (zi c_t_acts), .int (zi c_t_next), .ref a_t_kept, .ref a_t_isKept, .ref a_t_script, .int (zi c_t_scriptSize), .int (zi c_t_spot), .ref a_t_read, .int (zi c_t_readHigh), .int (zi c_t_readWide), .ref a_t_wanted, .ref a_t_level, .ref a_t_chosen, .ref a_t_best])), (a_p0, zI J n_p0 f_p0)] [(0, .ref a_t), (1, .ref a_p0), (2, .int (zi v3)), (3, .int (zi v4))] 4 [] := by
  intro N
  induction N with
  | zero =>
    intro v3 v4 hsh
    exact absurd hsh (by simp [sh_X9_hungOf_L4])
  | succ N ih =>
    intro v3 v4 hsh
    rw [sh_X9_hungOf_L4] at hsh
    refine z_iload_n (pc' := 5) 3 dX9_hungOf_4 rfl rfl rfl ?_
    refine z_aload_n (pc' := 6) 0 dX9_hungOf_5 rfl rfl rfl ?_
    obtain ⟨q5, h6, hsh⟩ := zbind hsh
    refine z_callV (pc' := 9) (C := RX9) (As := []) (rest := [.int (zi v4)]) (wr := [(a_p0, zI J n_p0 f_p0)]) 0 (zc_X9_points l D J F (a_t := a_t) (a_t_now := a_t_now) (a_t_trial := a_t_trial) (a_t_diary := a_t_diary) (a_t_kept := a_t_kept) (a_t_isKept := a_t_isKept) (a_t_script := a_t_script) (a_t_read := a_t_read) (a_t_wanted := a_t_wanted) (a_t_level := a_t_level) (a_t_chosen := a_t_chosen) (a_t_best := a_t_best) (c_t_refusal := c_t_refusal) (c_t_high := c_t_high) (c_t_wide := c_t_wide) (c_t_acts := c_t_acts) (c_t_next := c_t_next) (c_t_scriptSize := c_t_scriptSize) (c_t_spot := c_t_spot) (c_t_readHigh := c_t_readHigh) (c_t_readWide := c_t_readWide)  q5 h6) dX9_hungOf_6 gX9_hungOf_X9_points rfl rfl rfl (by decide +kernel) ⟨Nat.le_of_ble_eq_true rfl, Nat.le_of_ble_eq_true rfl⟩ ⟨Nat.le_of_ble_eq_true rfl, Nat.le_of_ble_eq_true rfl⟩ (z_spl_of [0, 1] rfl rfl) rfl rfl rfl rfl (Nat.le_of_ble_eq_true rfl) rfl (fun rv w9 hq => ?_)
    obtain ⟨rfl, rfl⟩ := hq
    refine z_ws [(a_p0, zI J n_p0 f_p0), (a_t, .inr (8, [.int (zi c_t_refusal), .int (zi c_t_high), .int (zi c_t_wide), .ref a_t_now, .ref a_t_trial, .ref a_t_diary, .int (zi c_t_acts), .int (zi c_t_next), .ref a_t_kept, .ref a_t_isKept, .ref a_t_script, .int (zi c_t_scriptSize), .int (zi c_t_spot), .ref a_t_read, .int (zi c_t_readHigh), .int (zi c_t_readWide), .ref a_t_wanted, .ref a_t_level, .ref a_t_chosen, .ref a_t_best]))] rfl ?_
    have g7 := zkr_p hsh
    replace hsh := zkr_k hsh
    have g8 := zkr_p hsh
    replace hsh := zkr_k hsh
    refine z_icmp_ge (pc' := 12) (tgt := 29) dX9_hungOf_9 (by decide) g7 g8 rfl (fun q => ?_) (fun q => ?_)
    · replace hsh := zif_f q hsh
      refine z_perm [(a_t, .inr (8, [.int (zi c_t_refusal), .int (zi c_t_high), .int (zi c_t_wide), .ref a_t_now, .ref a_t_trial, .ref a_t_diary, .int (zi c_t_acts), .int (zi c_t_next), .ref a_t_kept, .ref a_t_isKept, .ref a_t_script, .int (zi c_t_scriptSize), .int (zi c_t_spot), .ref a_t_read, .int (zi c_t_readHigh), .int (zi c_t_readWide), .ref a_t_wanted, .ref a_t_level, .ref a_t_chosen, .ref a_t_best])), (a_p0, zI J n_p0 f_p0)] [(2, .int (zi v3))] [1, 0] [2] rfl rfl rfl ?_
      exact hk _ _ hsh
    · replace hsh := zif_t q hsh
      refine z_iload_n (pc' := 13) 2 dX9_hungOf_12 rfl rfl rfl ?_
      refine z_aload_n (pc' := 14) 1 dX9_hungOf_13 rfl rfl rfl ?_
      refine z_bipush (pc' := 16) dX9_hungOf_14 (by decide) rfl ?_
      refine z_iload_n (pc' := 17) 3 dX9_hungOf_16 rfl rfl rfl ?_
      refine z_imul (pc' := 18) dX9_hungOf_17 rfl ?_
      refine z_iconst (pc' := 19) dX9_hungOf_18 rfl ?_
      refine z_iadd (pc' := 20) dX9_hungOf_19 rfl ?_
      have g9 := zkx_p hsh
      replace hsh := zkx_k hsh
      refine z_iaload (pc' := 21) 0 dX9_hungOf_20 rfl hn_p0 g9 rfl ?_
      refine z_iadd (pc' := 22) dX9_hungOf_21 rfl ?_
      refine z_istore_n (pc' := 23) [(2, .int (zi (v3 + (f_p0 ((((15 : Int) * v4) + (1 : Int))).toNat)))), (0, .ref a_t), (1, .ref a_p0), (3, .int (zi v4))] dX9_hungOf_22 rfl (by decide) rfl rfl ?_
      refine z_iinc (pc' := 26) [(3, .int (zi (v4 + (1 : Int)))), (2, .int (zi (v3 + (f_p0 ((((15 : Int) * v4) + (1 : Int))).toNat)))), (0, .ref a_t), (1, .ref a_p0)] 3 dX9_hungOf_23 rfl (by decide) rfl rfl ?_
      refine z_goto (tgt := 4) dX9_hungOf_26 (by decide) ?_
      refine z_perm [(a_t, .inr (8, [.int (zi c_t_refusal), .int (zi c_t_high), .int (zi c_t_wide), .ref a_t_now, .ref a_t_trial, .ref a_t_diary, .int (zi c_t_acts), .int (zi c_t_next), .ref a_t_kept, .ref a_t_isKept, .ref a_t_script, .int (zi c_t_scriptSize), .int (zi c_t_spot), .ref a_t_read, .int (zi c_t_readHigh), .int (zi c_t_readWide), .ref a_t_wanted, .ref a_t_level, .ref a_t_chosen, .ref a_t_best])), (a_p0, zI J n_p0 f_p0)] [(0, .ref a_t), (1, .ref a_p0), (2, .int (zi (v3 + (f_p0 ((((15 : Int) * v4) + (1 : Int))).toNat)))), (3, .int (zi (v4 + (1 : Int))))] [1, 0] [2, 3, 1, 0] rfl rfl rfl ?_
      exact ih _ _ hsh
set_option maxRecDepth 100000 in
set_option maxHeartbeats 4000000 in
theorem zc_X9_hungOf (l : Launch) (D : va_G) (J : Nat → ClassId) (F : Nat) (a_t : Nat) (a_p0 : Nat) (a_t_now : Nat) (a_t_trial : Nat) (a_t_diary : Nat) (a_t_kept : Nat) (a_t_isKept : Nat) (a_t_script : Nat) (a_t_read : Nat) (a_t_wanted : Nat) (a_t_level : Nat) (a_t_chosen : Nat) (a_t_best : Nat) (c_t_refusal : Int) (c_t_high : Int) (c_t_wide : Int) (c_t_acts : Int) (c_t_next : Int) (c_t_scriptSize : Int) (c_t_spot : Int) (c_t_readHigh : Int) (c_t_readWide : Int) (f_p0 : Nat → Int) (n_p0 : Nat) (hn_p0 : n_p0 ≤ 2147483647) (res : Int) (hsh : sh_X9_hungOf F c_t_high c_t_wide f_p0 n_p0 = some res) : ZM l D J yX9_hungOf wsX9_hungOf ({ frames := 1, cells := 0, slots := 0, locals := 20 } : Room) 0 0 [.ref a_t, .ref a_p0] [(a_t, .inr (8, [.int (zi c_t_refusal), .int (zi c_t_high), .int (zi c_t_wide), .ref a_t_now, .ref a_t_trial, .ref a_t_diary, .int (zi c_t_acts), .int (zi c_t_next), .ref a_t_kept, .ref a_t_isKept, .ref a_t_script, .int (zi c_t_scriptSize), .int (zi c_t_spot), .ref a_t_read, .int (zi c_t_readHigh), .int (zi c_t_readWide), .ref a_t_wanted, .ref a_t_level, .ref a_t_chosen, .ref a_t_best])), (a_p0, zI J n_p0 f_p0)] (fun rv w9 => rv = some (.int (zi res)) ∧ w9 = [(a_t, .inr (8, [.int (zi c_t_refusal), .int (zi c_t_high), .int (zi c_t_wide), .ref a_t_now, .ref a_t_trial, .ref a_t_diary, .int (zi c_t_acts), .int (zi c_t_next), .ref a_t_kept, .ref a_t_isKept, .ref a_t_script, .int (zi c_t_scriptSize), .int (zi c_t_spot), .ref a_t_read, .int (zi c_t_readHigh), .int (zi c_t_readWide), .ref a_t_wanted, .ref a_t_level, .ref a_t_chosen, .ref a_t_best])), (a_p0, zI J n_p0 f_p0)]) := by
  refine z_ofZ (cc := cX9_hungOf) (maxL := 4) (ret := (some .int)) 0 0 (by decide) rfl (Nat.le_of_ble_eq_true rfl) [(0, .ref a_t), (1, .ref a_p0)] rfl ?_
  intro p e s m args below meth c A
  unfold sh_X9_hungOf at hsh
  refine z_iconst (pc' := 1) dX9_hungOf_0 rfl ?_
  refine z_istore_n (pc' := 2) [(2, .int (zi (0 : Int))), (0, .ref a_t), (1, .ref a_p0)] dX9_hungOf_1 rfl (by decide) rfl rfl ?_
  refine z_iconst (pc' := 3) dX9_hungOf_2 rfl ?_
  refine z_istore_n (pc' := 4) [(3, .int (zi (0 : Int))), (2, .int (zi (0 : Int))), (0, .ref a_t), (1, .ref a_p0)] dX9_hungOf_3 rfl (by decide) rfl rfl ?_
  refine z_perm [(a_t, .inr (8, [.int (zi c_t_refusal), .int (zi c_t_high), .int (zi c_t_wide), .ref a_t_now, .ref a_t_trial, .ref a_t_diary, .int (zi c_t_acts), .int (zi c_t_next), .ref a_t_kept, .ref a_t_isKept, .ref a_t_script, .int (zi c_t_scriptSize), .int (zi c_t_spot), .ref a_t_read, .int (zi c_t_readHigh), .int (zi c_t_readWide), .ref a_t_wanted, .ref a_t_level, .ref a_t_chosen, .ref a_t_best])), (a_p0, zI J n_p0 f_p0)] [(0, .ref a_t), (1, .ref a_p0), (2, .int (zi (0 : Int))), (3, .int (zi (0 : Int)))] [0, 1] [2, 3, 1, 0] rfl rfl rfl ?_
  refine zl_X9_hungOf_L4 (F := F) (hn_p0 := hn_p0) (hk := fun v10 v11 hsh => ?_) _ _ _ hsh
  refine z_iload_n (pc' := 30) 0 dX9_hungOf_29 rfl rfl rfl ?_
  cases hsh
  exact z_iret rfl dX9_hungOf_30 ⟨rfl, rfl⟩
def sh_X9_hang (F : Nat) (c_t_high : Int) (c_t_wide : Int) (c_t_acts : Int) (c_t_next : Int) (f_t_now : Nat → Int) (f_t_diary : Nat → Int) (p0 : Int) : Option (Int × Int × Int × Int × (Nat → Int) × (Nat → Int)) := (sh_X9_isPoint F c_t_high c_t_wide p0).bind (fun (q1 : Int) => zkr q1 (if q1 = (0 : Int) then (sh_X9_refused F (1 : Int)).bind (fun (q20 : Int × Int) => zkr q20.1 (if q20.1 = (0 : Int) then (sh_X9_note F c_t_acts c_t_next f_t_now f_t_diary).bind (fun (q23 : Int × Int × (Nat → Int)) => zkx (((15 : Int) * p0) + (1 : Int)) 243 ((sh_X9_hungOf F c_t_high c_t_wide (va_up f_t_now ((((15 : Int) * p0) + (1 : Int))).toNat (1 : Int)) 243).bind (fun (q26 : Int) => some (q26, q20.2, q23.1, q23.2.1, (va_up f_t_now ((((15 : Int) * p0) + (1 : Int))).toNat (1 : Int)), q23.2.2)))) else some ((0 : Int), q20.2, c_t_acts, c_t_next, f_t_now, f_t_diary))) else zkx (((15 : Int) * p0) + (1 : Int)) 243 (zkr (f_t_now ((((15 : Int) * p0) + (1 : Int))).toNat) (if (f_t_now ((((15 : Int) * p0) + (1 : Int))).toNat) = (1 : Int) then (sh_X9_refused F (2 : Int)).bind (fun (q13 : Int × Int) => zkr q13.1 (if q13.1 = (0 : Int) then (sh_X9_note F c_t_acts c_t_next f_t_now f_t_diary).bind (fun (q16 : Int × Int × (Nat → Int)) => (sh_X9_hungOf F c_t_high c_t_wide (va_up f_t_now ((((15 : Int) * p0) + (1 : Int))).toNat (1 : Int)) 243).bind (fun (q18 : Int) => some (q18, q13.2, q16.1, q16.2.1, (va_up f_t_now ((((15 : Int) * p0) + (1 : Int))).toNat (1 : Int)), q16.2.2))) else some ((0 : Int), q13.2, c_t_acts, c_t_next, f_t_now, f_t_diary))) else (sh_X9_refused F (0 : Int)).bind (fun (q6 : Int × Int) => zkr q6.1 (if q6.1 = (0 : Int) then (sh_X9_note F c_t_acts c_t_next f_t_now f_t_diary).bind (fun (q9 : Int × Int × (Nat → Int)) => (sh_X9_hungOf F c_t_high c_t_wide (va_up f_t_now ((((15 : Int) * p0) + (1 : Int))).toNat (1 : Int)) 243).bind (fun (q11 : Int) => some (q11, q6.2, q9.1, q9.2.1, (va_up f_t_now ((((15 : Int) * p0) + (1 : Int))).toNat (1 : Int)), q9.2.2))) else some ((0 : Int), q6.2, c_t_acts, c_t_next, f_t_now, f_t_diary)))))))
theorem mX9_hang_f16 : Cond.fieldLink RX9 16 (TX9 3).1 (TX9 3).2.1 (TX9 3).2.2.1 ∈ wsX9_hang := List.mem_of_getElem? (i := 1) rfl
theorem iX9_hang_X9 : ∀ w ∈ wsX90, w ∈ wsX9_hang := fun _ h => (List.mem_cons_of_mem _ (List.mem_append_right _ h))
set_option maxRecDepth 100000 in
set_option maxHeartbeats 4000000 in
theorem zc_X9_hang (l : Launch) (D : va_G) (J : Nat → ClassId) (F : Nat) (a_t : Nat) (a_t_now : Nat) (a_t_trial : Nat) (a_t_diary : Nat) (a_t_kept : Nat) (a_t_isKept : Nat) (a_t_script : Nat) (a_t_read : Nat) (a_t_wanted : Nat) (a_t_level : Nat) (a_t_chosen : Nat) (a_t_best : Nat) (c_t_refusal : Int) (c_t_high : Int) (c_t_wide : Int) (c_t_acts : Int) (c_t_next : Int) (c_t_scriptSize : Int) (c_t_spot : Int) (c_t_readHigh : Int) (c_t_readWide : Int) (f_t_now : Nat → Int) (f_t_diary : Nat → Int) (p0 : Int) (res : Int × Int × Int × Int × (Nat → Int) × (Nat → Int)) (hsh : sh_X9_hang F c_t_high c_t_wide c_t_acts c_t_next f_t_now f_t_diary p0 = some res) : ZM l D J yX9_hang wsX9_hang ({ frames := 2, cells := 0, slots := 0, locals := 46 } : Room) 0 0 [.ref a_t, .int (zi p0)] [(a_t, .inr (8, [.int (zi c_t_refusal), .int (zi c_t_high), .int (zi c_t_wide), .ref a_t_now, .ref a_t_trial, .ref a_t_diary, .int (zi c_t_acts), .int (zi c_t_next), .ref a_t_kept, .ref a_t_isKept, .ref a_t_script, .int (zi c_t_scriptSize), .int (zi c_t_spot), .ref a_t_read, .int (zi c_t_readHigh), .int (zi c_t_readWide), .ref a_t_wanted, .ref a_t_level, .ref a_t_chosen, .ref a_t_best])), (a_t_now, zI J 243 f_t_now), (a_t_diary, zI J 3402 f_t_diary)] (fun rv w9 => rv = some (.int (zi res.1)) ∧ w9 = [(a_t, .inr (8, [.int (zi res.2.1), .int (zi c_t_high), .int (zi c_t_wide), .ref a_t_now, .ref a_t_trial, .ref a_t_diary, .int (zi res.2.2.1), .int (zi res.2.2.2.1), .ref a_t_kept, .ref a_t_isKept, .ref a_t_script, .int (zi c_t_scriptSize), .int (zi c_t_spot), .ref a_t_read, .int (zi c_t_readHigh), .int (zi c_t_readWide), .ref a_t_wanted, .ref a_t_level, .ref a_t_chosen, .ref a_t_best])), (a_t_now, zI J 243 res.2.2.2.2.1), (a_t_diary, zI J 3402 res.2.2.2.2.2)]) := by
  refine z_ofZ (cc := cX9_hang) (maxL := 2) (ret := (some .int)) 0 0 (by decide) rfl (Nat.le_of_ble_eq_true rfl) [(0, .ref a_t), (1, .int (zi p0))] rfl ?_
  intro p e s m args below meth c A
  unfold sh_X9_hang at hsh
  refine z_aload_n (pc' := 1) 0 dX9_hang_0 rfl rfl rfl ?_
  refine z_aload_n (pc' := 2) 0 dX9_hang_1 rfl rfl rfl ?_
  refine z_iload_n (pc' := 3) 1 dX9_hang_2 rfl rfl rfl ?_
  obtain ⟨q1, h2, hsh⟩ := zbind hsh
  refine z_callV (pc' := 6) (C := RX9) (As := [.int (zi p0)]) (rest := [.ref a_t]) (wr := [(a_t_now, zI J 243 f_t_now), (a_t_diary, zI J 3402 f_t_diary)]) 1 (zc_X9_isPoint l D J F (a_t := a_t) (a_t_now := a_t_now) (a_t_trial := a_t_trial) (a_t_diary := a_t_diary) (a_t_kept := a_t_kept) (a_t_isKept := a_t_isKept) (a_t_script := a_t_script) (a_t_read := a_t_read) (a_t_wanted := a_t_wanted) (a_t_level := a_t_level) (a_t_chosen := a_t_chosen) (a_t_best := a_t_best) (c_t_refusal := c_t_refusal) (c_t_high := c_t_high) (c_t_wide := c_t_wide) (c_t_acts := c_t_acts) (c_t_next := c_t_next) (c_t_scriptSize := c_t_scriptSize) (c_t_spot := c_t_spot) (c_t_readHigh := c_t_readHigh) (c_t_readWide := c_t_readWide) (p0 := p0)  q1 h2) dX9_hang_3 gX9_hang_X9_isPoint rfl rfl rfl (by decide +kernel) ⟨Nat.le_of_ble_eq_true rfl, Nat.le_of_ble_eq_true rfl⟩ ⟨Nat.le_of_ble_eq_true rfl, Nat.le_of_ble_eq_true rfl⟩ (z_spl_of [0, 1, 2] rfl rfl) rfl rfl rfl rfl (Nat.le_of_ble_eq_true rfl) rfl (fun rv w9 hq => ?_)
  obtain ⟨rfl, rfl⟩ := hq
  refine z_ws [(a_t_now, zI J 243 f_t_now), (a_t_diary, zI J 3402 f_t_diary), (a_t, .inr (8, [.int (zi c_t_refusal), .int (zi c_t_high), .int (zi c_t_wide), .ref a_t_now, .ref a_t_trial, .ref a_t_diary, .int (zi c_t_acts), .int (zi c_t_next), .ref a_t_kept, .ref a_t_isKept, .ref a_t_script, .int (zi c_t_scriptSize), .int (zi c_t_spot), .ref a_t_read, .int (zi c_t_readHigh), .int (zi c_t_readWide), .ref a_t_wanted, .ref a_t_level, .ref a_t_chosen, .ref a_t_best]))] rfl ?_
  have g3 := zkr_p hsh
  replace hsh := zkr_k hsh
  refine z_if_ne (pc' := 9) (tgt := 13) dX9_hang_6 (by decide) g3 rfl (fun q => ?_) (fun q => ?_)
  · replace hsh := zif_f q hsh
    refine z_aload_n (pc' := 14) 0 dX9_hang_13 rfl rfl rfl ?_
    refine z_getfield (pc' := 17) (C := RX9) (T := TX9) (N := 20) 2 3 dX9_hang_14 iX9_hang_X9 rfl rfl (by decide) mX9_hang_f16 rfl rfl ?_
    refine z_bipush (pc' := 19) dX9_hang_17 (by decide) rfl ?_
    refine z_iload_n (pc' := 20) 1 dX9_hang_19 rfl rfl rfl ?_
    refine z_imul (pc' := 21) dX9_hang_20 rfl ?_
    refine z_iconst (pc' := 22) dX9_hang_21 rfl ?_
    refine z_iadd (pc' := 23) dX9_hang_22 rfl ?_
    have g4 := zkx_p hsh
    replace hsh := zkx_k hsh
    refine z_iaload (pc' := 24) 0 dX9_hang_23 rfl (by decide) g4 rfl ?_
    refine z_iconst (pc' := 25) dX9_hang_24 rfl ?_
    have g5 := zkr_p hsh
    replace hsh := zkr_k hsh
    refine z_icmp_ne (pc' := 28) (tgt := 32) dX9_hang_25 (by decide) g5 (by decide) rfl (fun q => ?_) (fun q => ?_)
    · replace hsh := zif_f q hsh
      refine z_iconst (pc' := 33) dX9_hang_32 rfl ?_
      obtain ⟨q6, h7, hsh⟩ := zbind hsh
      refine z_callV (pc' := 36) (C := RX9) (As := [.int (zi (0 : Int))]) (rest := []) (wr := [(a_t_now, zI J 243 f_t_now), (a_t_diary, zI J 3402 f_t_diary)]) 1 (zc_X9_refused l D J F (a_t := a_t) (a_t_now := a_t_now) (a_t_trial := a_t_trial) (a_t_diary := a_t_diary) (a_t_kept := a_t_kept) (a_t_isKept := a_t_isKept) (a_t_script := a_t_script) (a_t_read := a_t_read) (a_t_wanted := a_t_wanted) (a_t_level := a_t_level) (a_t_chosen := a_t_chosen) (a_t_best := a_t_best) (c_t_refusal := c_t_refusal) (c_t_high := c_t_high) (c_t_wide := c_t_wide) (c_t_acts := c_t_acts) (c_t_next := c_t_next) (c_t_scriptSize := c_t_scriptSize) (c_t_spot := c_t_spot) (c_t_readHigh := c_t_readHigh) (c_t_readWide := c_t_readWide) (p0 := (0 : Int))  q6 h7) dX9_hang_33 gX9_hang_X9_refused rfl rfl rfl (by decide +kernel) ⟨Nat.le_of_ble_eq_true rfl, Nat.le_of_ble_eq_true rfl⟩ ⟨Nat.le_of_ble_eq_true rfl, Nat.le_of_ble_eq_true rfl⟩ (z_spl_of [2, 0, 1] rfl rfl) rfl rfl rfl rfl (Nat.le_of_ble_eq_true rfl) rfl (fun rv w9 hq => ?_)
      obtain ⟨rfl, rfl⟩ := hq
      refine z_ws [(a_t_now, zI J 243 f_t_now), (a_t_diary, zI J 3402 f_t_diary), (a_t, .inr (8, [.int (zi q6.2), .int (zi c_t_high), .int (zi c_t_wide), .ref a_t_now, .ref a_t_trial, .ref a_t_diary, .int (zi c_t_acts), .int (zi c_t_next), .ref a_t_kept, .ref a_t_isKept, .ref a_t_script, .int (zi c_t_scriptSize), .int (zi c_t_spot), .ref a_t_read, .int (zi c_t_readHigh), .int (zi c_t_readWide), .ref a_t_wanted, .ref a_t_level, .ref a_t_chosen, .ref a_t_best]))] rfl ?_
      have g8 := zkr_p hsh
      replace hsh := zkr_k hsh
      refine z_if_eq (pc' := 39) (tgt := 41) dX9_hang_36 (by decide) g8 rfl (fun q => ?_) (fun q => ?_)
      · replace hsh := zif_t q hsh
        refine z_aload_n (pc' := 42) 0 dX9_hang_41 rfl rfl rfl ?_
        obtain ⟨q9, h10, hsh⟩ := zbind hsh
        refine z_callV (pc' := 45) (C := RX9) (As := []) (rest := []) (wr := []) 0 (zc_X9_note l D J F (a_t := a_t) (a_t_now := a_t_now) (a_t_trial := a_t_trial) (a_t_diary := a_t_diary) (a_t_kept := a_t_kept) (a_t_isKept := a_t_isKept) (a_t_script := a_t_script) (a_t_read := a_t_read) (a_t_wanted := a_t_wanted) (a_t_level := a_t_level) (a_t_chosen := a_t_chosen) (a_t_best := a_t_best) (c_t_refusal := q6.2) (c_t_high := c_t_high) (c_t_wide := c_t_wide) (c_t_acts := c_t_acts) (c_t_next := c_t_next) (c_t_scriptSize := c_t_scriptSize) (c_t_spot := c_t_spot) (c_t_readHigh := c_t_readHigh) (c_t_readWide := c_t_readWide) (f_t_now := f_t_now) (f_t_diary := f_t_diary)  q9 h10) dX9_hang_42 gX9_hang_X9_note rfl rfl rfl (by decide +kernel) ⟨Nat.le_of_ble_eq_true rfl, Nat.le_of_ble_eq_true rfl⟩ ⟨Nat.le_of_ble_eq_true rfl, Nat.le_of_ble_eq_true rfl⟩ (z_spl_of [2, 0, 1] rfl rfl) rfl rfl rfl rfl (Nat.le_of_ble_eq_true rfl) rfl (fun rv w9 hq => ?_)
        obtain ⟨rfl, rfl⟩ := hq
        refine z_ws [(a_t, .inr (8, [.int (zi q6.2), .int (zi c_t_high), .int (zi c_t_wide), .ref a_t_now, .ref a_t_trial, .ref a_t_diary, .int (zi q9.1), .int (zi q9.2.1), .ref a_t_kept, .ref a_t_isKept, .ref a_t_script, .int (zi c_t_scriptSize), .int (zi c_t_spot), .ref a_t_read, .int (zi c_t_readHigh), .int (zi c_t_readWide), .ref a_t_wanted, .ref a_t_level, .ref a_t_chosen, .ref a_t_best])), (a_t_now, zI J 243 f_t_now), (a_t_diary, zI J 3402 q9.2.2)] rfl ?_
        refine z_aload_n (pc' := 46) 0 dX9_hang_45 rfl rfl rfl ?_
        refine z_getfield (pc' := 49) (C := RX9) (T := TX9) (N := 20) 0 3 dX9_hang_46 iX9_hang_X9 rfl rfl (by decide) mX9_hang_f16 rfl rfl ?_
        refine z_bipush (pc' := 51) dX9_hang_49 (by decide) rfl ?_
        refine z_iload_n (pc' := 52) 1 dX9_hang_51 rfl rfl rfl ?_
        refine z_imul (pc' := 53) dX9_hang_52 rfl ?_
        refine z_iconst (pc' := 54) dX9_hang_53 rfl ?_
        refine z_iadd (pc' := 55) dX9_hang_54 rfl ?_
        refine z_iconst (pc' := 56) dX9_hang_55 rfl ?_
        refine z_iastore (pc' := 57) 1 [(a_t, .inr (8, [.int (zi q6.2), .int (zi c_t_high), .int (zi c_t_wide), .ref a_t_now, .ref a_t_trial, .ref a_t_diary, .int (zi q9.1), .int (zi q9.2.1), .ref a_t_kept, .ref a_t_isKept, .ref a_t_script, .int (zi c_t_scriptSize), .int (zi c_t_spot), .ref a_t_read, .int (zi c_t_readHigh), .int (zi c_t_readWide), .ref a_t_wanted, .ref a_t_level, .ref a_t_chosen, .ref a_t_best])), (a_t_now, zI J 243 (va_up f_t_now ((((15 : Int) * p0) + (1 : Int))).toNat (1 : Int))), (a_t_diary, zI J 3402 q9.2.2)] dX9_hang_56 rfl (by decide) g4 rfl rfl ?_
        refine z_aload_n (pc' := 58) 0 dX9_hang_57 rfl rfl rfl ?_
        refine z_aload_n (pc' := 59) 0 dX9_hang_58 rfl rfl rfl ?_
        refine z_getfield (pc' := 62) (C := RX9) (T := TX9) (N := 20) 0 3 dX9_hang_59 iX9_hang_X9 rfl rfl (by decide) mX9_hang_f16 rfl rfl ?_
        obtain ⟨q11, h12, hsh⟩ := zbind hsh
        refine z_callV (pc' := 65) (C := RX9) (As := [.ref a_t_now]) (rest := []) (wr := [(a_t_diary, zI J 3402 q9.2.2)]) 1 (zc_X9_hungOf l D J F (a_t := a_t) (a_p0 := a_t_now) (a_t_now := a_t_now) (a_t_trial := a_t_trial) (a_t_diary := a_t_diary) (a_t_kept := a_t_kept) (a_t_isKept := a_t_isKept) (a_t_script := a_t_script) (a_t_read := a_t_read) (a_t_wanted := a_t_wanted) (a_t_level := a_t_level) (a_t_chosen := a_t_chosen) (a_t_best := a_t_best) (c_t_refusal := q6.2) (c_t_high := c_t_high) (c_t_wide := c_t_wide) (c_t_acts := q9.1) (c_t_next := q9.2.1) (c_t_scriptSize := c_t_scriptSize) (c_t_spot := c_t_spot) (c_t_readHigh := c_t_readHigh) (c_t_readWide := c_t_readWide) (f_p0 := (va_up f_t_now ((((15 : Int) * p0) + (1 : Int))).toNat (1 : Int))) (n_p0 := 243) (hn_p0 := (by decide)) q11 h12) dX9_hang_62 gX9_hang_X9_hungOf rfl rfl rfl (by decide +kernel) ⟨Nat.le_of_ble_eq_true rfl, Nat.le_of_ble_eq_true rfl⟩ ⟨Nat.le_of_ble_eq_true rfl, Nat.le_of_ble_eq_true rfl⟩ (z_spl_of [0, 1, 2] rfl rfl) rfl rfl rfl rfl (Nat.le_of_ble_eq_true rfl) rfl (fun rv w9 hq => ?_)
        obtain ⟨rfl, rfl⟩ := hq
        refine z_ws [(a_t_diary, zI J 3402 q9.2.2), (a_t, .inr (8, [.int (zi q6.2), .int (zi c_t_high), .int (zi c_t_wide), .ref a_t_now, .ref a_t_trial, .ref a_t_diary, .int (zi q9.1), .int (zi q9.2.1), .ref a_t_kept, .ref a_t_isKept, .ref a_t_script, .int (zi c_t_scriptSize), .int (zi c_t_spot), .ref a_t_read, .int (zi c_t_readHigh), .int (zi c_t_readWide), .ref a_t_wanted, .ref a_t_level, .ref a_t_chosen, .ref a_t_best])), (a_t_now, zI J 243 (va_up f_t_now ((((15 : Int) * p0) + (1 : Int))).toNat (1 : Int)))] rfl ?_
        refine z_perm [(a_t, .inr (8, [.int (zi q6.2), .int (zi c_t_high), .int (zi c_t_wide), .ref a_t_now, .ref a_t_trial, .ref a_t_diary, .int (zi q9.1), .int (zi q9.2.1), .ref a_t_kept, .ref a_t_isKept, .ref a_t_script, .int (zi c_t_scriptSize), .int (zi c_t_spot), .ref a_t_read, .int (zi c_t_readHigh), .int (zi c_t_readWide), .ref a_t_wanted, .ref a_t_level, .ref a_t_chosen, .ref a_t_best])), (a_t_now, zI J 243 (va_up f_t_now ((((15 : Int) * p0) + (1 : Int))).toNat (1 : Int))), (a_t_diary, zI J 3402 q9.2.2)] [(0, .ref a_t), (1, .int (zi p0))] [1, 2, 0] [0, 1] rfl rfl rfl ?_
        cases hsh
        exact z_iret rfl dX9_hang_65 ⟨rfl, rfl⟩
      · replace hsh := zif_f q hsh
        refine z_iconst (pc' := 40) dX9_hang_39 rfl ?_
        refine z_perm [(a_t, .inr (8, [.int (zi q6.2), .int (zi c_t_high), .int (zi c_t_wide), .ref a_t_now, .ref a_t_trial, .ref a_t_diary, .int (zi c_t_acts), .int (zi c_t_next), .ref a_t_kept, .ref a_t_isKept, .ref a_t_script, .int (zi c_t_scriptSize), .int (zi c_t_spot), .ref a_t_read, .int (zi c_t_readHigh), .int (zi c_t_readWide), .ref a_t_wanted, .ref a_t_level, .ref a_t_chosen, .ref a_t_best])), (a_t_now, zI J 243 f_t_now), (a_t_diary, zI J 3402 f_t_diary)] [(0, .ref a_t), (1, .int (zi p0))] [2, 0, 1] [0, 1] rfl rfl rfl ?_
        cases hsh
        exact z_iret rfl dX9_hang_40 ⟨rfl, rfl⟩
    · replace hsh := zif_t q hsh
      refine z_iconst (pc' := 29) dX9_hang_28 rfl ?_
      refine z_goto (tgt := 33) dX9_hang_29 (by decide) ?_
      obtain ⟨q13, h14, hsh⟩ := zbind hsh
      refine z_callV (pc' := 36) (C := RX9) (As := [.int (zi (2 : Int))]) (rest := []) (wr := [(a_t_now, zI J 243 f_t_now), (a_t_diary, zI J 3402 f_t_diary)]) 1 (zc_X9_refused l D J F (a_t := a_t) (a_t_now := a_t_now) (a_t_trial := a_t_trial) (a_t_diary := a_t_diary) (a_t_kept := a_t_kept) (a_t_isKept := a_t_isKept) (a_t_script := a_t_script) (a_t_read := a_t_read) (a_t_wanted := a_t_wanted) (a_t_level := a_t_level) (a_t_chosen := a_t_chosen) (a_t_best := a_t_best) (c_t_refusal := c_t_refusal) (c_t_high := c_t_high) (c_t_wide := c_t_wide) (c_t_acts := c_t_acts) (c_t_next := c_t_next) (c_t_scriptSize := c_t_scriptSize) (c_t_spot := c_t_spot) (c_t_readHigh := c_t_readHigh) (c_t_readWide := c_t_readWide) (p0 := (2 : Int))  q13 h14) dX9_hang_33 gX9_hang_X9_refused rfl rfl rfl (by decide +kernel) ⟨Nat.le_of_ble_eq_true rfl, Nat.le_of_ble_eq_true rfl⟩ ⟨Nat.le_of_ble_eq_true rfl, Nat.le_of_ble_eq_true rfl⟩ (z_spl_of [2, 0, 1] rfl rfl) rfl rfl rfl rfl (Nat.le_of_ble_eq_true rfl) rfl (fun rv w9 hq => ?_)
      obtain ⟨rfl, rfl⟩ := hq
      refine z_ws [(a_t_now, zI J 243 f_t_now), (a_t_diary, zI J 3402 f_t_diary), (a_t, .inr (8, [.int (zi q13.2), .int (zi c_t_high), .int (zi c_t_wide), .ref a_t_now, .ref a_t_trial, .ref a_t_diary, .int (zi c_t_acts), .int (zi c_t_next), .ref a_t_kept, .ref a_t_isKept, .ref a_t_script, .int (zi c_t_scriptSize), .int (zi c_t_spot), .ref a_t_read, .int (zi c_t_readHigh), .int (zi c_t_readWide), .ref a_t_wanted, .ref a_t_level, .ref a_t_chosen, .ref a_t_best]))] rfl ?_
      have g15 := zkr_p hsh
      replace hsh := zkr_k hsh
      refine z_if_eq (pc' := 39) (tgt := 41) dX9_hang_36 (by decide) g15 rfl (fun q => ?_) (fun q => ?_)
      · replace hsh := zif_t q hsh
        refine z_aload_n (pc' := 42) 0 dX9_hang_41 rfl rfl rfl ?_
        obtain ⟨q16, h17, hsh⟩ := zbind hsh
        refine z_callV (pc' := 45) (C := RX9) (As := []) (rest := []) (wr := []) 0 (zc_X9_note l D J F (a_t := a_t) (a_t_now := a_t_now) (a_t_trial := a_t_trial) (a_t_diary := a_t_diary) (a_t_kept := a_t_kept) (a_t_isKept := a_t_isKept) (a_t_script := a_t_script) (a_t_read := a_t_read) (a_t_wanted := a_t_wanted) (a_t_level := a_t_level) (a_t_chosen := a_t_chosen) (a_t_best := a_t_best) (c_t_refusal := q13.2) (c_t_high := c_t_high) (c_t_wide := c_t_wide) (c_t_acts := c_t_acts) (c_t_next := c_t_next) (c_t_scriptSize := c_t_scriptSize) (c_t_spot := c_t_spot) (c_t_readHigh := c_t_readHigh) (c_t_readWide := c_t_readWide) (f_t_now := f_t_now) (f_t_diary := f_t_diary)  q16 h17) dX9_hang_42 gX9_hang_X9_note rfl rfl rfl (by decide +kernel) ⟨Nat.le_of_ble_eq_true rfl, Nat.le_of_ble_eq_true rfl⟩ ⟨Nat.le_of_ble_eq_true rfl, Nat.le_of_ble_eq_true rfl⟩ (z_spl_of [2, 0, 1] rfl rfl) rfl rfl rfl rfl (Nat.le_of_ble_eq_true rfl) rfl (fun rv w9 hq => ?_)
        obtain ⟨rfl, rfl⟩ := hq
        refine z_ws [(a_t, .inr (8, [.int (zi q13.2), .int (zi c_t_high), .int (zi c_t_wide), .ref a_t_now, .ref a_t_trial, .ref a_t_diary, .int (zi q16.1), .int (zi q16.2.1), .ref a_t_kept, .ref a_t_isKept, .ref a_t_script, .int (zi c_t_scriptSize), .int (zi c_t_spot), .ref a_t_read, .int (zi c_t_readHigh), .int (zi c_t_readWide), .ref a_t_wanted, .ref a_t_level, .ref a_t_chosen, .ref a_t_best])), (a_t_now, zI J 243 f_t_now), (a_t_diary, zI J 3402 q16.2.2)] rfl ?_
        refine z_aload_n (pc' := 46) 0 dX9_hang_45 rfl rfl rfl ?_
        refine z_getfield (pc' := 49) (C := RX9) (T := TX9) (N := 20) 0 3 dX9_hang_46 iX9_hang_X9 rfl rfl (by decide) mX9_hang_f16 rfl rfl ?_
        refine z_bipush (pc' := 51) dX9_hang_49 (by decide) rfl ?_
        refine z_iload_n (pc' := 52) 1 dX9_hang_51 rfl rfl rfl ?_
        refine z_imul (pc' := 53) dX9_hang_52 rfl ?_
        refine z_iconst (pc' := 54) dX9_hang_53 rfl ?_
        refine z_iadd (pc' := 55) dX9_hang_54 rfl ?_
        refine z_iconst (pc' := 56) dX9_hang_55 rfl ?_
        refine z_iastore (pc' := 57) 1 [(a_t, .inr (8, [.int (zi q13.2), .int (zi c_t_high), .int (zi c_t_wide), .ref a_t_now, .ref a_t_trial, .ref a_t_diary, .int (zi q16.1), .int (zi q16.2.1), .ref a_t_kept, .ref a_t_isKept, .ref a_t_script, .int (zi c_t_scriptSize), .int (zi c_t_spot), .ref a_t_read, .int (zi c_t_readHigh), .int (zi c_t_readWide), .ref a_t_wanted, .ref a_t_level, .ref a_t_chosen, .ref a_t_best])), (a_t_now, zI J 243 (va_up f_t_now ((((15 : Int) * p0) + (1 : Int))).toNat (1 : Int))), (a_t_diary, zI J 3402 q16.2.2)] dX9_hang_56 rfl (by decide) g4 rfl rfl ?_
        refine z_aload_n (pc' := 58) 0 dX9_hang_57 rfl rfl rfl ?_
        refine z_aload_n (pc' := 59) 0 dX9_hang_58 rfl rfl rfl ?_
        refine z_getfield (pc' := 62) (C := RX9) (T := TX9) (N := 20) 0 3 dX9_hang_59 iX9_hang_X9 rfl rfl (by decide) mX9_hang_f16 rfl rfl ?_
        obtain ⟨q18, h19, hsh⟩ := zbind hsh
        refine z_callV (pc' := 65) (C := RX9) (As := [.ref a_t_now]) (rest := []) (wr := [(a_t_diary, zI J 3402 q16.2.2)]) 1 (zc_X9_hungOf l D J F (a_t := a_t) (a_p0 := a_t_now) (a_t_now := a_t_now) (a_t_trial := a_t_trial) (a_t_diary := a_t_diary) (a_t_kept := a_t_kept) (a_t_isKept := a_t_isKept) (a_t_script := a_t_script) (a_t_read := a_t_read) (a_t_wanted := a_t_wanted) (a_t_level := a_t_level) (a_t_chosen := a_t_chosen) (a_t_best := a_t_best) (c_t_refusal := q13.2) (c_t_high := c_t_high) (c_t_wide := c_t_wide) (c_t_acts := q16.1) (c_t_next := q16.2.1) (c_t_scriptSize := c_t_scriptSize) (c_t_spot := c_t_spot) (c_t_readHigh := c_t_readHigh) (c_t_readWide := c_t_readWide) (f_p0 := (va_up f_t_now ((((15 : Int) * p0) + (1 : Int))).toNat (1 : Int))) (n_p0 := 243) (hn_p0 := (by decide)) q18 h19) dX9_hang_62 gX9_hang_X9_hungOf rfl rfl rfl (by decide +kernel) ⟨Nat.le_of_ble_eq_true rfl, Nat.le_of_ble_eq_true rfl⟩ ⟨Nat.le_of_ble_eq_true rfl, Nat.le_of_ble_eq_true rfl⟩ (z_spl_of [0, 1, 2] rfl rfl) rfl rfl rfl rfl (Nat.le_of_ble_eq_true rfl) rfl (fun rv w9 hq => ?_)
        obtain ⟨rfl, rfl⟩ := hq
        refine z_ws [(a_t_diary, zI J 3402 q16.2.2), (a_t, .inr (8, [.int (zi q13.2), .int (zi c_t_high), .int (zi c_t_wide), .ref a_t_now, .ref a_t_trial, .ref a_t_diary, .int (zi q16.1), .int (zi q16.2.1), .ref a_t_kept, .ref a_t_isKept, .ref a_t_script, .int (zi c_t_scriptSize), .int (zi c_t_spot), .ref a_t_read, .int (zi c_t_readHigh), .int (zi c_t_readWide), .ref a_t_wanted, .ref a_t_level, .ref a_t_chosen, .ref a_t_best])), (a_t_now, zI J 243 (va_up f_t_now ((((15 : Int) * p0) + (1 : Int))).toNat (1 : Int)))] rfl ?_
        refine z_perm [(a_t, .inr (8, [.int (zi q13.2), .int (zi c_t_high), .int (zi c_t_wide), .ref a_t_now, .ref a_t_trial, .ref a_t_diary, .int (zi q16.1), .int (zi q16.2.1), .ref a_t_kept, .ref a_t_isKept, .ref a_t_script, .int (zi c_t_scriptSize), .int (zi c_t_spot), .ref a_t_read, .int (zi c_t_readHigh), .int (zi c_t_readWide), .ref a_t_wanted, .ref a_t_level, .ref a_t_chosen, .ref a_t_best])), (a_t_now, zI J 243 (va_up f_t_now ((((15 : Int) * p0) + (1 : Int))).toNat (1 : Int))), (a_t_diary, zI J 3402 q16.2.2)] [(0, .ref a_t), (1, .int (zi p0))] [1, 2, 0] [0, 1] rfl rfl rfl ?_
        cases hsh
        exact z_iret rfl dX9_hang_65 ⟨rfl, rfl⟩
      · replace hsh := zif_f q hsh
        refine z_iconst (pc' := 40) dX9_hang_39 rfl ?_
        refine z_perm [(a_t, .inr (8, [.int (zi q13.2), .int (zi c_t_high), .int (zi c_t_wide), .ref a_t_now, .ref a_t_trial, .ref a_t_diary, .int (zi c_t_acts), .int (zi c_t_next), .ref a_t_kept, .ref a_t_isKept, .ref a_t_script, .int (zi c_t_scriptSize), .int (zi c_t_spot), .ref a_t_read, .int (zi c_t_readHigh), .int (zi c_t_readWide), .ref a_t_wanted, .ref a_t_level, .ref a_t_chosen, .ref a_t_best])), (a_t_now, zI J 243 f_t_now), (a_t_diary, zI J 3402 f_t_diary)] [(0, .ref a_t), (1, .int (zi p0))] [2, 0, 1] [0, 1] rfl rfl rfl ?_
        cases hsh
        exact z_iret rfl dX9_hang_40 ⟨rfl, rfl⟩
  · replace hsh := zif_t q hsh
    refine z_iconst (pc' := 10) dX9_hang_9 rfl ?_
    refine z_goto (tgt := 33) dX9_hang_10 (by decide) ?_
    obtain ⟨q20, h21, hsh⟩ := zbind hsh
    refine z_callV (pc' := 36) (C := RX9) (As := [.int (zi (1 : Int))]) (rest := []) (wr := [(a_t_now, zI J 243 f_t_now), (a_t_diary, zI J 3402 f_t_diary)]) 1 (zc_X9_refused l D J F (a_t := a_t) (a_t_now := a_t_now) (a_t_trial := a_t_trial) (a_t_diary := a_t_diary) (a_t_kept := a_t_kept) (a_t_isKept := a_t_isKept) (a_t_script := a_t_script) (a_t_read := a_t_read) (a_t_wanted := a_t_wanted) (a_t_level := a_t_level) (a_t_chosen := a_t_chosen) (a_t_best := a_t_best) (c_t_refusal := c_t_refusal) (c_t_high := c_t_high) (c_t_wide := c_t_wide) (c_t_acts := c_t_acts) (c_t_next := c_t_next) (c_t_scriptSize := c_t_scriptSize) (c_t_spot := c_t_spot) (c_t_readHigh := c_t_readHigh) (c_t_readWide := c_t_readWide) (p0 := (1 : Int))  q20 h21) dX9_hang_33 gX9_hang_X9_refused rfl rfl rfl (by decide +kernel) ⟨Nat.le_of_ble_eq_true rfl, Nat.le_of_ble_eq_true rfl⟩ ⟨Nat.le_of_ble_eq_true rfl, Nat.le_of_ble_eq_true rfl⟩ (z_spl_of [2, 0, 1] rfl rfl) rfl rfl rfl rfl (Nat.le_of_ble_eq_true rfl) rfl (fun rv w9 hq => ?_)
    obtain ⟨rfl, rfl⟩ := hq
    refine z_ws [(a_t_now, zI J 243 f_t_now), (a_t_diary, zI J 3402 f_t_diary), (a_t, .inr (8, [.int (zi q20.2), .int (zi c_t_high), .int (zi c_t_wide), .ref a_t_now, .ref a_t_trial, .ref a_t_diary, .int (zi c_t_acts), .int (zi c_t_next), .ref a_t_kept, .ref a_t_isKept, .ref a_t_script, .int (zi c_t_scriptSize), .int (zi c_t_spot), .ref a_t_read, .int (zi c_t_readHigh), .int (zi c_t_readWide), .ref a_t_wanted, .ref a_t_level, .ref a_t_chosen, .ref a_t_best]))] rfl ?_
    have g22 := zkr_p hsh
    replace hsh := zkr_k hsh
    refine z_if_eq (pc' := 39) (tgt := 41) dX9_hang_36 (by decide) g22 rfl (fun q => ?_) (fun q => ?_)
    · replace hsh := zif_t q hsh
      refine z_aload_n (pc' := 42) 0 dX9_hang_41 rfl rfl rfl ?_
      obtain ⟨q23, h24, hsh⟩ := zbind hsh
      refine z_callV (pc' := 45) (C := RX9) (As := []) (rest := []) (wr := []) 0 (zc_X9_note l D J F (a_t := a_t) (a_t_now := a_t_now) (a_t_trial := a_t_trial) (a_t_diary := a_t_diary) (a_t_kept := a_t_kept) (a_t_isKept := a_t_isKept) (a_t_script := a_t_script) (a_t_read := a_t_read) (a_t_wanted := a_t_wanted) (a_t_level := a_t_level) (a_t_chosen := a_t_chosen) (a_t_best := a_t_best) (c_t_refusal := q20.2) (c_t_high := c_t_high) (c_t_wide := c_t_wide) (c_t_acts := c_t_acts) (c_t_next := c_t_next) (c_t_scriptSize := c_t_scriptSize) (c_t_spot := c_t_spot) (c_t_readHigh := c_t_readHigh) (c_t_readWide := c_t_readWide) (f_t_now := f_t_now) (f_t_diary := f_t_diary)  q23 h24) dX9_hang_42 gX9_hang_X9_note rfl rfl rfl (by decide +kernel) ⟨Nat.le_of_ble_eq_true rfl, Nat.le_of_ble_eq_true rfl⟩ ⟨Nat.le_of_ble_eq_true rfl, Nat.le_of_ble_eq_true rfl⟩ (z_spl_of [2, 0, 1] rfl rfl) rfl rfl rfl rfl (Nat.le_of_ble_eq_true rfl) rfl (fun rv w9 hq => ?_)
      obtain ⟨rfl, rfl⟩ := hq
      refine z_ws [(a_t, .inr (8, [.int (zi q20.2), .int (zi c_t_high), .int (zi c_t_wide), .ref a_t_now, .ref a_t_trial, .ref a_t_diary, .int (zi q23.1), .int (zi q23.2.1), .ref a_t_kept, .ref a_t_isKept, .ref a_t_script, .int (zi c_t_scriptSize), .int (zi c_t_spot), .ref a_t_read, .int (zi c_t_readHigh), .int (zi c_t_readWide), .ref a_t_wanted, .ref a_t_level, .ref a_t_chosen, .ref a_t_best])), (a_t_now, zI J 243 f_t_now), (a_t_diary, zI J 3402 q23.2.2)] rfl ?_
      refine z_aload_n (pc' := 46) 0 dX9_hang_45 rfl rfl rfl ?_
      refine z_getfield (pc' := 49) (C := RX9) (T := TX9) (N := 20) 0 3 dX9_hang_46 iX9_hang_X9 rfl rfl (by decide) mX9_hang_f16 rfl rfl ?_
      refine z_bipush (pc' := 51) dX9_hang_49 (by decide) rfl ?_
      refine z_iload_n (pc' := 52) 1 dX9_hang_51 rfl rfl rfl ?_
      refine z_imul (pc' := 53) dX9_hang_52 rfl ?_
      refine z_iconst (pc' := 54) dX9_hang_53 rfl ?_
      refine z_iadd (pc' := 55) dX9_hang_54 rfl ?_
      refine z_iconst (pc' := 56) dX9_hang_55 rfl ?_
      have g25 := zkx_p hsh
      replace hsh := zkx_k hsh
      refine z_iastore (pc' := 57) 1 [(a_t, .inr (8, [.int (zi q20.2), .int (zi c_t_high), .int (zi c_t_wide), .ref a_t_now, .ref a_t_trial, .ref a_t_diary, .int (zi q23.1), .int (zi q23.2.1), .ref a_t_kept, .ref a_t_isKept, .ref a_t_script, .int (zi c_t_scriptSize), .int (zi c_t_spot), .ref a_t_read, .int (zi c_t_readHigh), .int (zi c_t_readWide), .ref a_t_wanted, .ref a_t_level, .ref a_t_chosen, .ref a_t_best])), (a_t_now, zI J 243 (va_up f_t_now ((((15 : Int) * p0) + (1 : Int))).toNat (1 : Int))), (a_t_diary, zI J 3402 q23.2.2)] dX9_hang_56 rfl (by decide) g25 rfl rfl ?_
      refine z_aload_n (pc' := 58) 0 dX9_hang_57 rfl rfl rfl ?_
      refine z_aload_n (pc' := 59) 0 dX9_hang_58 rfl rfl rfl ?_
      refine z_getfield (pc' := 62) (C := RX9) (T := TX9) (N := 20) 0 3 dX9_hang_59 iX9_hang_X9 rfl rfl (by decide) mX9_hang_f16 rfl rfl ?_
      obtain ⟨q26, h27, hsh⟩ := zbind hsh
      refine z_callV (pc' := 65) (C := RX9) (As := [.ref a_t_now]) (rest := []) (wr := [(a_t_diary, zI J 3402 q23.2.2)]) 1 (zc_X9_hungOf l D J F (a_t := a_t) (a_p0 := a_t_now) (a_t_now := a_t_now) (a_t_trial := a_t_trial) (a_t_diary := a_t_diary) (a_t_kept := a_t_kept) (a_t_isKept := a_t_isKept) (a_t_script := a_t_script) (a_t_read := a_t_read) (a_t_wanted := a_t_wanted) (a_t_level := a_t_level) (a_t_chosen := a_t_chosen) (a_t_best := a_t_best) (c_t_refusal := q20.2) (c_t_high := c_t_high) (c_t_wide := c_t_wide) (c_t_acts := q23.1) (c_t_next := q23.2.1) (c_t_scriptSize := c_t_scriptSize) (c_t_spot := c_t_spot) (c_t_readHigh := c_t_readHigh) (c_t_readWide := c_t_readWide) (f_p0 := (va_up f_t_now ((((15 : Int) * p0) + (1 : Int))).toNat (1 : Int))) (n_p0 := 243) (hn_p0 := (by decide)) q26 h27) dX9_hang_62 gX9_hang_X9_hungOf rfl rfl rfl (by decide +kernel) ⟨Nat.le_of_ble_eq_true rfl, Nat.le_of_ble_eq_true rfl⟩ ⟨Nat.le_of_ble_eq_true rfl, Nat.le_of_ble_eq_true rfl⟩ (z_spl_of [0, 1, 2] rfl rfl) rfl rfl rfl rfl (Nat.le_of_ble_eq_true rfl) rfl (fun rv w9 hq => ?_)
      obtain ⟨rfl, rfl⟩ := hq
      refine z_ws [(a_t_diary, zI J 3402 q23.2.2), (a_t, .inr (8, [.int (zi q20.2), .int (zi c_t_high), .int (zi c_t_wide), .ref a_t_now, .ref a_t_trial, .ref a_t_diary, .int (zi q23.1), .int (zi q23.2.1), .ref a_t_kept, .ref a_t_isKept, .ref a_t_script, .int (zi c_t_scriptSize), .int (zi c_t_spot), .ref a_t_read, .int (zi c_t_readHigh), .int (zi c_t_readWide), .ref a_t_wanted, .ref a_t_level, .ref a_t_chosen, .ref a_t_best])), (a_t_now, zI J 243 (va_up f_t_now ((((15 : Int) * p0) + (1 : Int))).toNat (1 : Int)))] rfl ?_
      refine z_perm [(a_t, .inr (8, [.int (zi q20.2), .int (zi c_t_high), .int (zi c_t_wide), .ref a_t_now, .ref a_t_trial, .ref a_t_diary, .int (zi q23.1), .int (zi q23.2.1), .ref a_t_kept, .ref a_t_isKept, .ref a_t_script, .int (zi c_t_scriptSize), .int (zi c_t_spot), .ref a_t_read, .int (zi c_t_readHigh), .int (zi c_t_readWide), .ref a_t_wanted, .ref a_t_level, .ref a_t_chosen, .ref a_t_best])), (a_t_now, zI J 243 (va_up f_t_now ((((15 : Int) * p0) + (1 : Int))).toNat (1 : Int))), (a_t_diary, zI J 3402 q23.2.2)] [(0, .ref a_t), (1, .int (zi p0))] [1, 2, 0] [0, 1] rfl rfl rfl ?_
      cases hsh
      exact z_iret rfl dX9_hang_65 ⟨rfl, rfl⟩
    · replace hsh := zif_f q hsh
      refine z_iconst (pc' := 40) dX9_hang_39 rfl ?_
      refine z_perm [(a_t, .inr (8, [.int (zi q20.2), .int (zi c_t_high), .int (zi c_t_wide), .ref a_t_now, .ref a_t_trial, .ref a_t_diary, .int (zi c_t_acts), .int (zi c_t_next), .ref a_t_kept, .ref a_t_isKept, .ref a_t_script, .int (zi c_t_scriptSize), .int (zi c_t_spot), .ref a_t_read, .int (zi c_t_readHigh), .int (zi c_t_readWide), .ref a_t_wanted, .ref a_t_level, .ref a_t_chosen, .ref a_t_best])), (a_t_now, zI J 243 f_t_now), (a_t_diary, zI J 3402 f_t_diary)] [(0, .ref a_t), (1, .int (zi p0))] [2, 0, 1] [0, 1] rfl rfl rfl ?_
      cases hsh
      exact z_iret rfl dX9_hang_40 ⟨rfl, rfl⟩
def sh_X9_release (F : Nat) (c_t_high : Int) (c_t_wide : Int) (c_t_acts : Int) (c_t_next : Int) (f_t_now : Nat → Int) (f_t_diary : Nat → Int) (p0 : Int) : Option (Int × Int × Int × Int × (Nat → Int) × (Nat → Int)) := (sh_X9_isPoint F c_t_high c_t_wide p0).bind (fun (q1 : Int) => zkr q1 (if q1 = (0 : Int) then (sh_X9_refused F (1 : Int)).bind (fun (q20 : Int × Int) => zkr q20.1 (if q20.1 = (0 : Int) then (sh_X9_note F c_t_acts c_t_next f_t_now f_t_diary).bind (fun (q23 : Int × Int × (Nat → Int)) => zkx (((15 : Int) * p0) + (1 : Int)) 243 ((sh_X9_hungOf F c_t_high c_t_wide (va_up f_t_now ((((15 : Int) * p0) + (1 : Int))).toNat (0 : Int)) 243).bind (fun (q26 : Int) => some (q26, q20.2, q23.1, q23.2.1, (va_up f_t_now ((((15 : Int) * p0) + (1 : Int))).toNat (0 : Int)), q23.2.2)))) else some ((0 : Int), q20.2, c_t_acts, c_t_next, f_t_now, f_t_diary))) else zkx (((15 : Int) * p0) + (1 : Int)) 243 (zkr (f_t_now ((((15 : Int) * p0) + (1 : Int))).toNat) (if (f_t_now ((((15 : Int) * p0) + (1 : Int))).toNat) = (0 : Int) then (sh_X9_refused F (2 : Int)).bind (fun (q13 : Int × Int) => zkr q13.1 (if q13.1 = (0 : Int) then (sh_X9_note F c_t_acts c_t_next f_t_now f_t_diary).bind (fun (q16 : Int × Int × (Nat → Int)) => (sh_X9_hungOf F c_t_high c_t_wide (va_up f_t_now ((((15 : Int) * p0) + (1 : Int))).toNat (0 : Int)) 243).bind (fun (q18 : Int) => some (q18, q13.2, q16.1, q16.2.1, (va_up f_t_now ((((15 : Int) * p0) + (1 : Int))).toNat (0 : Int)), q16.2.2))) else some ((0 : Int), q13.2, c_t_acts, c_t_next, f_t_now, f_t_diary))) else (sh_X9_refused F (0 : Int)).bind (fun (q6 : Int × Int) => zkr q6.1 (if q6.1 = (0 : Int) then (sh_X9_note F c_t_acts c_t_next f_t_now f_t_diary).bind (fun (q9 : Int × Int × (Nat → Int)) => (sh_X9_hungOf F c_t_high c_t_wide (va_up f_t_now ((((15 : Int) * p0) + (1 : Int))).toNat (0 : Int)) 243).bind (fun (q11 : Int) => some (q11, q6.2, q9.1, q9.2.1, (va_up f_t_now ((((15 : Int) * p0) + (1 : Int))).toNat (0 : Int)), q9.2.2))) else some ((0 : Int), q6.2, c_t_acts, c_t_next, f_t_now, f_t_diary)))))))
theorem mX9_release_f16 : Cond.fieldLink RX9 16 (TX9 3).1 (TX9 3).2.1 (TX9 3).2.2.1 ∈ wsX9_release := List.mem_of_getElem? (i := 1) rfl
theorem iX9_release_X9 : ∀ w ∈ wsX90, w ∈ wsX9_release := fun _ h => (List.mem_cons_of_mem _ (List.mem_append_right _ h))
set_option maxRecDepth 100000 in
set_option maxHeartbeats 4000000 in
theorem zc_X9_release (l : Launch) (D : va_G) (J : Nat → ClassId) (F : Nat) (a_t : Nat) (a_t_now : Nat) (a_t_trial : Nat) (a_t_diary : Nat) (a_t_kept : Nat) (a_t_isKept : Nat) (a_t_script : Nat) (a_t_read : Nat) (a_t_wanted : Nat) (a_t_level : Nat) (a_t_chosen : Nat) (a_t_best : Nat) (c_t_refusal : Int) (c_t_high : Int) (c_t_wide : Int) (c_t_acts : Int) (c_t_next : Int) (c_t_scriptSize : Int) (c_t_spot : Int) (c_t_readHigh : Int) (c_t_readWide : Int) (f_t_now : Nat → Int) (f_t_diary : Nat → Int) (p0 : Int) (res : Int × Int × Int × Int × (Nat → Int) × (Nat → Int)) (hsh : sh_X9_release F c_t_high c_t_wide c_t_acts c_t_next f_t_now f_t_diary p0 = some res) : ZM l D J yX9_release wsX9_release ({ frames := 2, cells := 0, slots := 0, locals := 46 } : Room) 0 0 [.ref a_t, .int (zi p0)] [(a_t, .inr (8, [.int (zi c_t_refusal), .int (zi c_t_high), .int (zi c_t_wide), .ref a_t_now, .ref a_t_trial, .ref a_t_diary, .int (zi c_t_acts), .int (zi c_t_next), .ref a_t_kept, .ref a_t_isKept, .ref a_t_script, .int (zi c_t_scriptSize), .int (zi c_t_spot), .ref a_t_read, .int (zi c_t_readHigh), .int (zi c_t_readWide), .ref a_t_wanted, .ref a_t_level, .ref a_t_chosen, .ref a_t_best])), (a_t_now, zI J 243 f_t_now), (a_t_diary, zI J 3402 f_t_diary)] (fun rv w9 => rv = some (.int (zi res.1)) ∧ w9 = [(a_t, .inr (8, [.int (zi res.2.1), .int (zi c_t_high), .int (zi c_t_wide), .ref a_t_now, .ref a_t_trial, .ref a_t_diary, .int (zi res.2.2.1), .int (zi res.2.2.2.1), .ref a_t_kept, .ref a_t_isKept, .ref a_t_script, .int (zi c_t_scriptSize), .int (zi c_t_spot), .ref a_t_read, .int (zi c_t_readHigh), .int (zi c_t_readWide), .ref a_t_wanted, .ref a_t_level, .ref a_t_chosen, .ref a_t_best])), (a_t_now, zI J 243 res.2.2.2.2.1), (a_t_diary, zI J 3402 res.2.2.2.2.2)]) := by
  refine z_ofZ (cc := cX9_release) (maxL := 2) (ret := (some .int)) 0 0 (by decide) rfl (Nat.le_of_ble_eq_true rfl) [(0, .ref a_t), (1, .int (zi p0))] rfl ?_
  intro p e s m args below meth c A
  unfold sh_X9_release at hsh
  refine z_aload_n (pc' := 1) 0 dX9_release_0 rfl rfl rfl ?_
  refine z_aload_n (pc' := 2) 0 dX9_release_1 rfl rfl rfl ?_
  refine z_iload_n (pc' := 3) 1 dX9_release_2 rfl rfl rfl ?_
  obtain ⟨q1, h2, hsh⟩ := zbind hsh
  refine z_callV (pc' := 6) (C := RX9) (As := [.int (zi p0)]) (rest := [.ref a_t]) (wr := [(a_t_now, zI J 243 f_t_now), (a_t_diary, zI J 3402 f_t_diary)]) 1 (zc_X9_isPoint l D J F (a_t := a_t) (a_t_now := a_t_now) (a_t_trial := a_t_trial) (a_t_diary := a_t_diary) (a_t_kept := a_t_kept) (a_t_isKept := a_t_isKept) (a_t_script := a_t_script) (a_t_read := a_t_read) (a_t_wanted := a_t_wanted) (a_t_level := a_t_level) (a_t_chosen := a_t_chosen) (a_t_best := a_t_best) (c_t_refusal := c_t_refusal) (c_t_high := c_t_high) (c_t_wide := c_t_wide) (c_t_acts := c_t_acts) (c_t_next := c_t_next) (c_t_scriptSize := c_t_scriptSize) (c_t_spot := c_t_spot) (c_t_readHigh := c_t_readHigh) (c_t_readWide := c_t_readWide) (p0 := p0)  q1 h2) dX9_release_3 gX9_release_X9_isPoint rfl rfl rfl (by decide +kernel) ⟨Nat.le_of_ble_eq_true rfl, Nat.le_of_ble_eq_true rfl⟩ ⟨Nat.le_of_ble_eq_true rfl, Nat.le_of_ble_eq_true rfl⟩ (z_spl_of [0, 1, 2] rfl rfl) rfl rfl rfl rfl (Nat.le_of_ble_eq_true rfl) rfl (fun rv w9 hq => ?_)
  obtain ⟨rfl, rfl⟩ := hq
  refine z_ws [(a_t_now, zI J 243 f_t_now), (a_t_diary, zI J 3402 f_t_diary), (a_t, .inr (8, [.int (zi c_t_refusal), .int (zi c_t_high), .int (zi c_t_wide), .ref a_t_now, .ref a_t_trial, .ref a_t_diary, .int (zi c_t_acts), .int (zi c_t_next), .ref a_t_kept, .ref a_t_isKept, .ref a_t_script, .int (zi c_t_scriptSize), .int (zi c_t_spot), .ref a_t_read, .int (zi c_t_readHigh), .int (zi c_t_readWide), .ref a_t_wanted, .ref a_t_level, .ref a_t_chosen, .ref a_t_best]))] rfl ?_
  have g3 := zkr_p hsh
  replace hsh := zkr_k hsh
  refine z_if_ne (pc' := 9) (tgt := 13) dX9_release_6 (by decide) g3 rfl (fun q => ?_) (fun q => ?_)
  · replace hsh := zif_f q hsh
    refine z_aload_n (pc' := 14) 0 dX9_release_13 rfl rfl rfl ?_
    refine z_getfield (pc' := 17) (C := RX9) (T := TX9) (N := 20) 2 3 dX9_release_14 iX9_release_X9 rfl rfl (by decide) mX9_release_f16 rfl rfl ?_
    refine z_bipush (pc' := 19) dX9_release_17 (by decide) rfl ?_
    refine z_iload_n (pc' := 20) 1 dX9_release_19 rfl rfl rfl ?_
    refine z_imul (pc' := 21) dX9_release_20 rfl ?_
    refine z_iconst (pc' := 22) dX9_release_21 rfl ?_
    refine z_iadd (pc' := 23) dX9_release_22 rfl ?_
    have g4 := zkx_p hsh
    replace hsh := zkx_k hsh
    refine z_iaload (pc' := 24) 0 dX9_release_23 rfl (by decide) g4 rfl ?_
    have g5 := zkr_p hsh
    replace hsh := zkr_k hsh
    refine z_if_ne (pc' := 27) (tgt := 31) dX9_release_24 (by decide) g5 rfl (fun q => ?_) (fun q => ?_)
    · replace hsh := zif_f q hsh
      refine z_iconst (pc' := 32) dX9_release_31 rfl ?_
      obtain ⟨q6, h7, hsh⟩ := zbind hsh
      refine z_callV (pc' := 35) (C := RX9) (As := [.int (zi (0 : Int))]) (rest := []) (wr := [(a_t_now, zI J 243 f_t_now), (a_t_diary, zI J 3402 f_t_diary)]) 1 (zc_X9_refused l D J F (a_t := a_t) (a_t_now := a_t_now) (a_t_trial := a_t_trial) (a_t_diary := a_t_diary) (a_t_kept := a_t_kept) (a_t_isKept := a_t_isKept) (a_t_script := a_t_script) (a_t_read := a_t_read) (a_t_wanted := a_t_wanted) (a_t_level := a_t_level) (a_t_chosen := a_t_chosen) (a_t_best := a_t_best) (c_t_refusal := c_t_refusal) (c_t_high := c_t_high) (c_t_wide := c_t_wide) (c_t_acts := c_t_acts) (c_t_next := c_t_next) (c_t_scriptSize := c_t_scriptSize) (c_t_spot := c_t_spot) (c_t_readHigh := c_t_readHigh) (c_t_readWide := c_t_readWide) (p0 := (0 : Int))  q6 h7) dX9_release_32 gX9_release_X9_refused rfl rfl rfl (by decide +kernel) ⟨Nat.le_of_ble_eq_true rfl, Nat.le_of_ble_eq_true rfl⟩ ⟨Nat.le_of_ble_eq_true rfl, Nat.le_of_ble_eq_true rfl⟩ (z_spl_of [2, 0, 1] rfl rfl) rfl rfl rfl rfl (Nat.le_of_ble_eq_true rfl) rfl (fun rv w9 hq => ?_)
      obtain ⟨rfl, rfl⟩ := hq
      refine z_ws [(a_t_now, zI J 243 f_t_now), (a_t_diary, zI J 3402 f_t_diary), (a_t, .inr (8, [.int (zi q6.2), .int (zi c_t_high), .int (zi c_t_wide), .ref a_t_now, .ref a_t_trial, .ref a_t_diary, .int (zi c_t_acts), .int (zi c_t_next), .ref a_t_kept, .ref a_t_isKept, .ref a_t_script, .int (zi c_t_scriptSize), .int (zi c_t_spot), .ref a_t_read, .int (zi c_t_readHigh), .int (zi c_t_readWide), .ref a_t_wanted, .ref a_t_level, .ref a_t_chosen, .ref a_t_best]))] rfl ?_
      have g8 := zkr_p hsh
      replace hsh := zkr_k hsh
      refine z_if_eq (pc' := 38) (tgt := 40) dX9_release_35 (by decide) g8 rfl (fun q => ?_) (fun q => ?_)
      · replace hsh := zif_t q hsh
        refine z_aload_n (pc' := 41) 0 dX9_release_40 rfl rfl rfl ?_
        obtain ⟨q9, h10, hsh⟩ := zbind hsh
        refine z_callV (pc' := 44) (C := RX9) (As := []) (rest := []) (wr := []) 0 (zc_X9_note l D J F (a_t := a_t) (a_t_now := a_t_now) (a_t_trial := a_t_trial) (a_t_diary := a_t_diary) (a_t_kept := a_t_kept) (a_t_isKept := a_t_isKept) (a_t_script := a_t_script) (a_t_read := a_t_read) (a_t_wanted := a_t_wanted) (a_t_level := a_t_level) (a_t_chosen := a_t_chosen) (a_t_best := a_t_best) (c_t_refusal := q6.2) (c_t_high := c_t_high) (c_t_wide := c_t_wide) (c_t_acts := c_t_acts) (c_t_next := c_t_next) (c_t_scriptSize := c_t_scriptSize) (c_t_spot := c_t_spot) (c_t_readHigh := c_t_readHigh) (c_t_readWide := c_t_readWide) (f_t_now := f_t_now) (f_t_diary := f_t_diary)  q9 h10) dX9_release_41 gX9_release_X9_note rfl rfl rfl (by decide +kernel) ⟨Nat.le_of_ble_eq_true rfl, Nat.le_of_ble_eq_true rfl⟩ ⟨Nat.le_of_ble_eq_true rfl, Nat.le_of_ble_eq_true rfl⟩ (z_spl_of [2, 0, 1] rfl rfl) rfl rfl rfl rfl (Nat.le_of_ble_eq_true rfl) rfl (fun rv w9 hq => ?_)
        obtain ⟨rfl, rfl⟩ := hq
        refine z_ws [(a_t, .inr (8, [.int (zi q6.2), .int (zi c_t_high), .int (zi c_t_wide), .ref a_t_now, .ref a_t_trial, .ref a_t_diary, .int (zi q9.1), .int (zi q9.2.1), .ref a_t_kept, .ref a_t_isKept, .ref a_t_script, .int (zi c_t_scriptSize), .int (zi c_t_spot), .ref a_t_read, .int (zi c_t_readHigh), .int (zi c_t_readWide), .ref a_t_wanted, .ref a_t_level, .ref a_t_chosen, .ref a_t_best])), (a_t_now, zI J 243 f_t_now), (a_t_diary, zI J 3402 q9.2.2)] rfl ?_
        refine z_aload_n (pc' := 45) 0 dX9_release_44 rfl rfl rfl ?_
        refine z_getfield (pc' := 48) (C := RX9) (T := TX9) (N := 20) 0 3 dX9_release_45 iX9_release_X9 rfl rfl (by decide) mX9_release_f16 rfl rfl ?_
        refine z_bipush (pc' := 50) dX9_release_48 (by decide) rfl ?_
        refine z_iload_n (pc' := 51) 1 dX9_release_50 rfl rfl rfl ?_
        refine z_imul (pc' := 52) dX9_release_51 rfl ?_
        refine z_iconst (pc' := 53) dX9_release_52 rfl ?_
        refine z_iadd (pc' := 54) dX9_release_53 rfl ?_
        refine z_iconst (pc' := 55) dX9_release_54 rfl ?_
        refine z_iastore (pc' := 56) 1 [(a_t, .inr (8, [.int (zi q6.2), .int (zi c_t_high), .int (zi c_t_wide), .ref a_t_now, .ref a_t_trial, .ref a_t_diary, .int (zi q9.1), .int (zi q9.2.1), .ref a_t_kept, .ref a_t_isKept, .ref a_t_script, .int (zi c_t_scriptSize), .int (zi c_t_spot), .ref a_t_read, .int (zi c_t_readHigh), .int (zi c_t_readWide), .ref a_t_wanted, .ref a_t_level, .ref a_t_chosen, .ref a_t_best])), (a_t_now, zI J 243 (va_up f_t_now ((((15 : Int) * p0) + (1 : Int))).toNat (0 : Int))), (a_t_diary, zI J 3402 q9.2.2)] dX9_release_55 rfl (by decide) g4 rfl rfl ?_
        refine z_aload_n (pc' := 57) 0 dX9_release_56 rfl rfl rfl ?_
        refine z_aload_n (pc' := 58) 0 dX9_release_57 rfl rfl rfl ?_
        refine z_getfield (pc' := 61) (C := RX9) (T := TX9) (N := 20) 0 3 dX9_release_58 iX9_release_X9 rfl rfl (by decide) mX9_release_f16 rfl rfl ?_
        obtain ⟨q11, h12, hsh⟩ := zbind hsh
        refine z_callV (pc' := 64) (C := RX9) (As := [.ref a_t_now]) (rest := []) (wr := [(a_t_diary, zI J 3402 q9.2.2)]) 1 (zc_X9_hungOf l D J F (a_t := a_t) (a_p0 := a_t_now) (a_t_now := a_t_now) (a_t_trial := a_t_trial) (a_t_diary := a_t_diary) (a_t_kept := a_t_kept) (a_t_isKept := a_t_isKept) (a_t_script := a_t_script) (a_t_read := a_t_read) (a_t_wanted := a_t_wanted) (a_t_level := a_t_level) (a_t_chosen := a_t_chosen) (a_t_best := a_t_best) (c_t_refusal := q6.2) (c_t_high := c_t_high) (c_t_wide := c_t_wide) (c_t_acts := q9.1) (c_t_next := q9.2.1) (c_t_scriptSize := c_t_scriptSize) (c_t_spot := c_t_spot) (c_t_readHigh := c_t_readHigh) (c_t_readWide := c_t_readWide) (f_p0 := (va_up f_t_now ((((15 : Int) * p0) + (1 : Int))).toNat (0 : Int))) (n_p0 := 243) (hn_p0 := (by decide)) q11 h12) dX9_release_61 gX9_release_X9_hungOf rfl rfl rfl (by decide +kernel) ⟨Nat.le_of_ble_eq_true rfl, Nat.le_of_ble_eq_true rfl⟩ ⟨Nat.le_of_ble_eq_true rfl, Nat.le_of_ble_eq_true rfl⟩ (z_spl_of [0, 1, 2] rfl rfl) rfl rfl rfl rfl (Nat.le_of_ble_eq_true rfl) rfl (fun rv w9 hq => ?_)
        obtain ⟨rfl, rfl⟩ := hq
        refine z_ws [(a_t_diary, zI J 3402 q9.2.2), (a_t, .inr (8, [.int (zi q6.2), .int (zi c_t_high), .int (zi c_t_wide), .ref a_t_now, .ref a_t_trial, .ref a_t_diary, .int (zi q9.1), .int (zi q9.2.1), .ref a_t_kept, .ref a_t_isKept, .ref a_t_script, .int (zi c_t_scriptSize), .int (zi c_t_spot), .ref a_t_read, .int (zi c_t_readHigh), .int (zi c_t_readWide), .ref a_t_wanted, .ref a_t_level, .ref a_t_chosen, .ref a_t_best])), (a_t_now, zI J 243 (va_up f_t_now ((((15 : Int) * p0) + (1 : Int))).toNat (0 : Int)))] rfl ?_
        refine z_perm [(a_t, .inr (8, [.int (zi q6.2), .int (zi c_t_high), .int (zi c_t_wide), .ref a_t_now, .ref a_t_trial, .ref a_t_diary, .int (zi q9.1), .int (zi q9.2.1), .ref a_t_kept, .ref a_t_isKept, .ref a_t_script, .int (zi c_t_scriptSize), .int (zi c_t_spot), .ref a_t_read, .int (zi c_t_readHigh), .int (zi c_t_readWide), .ref a_t_wanted, .ref a_t_level, .ref a_t_chosen, .ref a_t_best])), (a_t_now, zI J 243 (va_up f_t_now ((((15 : Int) * p0) + (1 : Int))).toNat (0 : Int))), (a_t_diary, zI J 3402 q9.2.2)] [(0, .ref a_t), (1, .int (zi p0))] [1, 2, 0] [0, 1] rfl rfl rfl ?_
        cases hsh
        exact z_iret rfl dX9_release_64 ⟨rfl, rfl⟩
      · replace hsh := zif_f q hsh
        refine z_iconst (pc' := 39) dX9_release_38 rfl ?_
        refine z_perm [(a_t, .inr (8, [.int (zi q6.2), .int (zi c_t_high), .int (zi c_t_wide), .ref a_t_now, .ref a_t_trial, .ref a_t_diary, .int (zi c_t_acts), .int (zi c_t_next), .ref a_t_kept, .ref a_t_isKept, .ref a_t_script, .int (zi c_t_scriptSize), .int (zi c_t_spot), .ref a_t_read, .int (zi c_t_readHigh), .int (zi c_t_readWide), .ref a_t_wanted, .ref a_t_level, .ref a_t_chosen, .ref a_t_best])), (a_t_now, zI J 243 f_t_now), (a_t_diary, zI J 3402 f_t_diary)] [(0, .ref a_t), (1, .int (zi p0))] [2, 0, 1] [0, 1] rfl rfl rfl ?_
        cases hsh
        exact z_iret rfl dX9_release_39 ⟨rfl, rfl⟩
    · replace hsh := zif_t q hsh
      refine z_iconst (pc' := 28) dX9_release_27 rfl ?_
      refine z_goto (tgt := 32) dX9_release_28 (by decide) ?_
      obtain ⟨q13, h14, hsh⟩ := zbind hsh
      refine z_callV (pc' := 35) (C := RX9) (As := [.int (zi (2 : Int))]) (rest := []) (wr := [(a_t_now, zI J 243 f_t_now), (a_t_diary, zI J 3402 f_t_diary)]) 1 (zc_X9_refused l D J F (a_t := a_t) (a_t_now := a_t_now) (a_t_trial := a_t_trial) (a_t_diary := a_t_diary) (a_t_kept := a_t_kept) (a_t_isKept := a_t_isKept) (a_t_script := a_t_script) (a_t_read := a_t_read) (a_t_wanted := a_t_wanted) (a_t_level := a_t_level) (a_t_chosen := a_t_chosen) (a_t_best := a_t_best) (c_t_refusal := c_t_refusal) (c_t_high := c_t_high) (c_t_wide := c_t_wide) (c_t_acts := c_t_acts) (c_t_next := c_t_next) (c_t_scriptSize := c_t_scriptSize) (c_t_spot := c_t_spot) (c_t_readHigh := c_t_readHigh) (c_t_readWide := c_t_readWide) (p0 := (2 : Int))  q13 h14) dX9_release_32 gX9_release_X9_refused rfl rfl rfl (by decide +kernel) ⟨Nat.le_of_ble_eq_true rfl, Nat.le_of_ble_eq_true rfl⟩ ⟨Nat.le_of_ble_eq_true rfl, Nat.le_of_ble_eq_true rfl⟩ (z_spl_of [2, 0, 1] rfl rfl) rfl rfl rfl rfl (Nat.le_of_ble_eq_true rfl) rfl (fun rv w9 hq => ?_)
      obtain ⟨rfl, rfl⟩ := hq
      refine z_ws [(a_t_now, zI J 243 f_t_now), (a_t_diary, zI J 3402 f_t_diary), (a_t, .inr (8, [.int (zi q13.2), .int (zi c_t_high), .int (zi c_t_wide), .ref a_t_now, .ref a_t_trial, .ref a_t_diary, .int (zi c_t_acts), .int (zi c_t_next), .ref a_t_kept, .ref a_t_isKept, .ref a_t_script, .int (zi c_t_scriptSize), .int (zi c_t_spot), .ref a_t_read, .int (zi c_t_readHigh), .int (zi c_t_readWide), .ref a_t_wanted, .ref a_t_level, .ref a_t_chosen, .ref a_t_best]))] rfl ?_
      have g15 := zkr_p hsh
      replace hsh := zkr_k hsh
      refine z_if_eq (pc' := 38) (tgt := 40) dX9_release_35 (by decide) g15 rfl (fun q => ?_) (fun q => ?_)
      · replace hsh := zif_t q hsh
        refine z_aload_n (pc' := 41) 0 dX9_release_40 rfl rfl rfl ?_
        obtain ⟨q16, h17, hsh⟩ := zbind hsh
        refine z_callV (pc' := 44) (C := RX9) (As := []) (rest := []) (wr := []) 0 (zc_X9_note l D J F (a_t := a_t) (a_t_now := a_t_now) (a_t_trial := a_t_trial) (a_t_diary := a_t_diary) (a_t_kept := a_t_kept) (a_t_isKept := a_t_isKept) (a_t_script := a_t_script) (a_t_read := a_t_read) (a_t_wanted := a_t_wanted) (a_t_level := a_t_level) (a_t_chosen := a_t_chosen) (a_t_best := a_t_best) (c_t_refusal := q13.2) (c_t_high := c_t_high) (c_t_wide := c_t_wide) (c_t_acts := c_t_acts) (c_t_next := c_t_next) (c_t_scriptSize := c_t_scriptSize) (c_t_spot := c_t_spot) (c_t_readHigh := c_t_readHigh) (c_t_readWide := c_t_readWide) (f_t_now := f_t_now) (f_t_diary := f_t_diary)  q16 h17) dX9_release_41 gX9_release_X9_note rfl rfl rfl (by decide +kernel) ⟨Nat.le_of_ble_eq_true rfl, Nat.le_of_ble_eq_true rfl⟩ ⟨Nat.le_of_ble_eq_true rfl, Nat.le_of_ble_eq_true rfl⟩ (z_spl_of [2, 0, 1] rfl rfl) rfl rfl rfl rfl (Nat.le_of_ble_eq_true rfl) rfl (fun rv w9 hq => ?_)
        obtain ⟨rfl, rfl⟩ := hq
        refine z_ws [(a_t, .inr (8, [.int (zi q13.2), .int (zi c_t_high), .int (zi c_t_wide), .ref a_t_now, .ref a_t_trial, .ref a_t_diary, .int (zi q16.1), .int (zi q16.2.1), .ref a_t_kept, .ref a_t_isKept, .ref a_t_script, .int (zi c_t_scriptSize), .int (zi c_t_spot), .ref a_t_read, .int (zi c_t_readHigh), .int (zi c_t_readWide), .ref a_t_wanted, .ref a_t_level, .ref a_t_chosen, .ref a_t_best])), (a_t_now, zI J 243 f_t_now), (a_t_diary, zI J 3402 q16.2.2)] rfl ?_
        refine z_aload_n (pc' := 45) 0 dX9_release_44 rfl rfl rfl ?_
        refine z_getfield (pc' := 48) (C := RX9) (T := TX9) (N := 20) 0 3 dX9_release_45 iX9_release_X9 rfl rfl (by decide) mX9_release_f16 rfl rfl ?_
        refine z_bipush (pc' := 50) dX9_release_48 (by decide) rfl ?_
        refine z_iload_n (pc' := 51) 1 dX9_release_50 rfl rfl rfl ?_
        refine z_imul (pc' := 52) dX9_release_51 rfl ?_
        refine z_iconst (pc' := 53) dX9_release_52 rfl ?_
        refine z_iadd (pc' := 54) dX9_release_53 rfl ?_
        refine z_iconst (pc' := 55) dX9_release_54 rfl ?_
        refine z_iastore (pc' := 56) 1 [(a_t, .inr (8, [.int (zi q13.2), .int (zi c_t_high), .int (zi c_t_wide), .ref a_t_now, .ref a_t_trial, .ref a_t_diary, .int (zi q16.1), .int (zi q16.2.1), .ref a_t_kept, .ref a_t_isKept, .ref a_t_script, .int (zi c_t_scriptSize), .int (zi c_t_spot), .ref a_t_read, .int (zi c_t_readHigh), .int (zi c_t_readWide), .ref a_t_wanted, .ref a_t_level, .ref a_t_chosen, .ref a_t_best])), (a_t_now, zI J 243 (va_up f_t_now ((((15 : Int) * p0) + (1 : Int))).toNat (0 : Int))), (a_t_diary, zI J 3402 q16.2.2)] dX9_release_55 rfl (by decide) g4 rfl rfl ?_
        refine z_aload_n (pc' := 57) 0 dX9_release_56 rfl rfl rfl ?_
        refine z_aload_n (pc' := 58) 0 dX9_release_57 rfl rfl rfl ?_
        refine z_getfield (pc' := 61) (C := RX9) (T := TX9) (N := 20) 0 3 dX9_release_58 iX9_release_X9 rfl rfl (by decide) mX9_release_f16 rfl rfl ?_
        obtain ⟨q18, h19, hsh⟩ := zbind hsh
        refine z_callV (pc' := 64) (C := RX9) (As := [.ref a_t_now]) (rest := []) (wr := [(a_t_diary, zI J 3402 q16.2.2)]) 1 (zc_X9_hungOf l D J F (a_t := a_t) (a_p0 := a_t_now) (a_t_now := a_t_now) (a_t_trial := a_t_trial) (a_t_diary := a_t_diary) (a_t_kept := a_t_kept) (a_t_isKept := a_t_isKept) (a_t_script := a_t_script) (a_t_read := a_t_read) (a_t_wanted := a_t_wanted) (a_t_level := a_t_level) (a_t_chosen := a_t_chosen) (a_t_best := a_t_best) (c_t_refusal := q13.2) (c_t_high := c_t_high) (c_t_wide := c_t_wide) (c_t_acts := q16.1) (c_t_next := q16.2.1) (c_t_scriptSize := c_t_scriptSize) (c_t_spot := c_t_spot) (c_t_readHigh := c_t_readHigh) (c_t_readWide := c_t_readWide) (f_p0 := (va_up f_t_now ((((15 : Int) * p0) + (1 : Int))).toNat (0 : Int))) (n_p0 := 243) (hn_p0 := (by decide)) q18 h19) dX9_release_61 gX9_release_X9_hungOf rfl rfl rfl (by decide +kernel) ⟨Nat.le_of_ble_eq_true rfl, Nat.le_of_ble_eq_true rfl⟩ ⟨Nat.le_of_ble_eq_true rfl, Nat.le_of_ble_eq_true rfl⟩ (z_spl_of [0, 1, 2] rfl rfl) rfl rfl rfl rfl (Nat.le_of_ble_eq_true rfl) rfl (fun rv w9 hq => ?_)
        obtain ⟨rfl, rfl⟩ := hq
        refine z_ws [(a_t_diary, zI J 3402 q16.2.2), (a_t, .inr (8, [.int (zi q13.2), .int (zi c_t_high), .int (zi c_t_wide), .ref a_t_now, .ref a_t_trial, .ref a_t_diary, .int (zi q16.1), .int (zi q16.2.1), .ref a_t_kept, .ref a_t_isKept, .ref a_t_script, .int (zi c_t_scriptSize), .int (zi c_t_spot), .ref a_t_read, .int (zi c_t_readHigh), .int (zi c_t_readWide), .ref a_t_wanted, .ref a_t_level, .ref a_t_chosen, .ref a_t_best])), (a_t_now, zI J 243 (va_up f_t_now ((((15 : Int) * p0) + (1 : Int))).toNat (0 : Int)))] rfl ?_
        refine z_perm [(a_t, .inr (8, [.int (zi q13.2), .int (zi c_t_high), .int (zi c_t_wide), .ref a_t_now, .ref a_t_trial, .ref a_t_diary, .int (zi q16.1), .int (zi q16.2.1), .ref a_t_kept, .ref a_t_isKept, .ref a_t_script, .int (zi c_t_scriptSize), .int (zi c_t_spot), .ref a_t_read, .int (zi c_t_readHigh), .int (zi c_t_readWide), .ref a_t_wanted, .ref a_t_level, .ref a_t_chosen, .ref a_t_best])), (a_t_now, zI J 243 (va_up f_t_now ((((15 : Int) * p0) + (1 : Int))).toNat (0 : Int))), (a_t_diary, zI J 3402 q16.2.2)] [(0, .ref a_t), (1, .int (zi p0))] [1, 2, 0] [0, 1] rfl rfl rfl ?_
        cases hsh
        exact z_iret rfl dX9_release_64 ⟨rfl, rfl⟩
      · replace hsh := zif_f q hsh
        refine z_iconst (pc' := 39) dX9_release_38 rfl ?_
        refine z_perm [(a_t, .inr (8, [.int (zi q13.2), .int (zi c_t_high), .int (zi c_t_wide), .ref a_t_now, .ref a_t_trial, .ref a_t_diary, .int (zi c_t_acts), .int (zi c_t_next), .ref a_t_kept, .ref a_t_isKept, .ref a_t_script, .int (zi c_t_scriptSize), .int (zi c_t_spot), .ref a_t_read, .int (zi c_t_readHigh), .int (zi c_t_readWide), .ref a_t_wanted, .ref a_t_level, .ref a_t_chosen, .ref a_t_best])), (a_t_now, zI J 243 f_t_now), (a_t_diary, zI J 3402 f_t_diary)] [(0, .ref a_t), (1, .int (zi p0))] [2, 0, 1] [0, 1] rfl rfl rfl ?_
        cases hsh
        exact z_iret rfl dX9_release_39 ⟨rfl, rfl⟩
  · replace hsh := zif_t q hsh
    refine z_iconst (pc' := 10) dX9_release_9 rfl ?_
    refine z_goto (tgt := 32) dX9_release_10 (by decide) ?_
    obtain ⟨q20, h21, hsh⟩ := zbind hsh
    refine z_callV (pc' := 35) (C := RX9) (As := [.int (zi (1 : Int))]) (rest := []) (wr := [(a_t_now, zI J 243 f_t_now), (a_t_diary, zI J 3402 f_t_diary)]) 1 (zc_X9_refused l D J F (a_t := a_t) (a_t_now := a_t_now) (a_t_trial := a_t_trial) (a_t_diary := a_t_diary) (a_t_kept := a_t_kept) (a_t_isKept := a_t_isKept) (a_t_script := a_t_script) (a_t_read := a_t_read) (a_t_wanted := a_t_wanted) (a_t_level := a_t_level) (a_t_chosen := a_t_chosen) (a_t_best := a_t_best) (c_t_refusal := c_t_refusal) (c_t_high := c_t_high) (c_t_wide := c_t_wide) (c_t_acts := c_t_acts) (c_t_next := c_t_next) (c_t_scriptSize := c_t_scriptSize) (c_t_spot := c_t_spot) (c_t_readHigh := c_t_readHigh) (c_t_readWide := c_t_readWide) (p0 := (1 : Int))  q20 h21) dX9_release_32 gX9_release_X9_refused rfl rfl rfl (by decide +kernel) ⟨Nat.le_of_ble_eq_true rfl, Nat.le_of_ble_eq_true rfl⟩ ⟨Nat.le_of_ble_eq_true rfl, Nat.le_of_ble_eq_true rfl⟩ (z_spl_of [2, 0, 1] rfl rfl) rfl rfl rfl rfl (Nat.le_of_ble_eq_true rfl) rfl (fun rv w9 hq => ?_)
    obtain ⟨rfl, rfl⟩ := hq
    refine z_ws [(a_t_now, zI J 243 f_t_now), (a_t_diary, zI J 3402 f_t_diary), (a_t, .inr (8, [.int (zi q20.2), .int (zi c_t_high), .int (zi c_t_wide), .ref a_t_now, .ref a_t_trial, .ref a_t_diary, .int (zi c_t_acts), .int (zi c_t_next), .ref a_t_kept, .ref a_t_isKept, .ref a_t_script, .int (zi c_t_scriptSize), .int (zi c_t_spot), .ref a_t_read, .int (zi c_t_readHigh), .int (zi c_t_readWide), .ref a_t_wanted, .ref a_t_level, .ref a_t_chosen, .ref a_t_best]))] rfl ?_
    have g22 := zkr_p hsh
    replace hsh := zkr_k hsh
    refine z_if_eq (pc' := 38) (tgt := 40) dX9_release_35 (by decide) g22 rfl (fun q => ?_) (fun q => ?_)
    · replace hsh := zif_t q hsh
      refine z_aload_n (pc' := 41) 0 dX9_release_40 rfl rfl rfl ?_
      obtain ⟨q23, h24, hsh⟩ := zbind hsh
      refine z_callV (pc' := 44) (C := RX9) (As := []) (rest := []) (wr := []) 0 (zc_X9_note l D J F (a_t := a_t) (a_t_now := a_t_now) (a_t_trial := a_t_trial) (a_t_diary := a_t_diary) (a_t_kept := a_t_kept) (a_t_isKept := a_t_isKept) (a_t_script := a_t_script) (a_t_read := a_t_read) (a_t_wanted := a_t_wanted) (a_t_level := a_t_level) (a_t_chosen := a_t_chosen) (a_t_best := a_t_best) (c_t_refusal := q20.2) (c_t_high := c_t_high) (c_t_wide := c_t_wide) (c_t_acts := c_t_acts) (c_t_next := c_t_next) (c_t_scriptSize := c_t_scriptSize) (c_t_spot := c_t_spot) (c_t_readHigh := c_t_readHigh) (c_t_readWide := c_t_readWide) (f_t_now := f_t_now) (f_t_diary := f_t_diary)  q23 h24) dX9_release_41 gX9_release_X9_note rfl rfl rfl (by decide +kernel) ⟨Nat.le_of_ble_eq_true rfl, Nat.le_of_ble_eq_true rfl⟩ ⟨Nat.le_of_ble_eq_true rfl, Nat.le_of_ble_eq_true rfl⟩ (z_spl_of [2, 0, 1] rfl rfl) rfl rfl rfl rfl (Nat.le_of_ble_eq_true rfl) rfl (fun rv w9 hq => ?_)
      obtain ⟨rfl, rfl⟩ := hq
      refine z_ws [(a_t, .inr (8, [.int (zi q20.2), .int (zi c_t_high), .int (zi c_t_wide), .ref a_t_now, .ref a_t_trial, .ref a_t_diary, .int (zi q23.1), .int (zi q23.2.1), .ref a_t_kept, .ref a_t_isKept, .ref a_t_script, .int (zi c_t_scriptSize), .int (zi c_t_spot), .ref a_t_read, .int (zi c_t_readHigh), .int (zi c_t_readWide), .ref a_t_wanted, .ref a_t_level, .ref a_t_chosen, .ref a_t_best])), (a_t_now, zI J 243 f_t_now), (a_t_diary, zI J 3402 q23.2.2)] rfl ?_
      refine z_aload_n (pc' := 45) 0 dX9_release_44 rfl rfl rfl ?_
      refine z_getfield (pc' := 48) (C := RX9) (T := TX9) (N := 20) 0 3 dX9_release_45 iX9_release_X9 rfl rfl (by decide) mX9_release_f16 rfl rfl ?_
      refine z_bipush (pc' := 50) dX9_release_48 (by decide) rfl ?_
      refine z_iload_n (pc' := 51) 1 dX9_release_50 rfl rfl rfl ?_
      refine z_imul (pc' := 52) dX9_release_51 rfl ?_
      refine z_iconst (pc' := 53) dX9_release_52 rfl ?_
      refine z_iadd (pc' := 54) dX9_release_53 rfl ?_
      refine z_iconst (pc' := 55) dX9_release_54 rfl ?_
      have g25 := zkx_p hsh
      replace hsh := zkx_k hsh
      refine z_iastore (pc' := 56) 1 [(a_t, .inr (8, [.int (zi q20.2), .int (zi c_t_high), .int (zi c_t_wide), .ref a_t_now, .ref a_t_trial, .ref a_t_diary, .int (zi q23.1), .int (zi q23.2.1), .ref a_t_kept, .ref a_t_isKept, .ref a_t_script, .int (zi c_t_scriptSize), .int (zi c_t_spot), .ref a_t_read, .int (zi c_t_readHigh), .int (zi c_t_readWide), .ref a_t_wanted, .ref a_t_level, .ref a_t_chosen, .ref a_t_best])), (a_t_now, zI J 243 (va_up f_t_now ((((15 : Int) * p0) + (1 : Int))).toNat (0 : Int))), (a_t_diary, zI J 3402 q23.2.2)] dX9_release_55 rfl (by decide) g25 rfl rfl ?_
      refine z_aload_n (pc' := 57) 0 dX9_release_56 rfl rfl rfl ?_
      refine z_aload_n (pc' := 58) 0 dX9_release_57 rfl rfl rfl ?_
      refine z_getfield (pc' := 61) (C := RX9) (T := TX9) (N := 20) 0 3 dX9_release_58 iX9_release_X9 rfl rfl (by decide) mX9_release_f16 rfl rfl ?_
      obtain ⟨q26, h27, hsh⟩ := zbind hsh
      refine z_callV (pc' := 64) (C := RX9) (As := [.ref a_t_now]) (rest := []) (wr := [(a_t_diary, zI J 3402 q23.2.2)]) 1 (zc_X9_hungOf l D J F (a_t := a_t) (a_p0 := a_t_now) (a_t_now := a_t_now) (a_t_trial := a_t_trial) (a_t_diary := a_t_diary) (a_t_kept := a_t_kept) (a_t_isKept := a_t_isKept) (a_t_script := a_t_script) (a_t_read := a_t_read) (a_t_wanted := a_t_wanted) (a_t_level := a_t_level) (a_t_chosen := a_t_chosen) (a_t_best := a_t_best) (c_t_refusal := q20.2) (c_t_high := c_t_high) (c_t_wide := c_t_wide) (c_t_acts := q23.1) (c_t_next := q23.2.1) (c_t_scriptSize := c_t_scriptSize) (c_t_spot := c_t_spot) (c_t_readHigh := c_t_readHigh) (c_t_readWide := c_t_readWide) (f_p0 := (va_up f_t_now ((((15 : Int) * p0) + (1 : Int))).toNat (0 : Int))) (n_p0 := 243) (hn_p0 := (by decide)) q26 h27) dX9_release_61 gX9_release_X9_hungOf rfl rfl rfl (by decide +kernel) ⟨Nat.le_of_ble_eq_true rfl, Nat.le_of_ble_eq_true rfl⟩ ⟨Nat.le_of_ble_eq_true rfl, Nat.le_of_ble_eq_true rfl⟩ (z_spl_of [0, 1, 2] rfl rfl) rfl rfl rfl rfl (Nat.le_of_ble_eq_true rfl) rfl (fun rv w9 hq => ?_)
      obtain ⟨rfl, rfl⟩ := hq
      refine z_ws [(a_t_diary, zI J 3402 q23.2.2), (a_t, .inr (8, [.int (zi q20.2), .int (zi c_t_high), .int (zi c_t_wide), .ref a_t_now, .ref a_t_trial, .ref a_t_diary, .int (zi q23.1), .int (zi q23.2.1), .ref a_t_kept, .ref a_t_isKept, .ref a_t_script, .int (zi c_t_scriptSize), .int (zi c_t_spot), .ref a_t_read, .int (zi c_t_readHigh), .int (zi c_t_readWide), .ref a_t_wanted, .ref a_t_level, .ref a_t_chosen, .ref a_t_best])), (a_t_now, zI J 243 (va_up f_t_now ((((15 : Int) * p0) + (1 : Int))).toNat (0 : Int)))] rfl ?_
      refine z_perm [(a_t, .inr (8, [.int (zi q20.2), .int (zi c_t_high), .int (zi c_t_wide), .ref a_t_now, .ref a_t_trial, .ref a_t_diary, .int (zi q23.1), .int (zi q23.2.1), .ref a_t_kept, .ref a_t_isKept, .ref a_t_script, .int (zi c_t_scriptSize), .int (zi c_t_spot), .ref a_t_read, .int (zi c_t_readHigh), .int (zi c_t_readWide), .ref a_t_wanted, .ref a_t_level, .ref a_t_chosen, .ref a_t_best])), (a_t_now, zI J 243 (va_up f_t_now ((((15 : Int) * p0) + (1 : Int))).toNat (0 : Int))), (a_t_diary, zI J 3402 q23.2.2)] [(0, .ref a_t), (1, .int (zi p0))] [1, 2, 0] [0, 1] rfl rfl rfl ?_
      cases hsh
      exact z_iret rfl dX9_release_64 ⟨rfl, rfl⟩
    · replace hsh := zif_f q hsh
      refine z_iconst (pc' := 39) dX9_release_38 rfl ?_
      refine z_perm [(a_t, .inr (8, [.int (zi q20.2), .int (zi c_t_high), .int (zi c_t_wide), .ref a_t_now, .ref a_t_trial, .ref a_t_diary, .int (zi c_t_acts), .int (zi c_t_next), .ref a_t_kept, .ref a_t_isKept, .ref a_t_script, .int (zi c_t_scriptSize), .int (zi c_t_spot), .ref a_t_read, .int (zi c_t_readHigh), .int (zi c_t_readWide), .ref a_t_wanted, .ref a_t_level, .ref a_t_chosen, .ref a_t_best])), (a_t_now, zI J 243 f_t_now), (a_t_diary, zI J 3402 f_t_diary)] [(0, .ref a_t), (1, .int (zi p0))] [2, 0, 1] [0, 1] rfl rfl rfl ?_
      cases hsh
      exact z_iret rfl dX9_release_39 ⟨rfl, rfl⟩
