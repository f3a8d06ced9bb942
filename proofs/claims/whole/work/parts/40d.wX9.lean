def sh_X9_hang (F : Nat) (c_t_high : Int) (c_t_wide : Int) (c_t_acts : Int) (c_t_next : Int) (f_t_now : Nat → Int) (f_t_diary : Nat → Int) (p0 : Int) : Option (Int × Int × Int × Int × (Nat → Int) × (Nat → Int)) := (sh_X9_isPoint F c_t_high c_t_wide p0).bind (fun (q1 : Int) => zkr q1 (if q1 = (0 : Int) then (sh_X9_refused F (1 : Int)).bind (fun (q20 : Int × Int) => zkr q20.1 (if q20.1 = (0 : Int) then (sh_X9_note F c_t_acts c_t_next f_t_now f_t_diary).bind (fun (q23 : Int × Int × (Nat → Int)) => zkx (((15 : Int) * p0) + (1 : Int)) 243 ((sh_X9_hungOf F c_t_high c_t_wide (va_up f_t_now ((((15 : Int) * p0) + (1 : Int))).toNat (1 : Int)) 243).bind (fun (q26 : Int) => some (q26, q20.2, q23.1, q23.2.1, (va_up f_t_now ((((15 : Int) * p0) + (1 : Int))).toNat (1 : Int)), q23.2.2)))) else some ((0 : Int), q20.2, c_t_acts, c_t_next, f_t_now, f_t_diary))) else zkx (((15 : Int) * p0) + (1 : Int)) 243 (zkr (f_t_now ((((15 : Int) * p0) + (1 : Int))).toNat) (if (f_t_now ((((15 : Int) * p0) + (1 : Int))).toNat) = (1 : Int) then (sh_X9_refused F (2 : Int)).bind (fun (q13 : Int × Int) => zkr q13.1 (if q13.1 = (0 : Int) then (sh_X9_note F c_t_acts c_t_next f_t_now f_t_diary).bind (fun (q16 : Int × Int × (Nat → Int)) => (sh_X9_hungOf F c_t_high c_t_wide (va_up f_t_now ((((15 : Int) * p0) + (1 : Int))).toNat (1 : Int)) 243).bind (fun (q18 : Int) => some (q18, q13.2, q16.1, q16.2.1, (va_up f_t_now ((((15 : Int) * p0) + (1 : Int))).toNat (1 : Int)), q16.2.2))) else some ((0 : Int), q13.2, c_t_acts, c_t_next, f_t_now, f_t_diary))) else (sh_X9_refused F (0 : Int)).bind (fun (q6 : Int × Int) => zkr q6.1 (if q6.1 = (0 : Int) then (sh_X9_note F c_t_acts c_t_next f_t_now f_t_diary).bind (fun (q9 : Int × Int × (Nat → Int)) => (sh_X9_hungOf F c_t_high c_t_wide (va_up f_t_now ((((15 : Int) * p0) + (1 : Int))).toNat (1 : Int)) 243).bind (fun (q11 : Int) => some (q11, q6.2, q9.1, q9.2.1, (va_up f_t_now ((((15 : Int) * p0) + (1 : Int))).toNat (1 : Int)), q9.2.2))) else some ((0 : Int), q6.2, c_t_acts, c_t_next, f_t_now, f_t_diary)))))))
theorem mX9_hang_f16 : Cond.fieldLink RX9 16 (TX9 3).1 (TX9 3).2.1 (TX9 3).2.2.1 ∈ wsX9_hang := List.mem_of_getElem? (i := 1) rfl
theorem iX9_hang_X9 : ∀ w ∈ wsX90, w ∈ wsX9_hang := fun _ h => (List.mem_cons_of_mem _ (List.mem_append_right _ h))
set_option maxRecDepth 100000 in
set_option maxHeartbeats 4000000 in
theorem zc_X9_hang (l : Launch) (D : va_G) (J : Nat → ClassId) (F : Nat) (a_t : Nat) (a_t_now : Nat) (a_t_trial : Nat) (a_t_diary : Nat) (a_t_kept : Nat) (a_t_isKept : Nat) (a_t_script : Nat) (a_t_read : Nat) (a_t_wanted : Nat) (a_t_level : Nat) (a_t_chosen : Nat) (a_t_best : Nat) (c_t_refusal : Int) (c_t_high : Int) (c_t_wide : Int) (c_t_acts : Int) (c_t_next : Int) (c_t_scriptSize : Int) (c_t_spot : Int) (c_t_readHigh : Int) (c_t_readWide : Int) (f_t_now : Nat → Int) (f_t_diary : Nat → Int) (p0 : Int) (res : Int × Int × Int × Int × (Nat → Int) × (Nat → Int)) (hsh : sh_X9_hang F c_t_high c_t_wide c_t_acts c_t_next f_t_now f_t_diary p0 = some res) : ZM l D J yX9_hang wsX9_hang ({ frames := 2, cells := 0, slots := 0, locals := 46 } : Room) 0 0 [.ref a_t, .int (zi p0)] [(a_t, .inr (8, [.int (zi c_t_refusal), .int (zi c_t_high), .int (zi c_t_wide), .ref a_t_now, .ref a_t_trial, .ref a_t_diary, .int (zi c_t_acts), .int (zi c_t_next), .ref a_t_kept, .ref a_t_isKept, .ref a_t_script, .int (zi c_t_scriptSize), .int (zi c_t_spot), .ref a_t_read, .int (zi c_t_readHigh), .int (zi c_t_readWide), .ref a_t_wanted, .ref a_t_level, .ref a_t_chosen, .ref a_t_best])), (a_t_now, zI J 243 f_t_now), (a_t_diary, zI J 3402 f_t_diary)] (fun rv w9 => rv = some (.int (zi res.1)) ∧ w9 = [(a_t, .inr (8, [.int (zi res.2.1), .int (zi c_t_high), .int (zi c_t_wide), .ref a_t_now, .ref a_t_trial, .ref a_t_diary, .int (zi res.2.2.1), .int (zi res.2.2.2.1), .ref a_t_kept, .ref a_t_isKept, .ref a_t_script, .int (zi c_t_scriptSize), .int (zi c_t_spot), .ref a_t_read, .int (zi c_t_readHigh), .int (zi c_t_readWide), .ref a_t_wanted, .ref a_t_level, .ref a_t_chosen, .ref a_t_best])), (a_t_now, zI J 243 res.2.2.2.2.1), (a_t_diary, zI J 3402 res.2.2.2.2.2)]) := by
  refine z_ofZ (cc := cX9_hang) (maxL := 2) (ret := (some .int)) 0 0 (by decide) rfl (Nat.le_of_ble_eq_true rfl) [(0, .ref a_t), (1, .int (zi p0))] rfl ?_
  intro p e s m args below meth c A
  unfold sh_X9_hang at hsh
  refine z_aload_n (pc' := 1) 0 dX9_hang_0 rfl rfl rfl ?_
  refine z_aload_n (pc' := 2) 0 dX9_hang_1 rfl rfl rfl ?_
  refine z_iload_n (pc' := 3) 1 dX9_hang_2 rfl rfl rfl ?_
  obtain ⟨q1, h2, hsh⟩ := zbind hsh
  refine z_callV (pc' := 6) (C := RX9) (As := [.int (zi p0)]) (rest := [.ref a_t]) (wr := [(a_t_now, zI J 243 f_t_now), (a_t_diary, zI J 3402 f_t_diary)]) 1 (zc_X9_isPoint l D J F (a_t := a_t) (a_t_now := a_t_now) (a_t_trial := a_t_trial) (a_t_diary := a_t_diary) (a_t_kept := a_t_kept) (a_t_isKept := a_t_isKept) (a_t_script := a_t_script) (a_t_read := a_t_read) (a_t_wanted := a_t_wanted) (a_t_level := a_t_level) (a_t_chosen := a_t_chosen) (a_t_best := a_t_best) (c_t_refusal := c_t_refusal) (c_t_high := c_t_high) (c_t_wide := c_t_wide) (c_t_acts := c_t_acts) (c_t_next := c_t_next) (c_t_scriptSize := c_t_scriptSize) (c_t_spot := c_t_spot) (c_t_readHigh := c_t_readHigh) (c_t_readWide := c_t_readWide) (p0 := p0)  q1 h2) dX9_hang_3 gX9_hang_X9_isPoint rfl rfl rfl (by decide +kernel) ⟨Nat.le_of_ble_eq_true rfl, Nat.le_of_ble_eq_true rfl⟩ ⟨Nat.le_of_ble_eq_true rfl, Nat.le_of_ble_eq_true rfl⟩ (z_spl_of [0, 1, 2] rfl rfl) rfl rfl rfl rfl (Nat.le_of_ble_eq_true rfl) rfl (fun rv w9 hq => ?_)
  obtain ⟨rfl, rfl⟩ := hq
  refine z_ws [(a_t_now, zI J 243 f_t_now), (a_t_diary, zI J 3402 f_t_diary), (a_t, .inr (8, [.int (zi c_t_refusal), .int (zi c_t_high), .int (zi c_t_wide), .ref a_t_now, .ref a_t_trial, .ref a_t_diary, .int (zi c_t_acts), .int (zi c_t_next), .ref a_t_kept, .ref a_t_isKept, .ref a_t_script, .int (zi c_t_scriptSize), .int (zi c_t_spot), .ref a_t_read, .int (zi c_t_readHigh), .int (zi c_t_readWide), .ref a_t_wanted, .ref a_t_level, .ref a_t_chosen, .ref a_t_best]))] rfl ?_
  have g3 := zkr_p hsh
  replace hsh := zkr_k hsh
  refine z_if_ne (pc' := 9) (tgt := 13) dX9_hang_6 (by decide) g3 rfl (fun q => ?_) (fun q => ?_)
  · replace hsh := zif_f q hsh
    refine z_aload_n (pc' := 14) 0 dX9_hang_13 rfl rfl rfl ?_
    refine z_getfield (pc' := 17) (C := RX9) (T := TX9) (N := 20) 2 3 dX9_hang_14 iX9_hang_X9 rfl rfl (by decide) mX9_hang_f16 rfl rfl ?_
    refine z_bipush (pc' := 19) dX9_hang_17 (by decide) rfl ?_
    refine z_iload_n (pc' := 20) 1 dX9_hang_19 rfl rfl rfl ?_
    refine z_imul (pc' := 21) dX9_hang_20 rfl ?_
    refine z_iconst (pc' := 22) dX9_hang_21 rfl ?_
    refine z_iadd (pc' := 23) dX9_hang_22 rfl ?_
    have g4 := zkx_p hsh
    replace hsh := zkx_k hsh
    refine z_iaload (pc' := 24) 0 dX9_hang_23 rfl (by decide) g4 rfl ?_
    refine z_iconst (pc' := 25) dX9_hang_24 rfl ?_
    have g5 := zkr_p hsh
    replace hsh := zkr_k hsh
    refine z_icmp_ne (pc' := 28) (tgt := 32) dX9_hang_25 (by decide) g5 (by decide) rfl (fun q => ?_) (fun q => ?_)
    · replace hsh := zif_f q hsh
      refine z_iconst (pc' := 33) dX9_hang_32 rfl ?_
      obtain ⟨q6, h7, hsh⟩ := zbind hsh
      refine z_callV (pc' := 36) (C := RX9) (As := [.int (zi (0 : Int))]) (rest := []) (wr := [(a_t_now, zI J 243 f_t_now), (a_t_diary, zI J 3402 f_t_diary)]) 1 (zc_X9_refused l D J F (a_t := a_t) (a_t_now := a_t_now) (a_t_trial := a_t_trial) (a_t_diary := a_t_diary) (a_t_kept := a_t_kept) (a_t_isKept := a_t_isKept) (a_t_script := a_t_script) (a_t_read := a_t_read) (a_t_wanted := a_t_wanted) (a_t_level := a_t_level) (a_t_chosen := a_t_chosen) (a_t_best := a_t_best) (c_t_refusal := c_t_refusal) (c_t_high := c_t_high) (c_t_wide := c_t_wide) (c_t_acts := c_t_acts) (c_t_next := c_t_next) (c_t_scriptSize := c_t_scriptSize) (c_t_spot := c_t_spot) (c_t_readHigh := c_t_readHigh) (c_t_readWide := c_t_readWide) (p0 := (0 : Int))  q6 h7) dX9_hang_33 gX9_hang_X9_refused rfl rfl rfl (by decide +kernel) ⟨Nat.le_of_ble_eq_true rfl, Nat.le_of_ble_eq_true rfl⟩ ⟨Nat.le_of_ble_eq_true rfl, Nat.le_of_ble_eq_true rfl⟩ (z_spl_of [2, 0, 1] rfl rfl) rfl rfl rfl rfl (Nat.le_of_ble_eq_true rfl) rfl (fun rv w9 hq => ?_)
      obtain ⟨rfl, rfl⟩ := hq
      refine z_ws [(a_t_now, zI J 243 f_t_now), (a_t_diary, zI J 3402 f_t_diary), (a_t, .inr (8, [.int (zi q6.2), .int (zi c_t_high), .int (zi c_t_wide), .ref a_t_now, .ref a_t_trial, .ref a_t_diary, .int (zi c_t_acts), .int (zi c_t_next), .ref a_t_kept, .ref a_t_isKept, .ref a_t_script, .int (zi c_t_scriptSize), .int (zi c_t_spot), .ref a_t_read, .int (zi c_t_readHigh), .int (zi c_t_readWide), .ref a_t_wanted, .ref a_t_level, .ref a_t_chosen, .ref a_t_best]))] rfl ?_
      have g8 := zkr_p hsh
      replace hsh := zkr_k hsh
      refine z_if_eq (pc' := 39) (tgt := 41) dX9_hang_36 (by decide) g8 rfl (fun q => ?_) (fun q => ?_)
      · replace hsh := zif_t q hsh
        refine z_aload_n (pc' := 42) 0 dX9_hang_41 rfl rfl rfl ?_
        obtain ⟨q9, h10, hsh⟩ := zbind hsh
        refine z_callV (pc' := 45) (C := RX9) (As := []) (rest := []) (wr := []) 0 (zc_X9_note l D J F (a_t := a_t) (a_t_now := a_t_now) (a_t_trial := a_t_trial) (a_t_diary := a_t_diary) (a_t_kept := a_t_kept) (a_t_isKept := a_t_isKept) (a_t_script := a_t_script) (a_t_read := a_t_read) (a_t_wanted := a_t_wanted) (a_t_level := a_t_level) (a_t_chosen := a_t_chosen) (a_t_best := a_t_best) (c_t_refusal := q6.2) (c_t_high := c_t_high) (c_t_wide := c_t_wide) (c_t_acts := c_t_acts) (c_t_next := c_t_next) (c_t_scriptSize := c_t_scriptSize) (c_t_spot := c_t_spot) (c_t_readHigh := c_t_readHigh) (c_t_readWide := c_t_readWide) (f_t_now := f_t_now) (f_t_diary := f_t_diary)  q9 h10) dX9_hang_42 gX9_hang_X9_note rfl rfl rfl (by decide +kernel) ⟨Nat.le_of_ble_eq_true rfl, Nat.le_of_ble_eq_true rfl⟩ ⟨Nat.le_of_ble_eq_true rfl, Nat.le_of_ble_eq_true rfl⟩ (z_spl_of [2, 0, 1] rfl rfl) rfl rfl rfl rfl (Nat.le_of_ble_eq_true rfl) rfl (fun rv w9 hq => ?_)
        obtain ⟨rfl, rfl⟩ := hq
        refine z_ws [(a_t, .inr (8, [.int (zi q6.2), .int (zi c_t_high), .int (zi c_t_wide), .ref a_t_now, .ref a_t_trial, .ref a_t_diary, .int (zi q9.1), .int (zi q9.2.1), .ref a_t_kept, .ref a_t_isKept, .ref a_t_script, .int (zi c_t_scriptSize), .int (zi c_t_spot), .ref a_t_read, .int (zi c_t_readHigh), .int (zi c_t_readWide), .ref a_t_wanted, .ref a_t_level, .ref a_t_chosen, .ref a_t_best])), (a_t_now, zI J 243 f_t_now), (a_t_diary, zI J 3402 q9.2.2)] rfl ?_
        refine z_aload_n (pc' := 46) 0 dX9_hang_45 rfl rfl rfl ?_
        refine z_getfield (pc' := 49) (C := RX9) (T := TX9) (N := 20) 0 3 dX9_hang_46 iX9_hang_X9 rfl rfl (by decide) mX9_hang_f16 rfl rfl ?_
        refine z_bipush (pc' := 51) dX9_hang_49 (by decide) rfl ?_
        refine z_iload_n (pc' := 52) 1 dX9_hang_51 rfl rfl rfl ?_
        refine z_imul (pc' := 53) dX9_hang_52 rfl ?_
        refine z_iconst (pc' := 54) dX9_hang_53 rfl ?_
        refine z_iadd (pc' := 55) dX9_hang_54 rfl ?_
        refine z_iconst (pc' := 56) dX9_hang_55 rfl ?_
        refine z_iastore (pc' := 57) 1 [(a_t, .inr (8, [.int (zi q6.2), .int (zi c_t_high), .int (zi c_t_wide), .ref a_t_now, .ref a_t_trial, .ref a_t_diary, .int (zi q9.1), .int (zi q9.2.1), .ref a_t_kept, .ref a_t_isKept, .ref a_t_script, .int (zi c_t_scriptSize), .int (zi c_t_spot), .ref a_t_read, .int (zi c_t_readHigh), .int (zi c_t_readWide), .ref a_t_wanted, .ref a_t_level, .ref a_t_chosen, .ref a_t_best])), (a_t_now, zI J 243 (va_up f_t_now ((((15 : Int) * p0) + (1 : Int))).toNat (1 : Int))), (a_t_diary, zI J 3402 q9.2.2)] dX9_hang_56 rfl (by decide) g4 rfl rfl ?_
        refine z_aload_n (pc' := 58) 0 dX9_hang_57 rfl rfl rfl ?_
        refine z_aload_n (pc' := 59) 0 dX9_hang_58 rfl rfl rfl ?_
        refine z_getfield (pc' := 62) (C := RX9) (T := TX9) (N := 20) 0 3 dX9_hang_59 iX9_hang_X9 rfl rfl (by decide) mX9_hang_f16 rfl rfl ?_
        obtain ⟨q11, h12, hsh⟩ := zbind hsh
        refine z_callV (pc' := 65) (C := RX9) (As := [.ref a_t_now]) (rest := []) (wr := [(a_t_diary, zI J 3402 q9.2.2)]) 1 (zc_X9_hungOf l D J F (a_t := a_t) (a_p0 := a_t_now) (a_t_now := a_t_now) (a_t_trial := a_t_trial) (a_t_diary := a_t_diary) (a_t_kept := a_t_kept) (a_t_isKept := a_t_isKept) (a_t_script := a_t_script) (a_t_read := a_t_read) (a_t_wanted := a_t_wanted) (a_t_level := a_t_level) (a_t_chosen := a_t_chosen) (a_t_best := a_t_best) (c_t_refusal := q6.2) (c_t_high := c_t_high) (c_t_wide := c_t_wide) (c_t_acts := q9.1) (c_t_next := q9.2.1) (c_t_scriptSize := c_t_scriptSize) (c_t_spot := c_t_spot) (c_t_readHigh := c_t_readHigh) (c_t_readWide := c_t_readWide) (f_p0 := (va_up f_t_now ((((15 : Int) * p0) + (1 : Int))).toNat (1 : Int))) (n_p0 := 243) (hn_p0 := (by decide)) q11 h12) dX9_hang_62 gX9_hang_X9_hungOf rfl rfl rfl (by decide +kernel) ⟨Nat.le_of_ble_eq_true rfl, Nat.le_of_ble_eq_true rfl⟩ ⟨Nat.le_of_ble_eq_true rfl, Nat.le_of_ble_eq_true rfl⟩ (z_spl_of [0, 1, 2] rfl rfl) rfl rfl rfl rfl (Nat.le_of_ble_eq_true rfl) rfl (fun rv w9 hq => ?_)
        obtain ⟨rfl, rfl⟩ := hq
        refine z_ws [(a_t_diary, zI J 3402 q9.2.2), (a_t, .inr (8, [.int (zi q6.2), .int (zi c_t_high), .int (zi c_t_wide), .ref a_t_now, .ref a_t_trial, .ref a_t_diary, .int (zi q9.1), .int (zi q9.2.1), .ref a_t_kept, .ref a_t_isKept, .ref a_t_script, .int (zi c_t_scriptSize), .int (zi c_t_spot), .ref a_t_read, .int (zi c_t_readHigh), .int (zi c_t_readWide), .ref a_t_wanted, .ref a_t_level, .ref a_t_chosen, .ref a_t_best])), (a_t_now, zI J 243 (va_up f_t_now ((((15 : Int) * p0) + (1 : Int))).toNat (1 : Int)))] rfl ?_
        refine z_perm [(a_t, .inr (8, [.int (zi q6.2), .int (zi c_t_high), .int (zi c_t_wide), .ref a_t_now, .ref a_t_trial, .ref a_t_diary, .int (zi q9.1), .int (zi q9.2.1), .ref a_t_kept, .ref a_t_isKept, .ref a_t_script, .int (zi c_t_scriptSize), .int (zi c_t_spot), .ref a_t_read, .int (zi c_t_readHigh), .int (zi c_t_readWide), .ref a_t_wanted, .ref a_t_level, .ref a_t_chosen, .ref a_t_best])), (a_t_now, zI J 243 (va_up f_t_now ((((15 : Int) * p0) + (1 : Int))).toNat (1 : Int))), (a_t_diary, zI J 3402 q9.2.2)] [(0, .ref a_t), (1, .int (zi p0))] [1, 2, 0] [0, 1] rfl rfl rfl ?_
        cases hsh
        exact z_iret rfl dX9_hang_65 ⟨rfl, rfl⟩
      · replace hsh := zif_f q hsh
        refine z_iconst (pc' := 40) dX9_hang_39 rfl ?_
        refine z_perm [(a_t, .inr (8, [.int (zi q6.2), .int (zi c_t_high), .int (zi c_t_wide), .ref a_t_now, .ref a_t_trial, .ref a_t_diary, .int (zi c_t_acts), .int (zi c_t_next), .ref a_t_kept, .ref a_t_isKept, .ref a_t_script, .int (zi c_t_scriptSize), .int (zi c_t_spot), .ref a_t_read, .int (zi c_t_readHigh), .int (zi c_t_readWide), .ref a_t_wanted, .ref a_t_level, .ref a_t_chosen, .ref a_t_best])), (a_t_now, zI J 243 f_t_now), (a_t_diary, zI J 3402 f_t_diary)] [(0, .ref a_t), (1, .int (zi p0))] [2, 0, 1] [0, 1] rfl rfl rfl ?_
        cases hsh
        exact z_iret rfl dX9_hang_40 ⟨rfl, rfl⟩
    · replace hsh := zif_t q hsh
      refine z_iconst (pc' := 29) dX9_hang_28 rfl ?_
      refine z_goto (tgt := 33) dX9_hang_29 (by decide) ?_
      obtain ⟨q13, h14, hsh⟩ := zbind hsh
      refine z_callV (pc' := 36) (C := RX9) (As := [.int (zi (2 : Int))]) (rest := []) (wr := [(a_t_now, zI J 243 f_t_now), (a_t_diary, zI J 3402 f_t_diary)]) 1 (zc_X9_refused l D J F (a_t := a_t) (a_t_now := a_t_now) (a_t_trial := a_t_trial) (a_t_diary := a_t_diary) (a_t_kept := a_t_kept) (a_t_isKept := a_t_isKept) (a_t_script := a_t_script) (a_t_read := a_t_read) (a_t_wanted := a_t_wanted) (a_t_level := a_t_level) (a_t_chosen := a_t_chosen) (a_t_best := a_t_best) (c_t_refusal := c_t_refusal) (c_t_high := c_t_high) (c_t_wide := c_t_wide) (c_t_acts := c_t_acts) (c_t_next := c_t_next) (c_t_scriptSize := c_t_scriptSize) (c_t_spot := c_t_spot) (c_t_readHigh := c_t_readHigh) (c_t_readWide := c_t_readWide) (p0 := (2 : Int))  q13 h14) dX9_hang_33 gX9_hang_X9_refused rfl rfl rfl (by decide +kernel) ⟨Nat.le_of_ble_eq_true rfl, Nat.le_of_ble_eq_true rfl⟩ ⟨Nat.le_of_ble_eq_true rfl, Nat.le_of_ble_eq_true rfl⟩ (z_spl_of [2, 0, 1] rfl rfl) rfl rfl rfl rfl (Nat.le_of_ble_eq_true rfl) rfl (fun rv w9 hq => ?_)
      obtain ⟨rfl, rfl⟩ := hq
      refine z_ws [(a_t_now, zI J 243 f_t_now), (a_t_diary, zI J 3402 f_t_diary), (a_t, .inr (8, [.int (zi q13.2), .int (zi c_t_high), .int (zi c_t_wide), .ref a_t_now, .ref a_t_trial, .ref a_t_diary, .int (zi c_t_acts), .int (zi c_t_next), .ref a_t_kept, .ref a_t_isKept, .ref a_t_script, .int (zi c_t_scriptSize), .int (zi c_t_spot), .ref a_t_read, .int (zi c_t_readHigh), .int (zi c_t_readWide), .ref a_t_wanted, .ref a_t_level, .ref a_t_chosen, .ref a_t_best]))] rfl ?_
      have g15 := zkr_p hsh
      replace hsh := zkr_k hsh
      refine z_if_eq (pc' := 39) (tgt := 41) dX9_hang_36 (by decide) g15 rfl (fun q => ?_) (fun q => ?_)
      · replace hsh := zif_t q hsh
        refine z_aload_n (pc' := 42) 0 dX9_hang_41 rfl rfl rfl ?_
        obtain ⟨q16, h17, hsh⟩ := zbind hsh
        refine z_callV (pc' := 45) (C := RX9) (As := []) (rest := []) (wr := []) 0 (zc_X9_note l D J F (a_t := a_t) (a_t_now := a_t_now) (a_t_trial := a_t_trial) (a_t_diary := a_t_diary) (a_t_kept := a_t_kept) (a_t_isKept := a_t_isKept) (a_t_script := a_t_script) (a_t_read := a_t_read) (a_t_wanted := a_t_wanted) (a_t_level := a_t_level) (a_t_chosen := a_t_chosen) (a_t_best := a_t_best) (c_t_refusal := q13.2) (c_t_high := c_t_high) (c_t_wide := c_t_wide) (c_t_acts := c_t_acts) (c_t_next := c_t_next) (c_t_scriptSize := c_t_scriptSize) (c_t_spot := c_t_spot) (c_t_readHigh := c_t_readHigh) (c_t_readWide := c_t_readWide) (f_t_now := f_t_now) (f_t_diary := f_t_diary)  q16 h17) dX9_hang_42 gX9_hang_X9_note rfl rfl rfl (by decide +kernel) ⟨Nat.le_of_ble_eq_true rfl, Nat.le_of_ble_eq_true rfl⟩ ⟨Nat.le_of_ble_eq_true rfl, Nat.le_of_ble_eq_true rfl⟩ (z_spl_of [2, 0, 1] rfl rfl) rfl rfl rfl rfl (Nat.le_of_ble_eq_true rfl) rfl (fun rv w9 hq => ?_)
        obtain ⟨rfl, rfl⟩ := hq
        refine z_ws [(a_t, .inr (8, [.int (zi q13.2), .int (zi c_t_high), .int (zi c_t_wide), .ref a_t_now, .ref a_t_trial, .ref a_t_diary, .int (zi q16.1), .int (zi q16.2.1), .ref a_t_kept, .ref a_t_isKept, .ref a_t_script, .int (zi c_t_scriptSize), .int (zi c_t_spot), .ref a_t_read, .int (zi c_t_readHigh), .int (zi c_t_readWide), .ref a_t_wanted, .ref a_t_level, .ref a_t_chosen, .ref a_t_best])), (a_t_now, zI J 243 f_t_now), (a_t_diary, zI J 3402 q16.2.2)] rfl ?_
        refine z_aload_n (pc' := 46) 0 dX9_hang_45 rfl rfl rfl ?_
        refine z_getfield (pc' := 49) (C := RX9) (T := TX9) (N := 20) 0 3 dX9_hang_46 iX9_hang_X9 rfl rfl (by decide) mX9_hang_f16 rfl rfl ?_
        refine z_bipush (pc' := 51) dX9_hang_49 (by decide) rfl ?_
        refine z_iload_n (pc' := 52) 1 dX9_hang_51 rfl rfl rfl ?_
        refine z_imul (pc' := 53) dX9_hang_52 rfl ?_
        refine z_iconst (pc' := 54) dX9_hang_53 rfl ?_
        refine z_iadd (pc' := 55) dX9_hang_54 rfl ?_
        refine z_iconst (pc' := 56) dX9_hang_55 rfl ?_
        refine z_iastore (pc' := 57) 1 [(a_t, .inr (8, [.int (zi q13.2), .int (zi c_t_high), .int (zi c_t_wide), .ref a_t_now, .ref a_t_trial, .ref a_t_diary, .int (zi q16.1), .int (zi q16.2.1), .ref a_t_kept, .ref a_t_isKept, .ref a_t_script, .int (zi c_t_scriptSize), .int (zi c_t_spot), .ref a_t_read, .int (zi c_t_readHigh), .int (zi c_t_readWide), .ref a_t_wanted, .ref a_t_level, .ref a_t_chosen, .ref a_t_best])), (a_t_now, zI J 243 (va_up f_t_now ((((15 : Int) * p0) + (1 : Int))).toNat (1 : Int))), (a_t_diary, zI J 3402 q16.2.2)] dX9_hang_56 rfl (by decide) g4 rfl rfl ?_
        refine z_aload_n (pc' := 58) 0 dX9_hang_57 rfl rfl rfl ?_
        refine z_aload_n (pc' := 59) 0 dX9_hang_58 rfl rfl rfl ?_
        refine z_getfield (pc' := 62) (C := RX9) (T := TX9) (N := 20) 0 3 dX9_hang_59 iX9_hang_X9 rfl rfl (by decide) mX9_hang_f16 rfl rfl ?_
        obtain ⟨q18, h19, hsh⟩ := zbind hsh
        refine z_callV (pc' := 65) (C := RX9) (As := [.ref a_t_now]) (rest := []) (wr := [(a_t_diary, zI J 3402 q16.2.2)]) 1 (zc_X9_hungOf l D J F (a_t := a_t) (a_p0 := a_t_now) (a_t_now := a_t_now) (a_t_trial := a_t_trial) (a_t_diary := a_t_diary) (a_t_kept := a_t_kept) (a_t_isKept := a_t_isKept) (a_t_script := a_t_script) (a_t_read := a_t_read) (a_t_wanted := a_t_wanted) (a_t_level := a_t_level) (a_t_chosen := a_t_chosen) (a_t_best := a_t_best) (c_t_refusal := q13.2) (c_t_high := c_t_high) (c_t_wide := c_t_wide) (c_t_acts := q16.1) (c_t_next := q16.2.1) (c_t_scriptSize := c_t_scriptSize) (c_t_spot := c_t_spot) (c_t_readHigh := c_t_readHigh) (c_t_readWide := c_t_readWide) (f_p0 := (va_up f_t_now ((((15 : Int) * p0) + (1 : Int))).toNat (1 : Int))) (n_p0 := 243) (hn_p0 := (by decide)) q18 h19) dX9_hang_62 gX9_hang_X9_hungOf rfl rfl rfl (by decide +kernel) ⟨Nat.le_of_ble_eq_true rfl, Nat.le_of_ble_eq_true rfl⟩ ⟨Nat.le_of_ble_eq_true rfl, Nat.le_of_ble_eq_true rfl⟩ (z_spl_of [0, 1, 2] rfl rfl) rfl rfl rfl rfl (Nat.le_of_ble_eq_true rfl) rfl (fun rv w9 hq => ?_)
        obtain ⟨rfl, rfl⟩ := hq
        refine z_ws [(a_t_diary, zI J 3402 q16.2.2), (a_t, .inr (8, [.int (zi q13.2), .int (zi c_t_high), .int (zi c_t_wide), .ref a_t_now, .ref a_t_trial, .ref a_t_diary, .int (zi q16.1), .int (zi q16.2.1), .ref a_t_kept, .ref a_t_isKept, .ref a_t_script, .int (zi c_t_scriptSize), .int (zi c_t_spot), .ref a_t_read, .int (zi c_t_readHigh), .int (zi c_t_readWide), .ref a_t_wanted, .ref a_t_level, .ref a_t_chosen, .ref a_t_best])), (a_t_now, zI J 243 (va_up f_t_now ((((15 : Int) * p0) + (1 : Int))).toNat (1 : Int)))] rfl ?_
        refine z_perm [(a_t, .inr (8, [.int (zi q13.2), .int (zi c_t_high), .int (zi c_t_wide), .ref a_t_now, .ref a_t_trial, .ref a_t_diary, .int (zi q16.1), .int (zi q16.2.1), .ref a_t_kept, .ref a_t_isKept, .ref a_t_script, .int (zi c_t_scriptSize), .int (zi c_t_spot), .ref a_t_read, .int (zi c_t_readHigh), .int (zi c_t_readWide), .ref a_t_wanted, .ref a_t_level, .ref a_t_chosen, .ref a_t_best])), (a_t_now, zI J 243 (va_up f_t_now ((((15 : Int) * p0) + (1 : Int))).toNat (1 : Int))), (a_t_diary, zI J 3402 q16.2.2)] [(0, .ref a_t), (1, .int (zi p0))] [1, 2, 0] [0, 1] rfl rfl rfl ?_
        cases hsh
        exact z_iret rfl dX9_hang_65 ⟨rfl, rfl⟩
      · replace hsh := zif_f q hsh
        refine z_iconst (pc' := 40) dX9_hang_39 rfl ?_
        refine z_perm [(a_t, .inr (8, [.int (zi q13.2), .int (zi c_t_high), .int (zi c_t_wide), .ref a_t_now, .ref a_t_trial, .ref a_t_diary, .int (zi c_t_acts), .int (zi c_t_next), .ref a_t_kept, .ref a_t_isKept, .ref a_t_script, .int (zi c_t_scriptSize), .int (zi c_t_spot), .ref a_t_read, .int (zi c_t_readHigh), .int (zi c_t_readWide), .ref a_t_wanted, .ref a_t_level, .ref a_t_chosen, .ref a_t_best])), (a_t_now, zI J 243 f_t_now), (a_t_diary, zI J 3402 f_t_diary)] [(0, .ref a_t), (1, .int (zi p0))] [2, 0, 1] [0, 1] rfl rfl rfl ?_
        cases hsh
        exact z_iret rfl dX9_hang_40 ⟨rfl, rfl⟩
  · replace hsh := zif_t q hsh
    refine z_iconst (pc' := 10) dX9_hang_9 rfl ?_
    refine z_goto (tgt := 33) dX9_hang_10 (by decide) ?_
    obtain ⟨q20, h21, hsh⟩ := zbind hsh
    refine z_callV (pc' := 36) (C := RX9) (As := [.int (zi (1 : Int))]) (rest := []) (wr := [(a_t_now, zI J 243 f_t_now), (a_t_diary, zI J 3402 f_t_diary)]) 1 (zc_X9_refused l D J F (a_t := a_t) (a_t_now := a_t_now) (a_t_trial := a_t_trial) (a_t_diary := a_t_diary) (a_t_kept := a_t_kept) (a_t_isKept := a_t_isKept) (a_t_script := a_t_script) (a_t_read := a_t_read) (a_t_wanted := a_t_wanted) (a_t_level := a_t_level) (a_t_chosen := a_t_chosen) (a_t_best := a_t_best) (c_t_refusal := c_t_refusal) (c_t_high := c_t_high) (c_t_wide := c_t_wide) (c_t_acts := c_t_acts) (c_t_next := c_t_next) (c_t_scriptSize := c_t_scriptSize) (c_t_spot := c_t_spot) (c_t_readHigh := c_t_readHigh) (c_t_readWide := c_t_readWide) (p0 := (1 : Int))  q20 h21) dX9_hang_33 gX9_hang_X9_refused rfl rfl rfl (by decide +kernel) ⟨Nat.le_of_ble_eq_true rfl, Nat.le_of_ble_eq_true rfl⟩ ⟨Nat.le_of_ble_eq_true rfl, Nat.le_of_ble_eq_true rfl⟩ (z_spl_of [2, 0, 1] rfl rfl) rfl rfl rfl rfl (Nat.le_of_ble_eq_true rfl) rfl (fun rv w9 hq => ?_)
    obtain ⟨rfl, rfl⟩ := hq
    refine z_ws [(a_t_now, zI J 243 f_t_now), (a_t_diary, zI J 3402 f_t_diary), (a_t, .inr (8, [.int (zi q20.2), .int (zi c_t_high), .int (zi c_t_wide), .ref a_t_now, .ref a_t_trial, .ref a_t_diary, .int (zi c_t_acts), .int (zi c_t_next), .ref a_t_kept, .ref a_t_isKept, .ref a_t_script, .int (zi c_t_scriptSize), .int (zi c_t_spot), .ref a_t_read, .int (zi c_t_readHigh), .int (zi c_t_readWide), .ref a_t_wanted, .ref a_t_level, .ref a_t_chosen, .ref a_t_best]))] rfl ?_
    have g22 := zkr_p hsh
    replace hsh := zkr_k hsh
    refine z_if_eq (pc' := 39) (tgt := 41) dX9_hang_36 (by decide) g22 rfl (fun q => ?_) (fun q => ?_)
    · replace hsh := zif_t q hsh
      refine z_aload_n (pc' := 42) 0 dX9_hang_41 rfl rfl rfl ?_
      obtain ⟨q23, h24, hsh⟩ := zbind hsh
      refine z_callV (pc' := 45) (C := RX9) (As := []) (rest := []) (wr := []) 0 (zc_X9_note l D J F (a_t := a_t) (a_t_now := a_t_now) (a_t_trial := a_t_trial) (a_t_diary := a_t_diary) (a_t_kept := a_t_kept) (a_t_isKept := a_t_isKept) (a_t_script := a_t_script) (a_t_read := a_t_read) (a_t_wanted := a_t_wanted) (a_t_level := a_t_level) (a_t_chosen := a_t_chosen) (a_t_best := a_t_best) (c_t_refusal := q20.2) (c_t_high := c_t_high) (c_t_wide := c_t_wide) (c_t_acts := c_t_acts) (c_t_next := c_t_next) (c_t_scriptSize := c_t_scriptSize) (c_t_spot := c_t_spot) (c_t_readHigh := c_t_readHigh) (c_t_readWide := c_t_readWide) (f_t_now := f_t_now) (f_t_diary := f_t_diary)  q23 h24) dX9_hang_42 gX9_hang_X9_note rfl rfl rfl (by decide +kernel) ⟨Nat.le_of_ble_eq_true rfl, Nat.le_of_ble_eq_true rfl⟩ ⟨Nat.le_of_ble_eq_true rfl, Nat.le_of_ble_eq_true rfl⟩ (z_spl_of [2, 0, 1] rfl rfl) rfl rfl rfl rfl (Nat.le_of_ble_eq_true rfl) rfl (fun rv w9 hq => ?_)
      obtain ⟨rfl, rfl⟩ := hq
      refine z_ws [(a_t, .inr (8, [.int (zi q20.2), .int (zi c_t_high), .int (zi c_t_wide), .ref a_t_now, .ref a_t_trial, .ref a_t_diary, .int (zi q23.1), .int (zi q23.2.1), .ref a_t_kept, .ref a_t_isKept, .ref a_t_script, .int (zi c_t_scriptSize), .int (zi c_t_spot), .ref a_t_read, .int (zi c_t_readHigh), .int (zi c_t_readWide), .ref a_t_wanted, .ref a_t_level, .ref a_t_chosen, .ref a_t_best])), (a_t_now, zI J 243 f_t_now), (a_t_diary, zI J 3402 q23.2.2)] rfl ?_
      refine z_aload_n (pc' := 46) 0 dX9_hang_45 rfl rfl rfl ?_
      refine z_getfield (pc' := 49) (C := RX9) (T := TX9) (N := 20) 0 3 dX9_hang_46 iX9_hang_X9 rfl rfl (by decide) mX9_hang_f16 rfl rfl ?_
      refine z_bipush (pc' := 51) dX9_hang_49 (by decide) rfl ?_
      refine z_iload_n (pc' := 52) 1 dX9_hang_51 rfl rfl rfl ?_
      refine z_imul (pc' := 53) dX9_hang_52 rfl ?_
      refine z_iconst (pc' := 54) dX9_hang_53 rfl ?_
      refine z_iadd (pc' := 55) dX9_hang_54 rfl ?_
      refine z_iconst (pc' := 56) dX9_hang_55 rfl ?_
      have g25 := zkx_p hsh
      replace hsh := zkx_k hsh
      refine z_iastore (pc' := 57) 1 [(a_t, .inr (8, [.int (zi q20.2), .int (zi c_t_high), .int (zi c_t_wide), .ref a_t_now, .ref a_t_trial, .ref a_t_diary, .int (zi q23.1), .int (zi q23.2.1), .ref a_t_kept, .ref a_t_isKept, .ref a_t_script, .int (zi c_t_scriptSize), .int (zi c_t_spot), .ref a_t_read, .int (zi c_t_readHigh), .int (zi c_t_readWide), .ref a_t_wanted, .ref a_t_level, .ref a_t_chosen, .ref a_t_best])), (a_t_now, zI J 243 (va_up f_t_now ((((15 : Int) * p0) + (1 : Int))).toNat (1 : Int))), (a_t_diary, zI J 3402 q23.2.2)] dX9_hang_56 rfl (by decide) g25 rfl rfl ?_
      refine z_aload_n (pc' := 58) 0 dX9_hang_57 rfl rfl rfl ?_
      refine z_aload_n (pc' := 59) 0 dX9_hang_58 rfl rfl rfl ?_
      refine z_getfield (pc' := 62) (C := RX9) (T := TX9) (N := 20) 0 3 dX9_hang_59 iX9_hang_X9 rfl rfl (by decide) mX9_hang_f16 rfl rfl ?_
      obtain ⟨q26, h27, hsh⟩ := zbind hsh
      refine z_callV (pc' := 65) (C := RX9) (As := [.ref a_t_now]) (rest := []) (wr := [(a_t_diary, zI J 3402 q23.2.2)]) 1 (zc_X9_hungOf l D J F (a_t := a_t) (a_p0 := a_t_now) (a_t_now := a_t_now) (a_t_trial := a_t_trial) (a_t_diary := a_t_diary) (a_t_kept := a_t_kept) (a_t_isKept := a_t_isKept) (a_t_script := a_t_script) (a_t_read := a_t_read) (a_t_wanted := a_t_wanted) (a_t_level := a_t_level) (a_t_chosen := a_t_chosen) (a_t_best := a_t_best) (c_t_refusal := q20.2) (c_t_high := c_t_high) (c_t_wide := c_t_wide) (c_t_acts := q23.1) (c_t_next := q23.2.1) (c_t_scriptSize := c_t_scriptSize) (c_t_spot := c_t_spot) (c_t_readHigh := c_t_readHigh) (c_t_readWide := c_t_readWide) (f_p0 := (va_up f_t_now ((((15 : Int) * p0) + (1 : Int))).toNat (1 : Int))) (n_p0 := 243) (hn_p0 := (by decide)) q26 h27) dX9_hang_62 gX9_hang_X9_hungOf rfl rfl rfl (by decide +kernel) ⟨Nat.le_of_ble_eq_true rfl, Nat.le_of_ble_eq_true rfl⟩ ⟨Nat.le_of_ble_eq_true rfl, Nat.le_of_ble_eq_true rfl⟩ (z_spl_of [0, 1, 2] rfl rfl) rfl rfl rfl rfl (Nat.le_of_ble_eq_true rfl) rfl (fun rv w9 hq => ?_)
      obtain ⟨rfl, rfl⟩ := hq
      refine z_ws [(a_t_diary, zI J 3402 q23.2.2), (a_t, .inr (8, [.int (zi q20.2), .int (zi c_t_high), .int (zi c_t_wide), .ref a_t_now, .ref a_t_trial, .ref a_t_diary, .int (zi q23.1), .int (zi q23.2.1), .ref a_t_kept, .ref a_t_isKept, .ref a_t_script, .int (zi c_t_scriptSize), .int (zi c_t_spot), .ref a_t_read, .int (zi c_t_readHigh), .int (zi c_t_readWide), .ref a_t_wanted, .ref a_t_level, .ref a_t_chosen, .ref a_t_best])), (a_t_now, zI J 243 (va_up f_t_now ((((15 : Int) * p0) + (1 : Int))).toNat (1 : Int)))] rfl ?_
      refine z_perm [(a_t, .inr (8, [.int (zi q20.2), .int (zi c_t_high), .int (zi c_t_wide), .ref a_t_now, .ref a_t_trial, .ref a_t_diary, .int (zi q23.1), .int (zi q23.2.1), .ref a_t_kept, .ref a_t_isKept, .ref a_t_script, .int (zi c_t_scriptSize), .int (zi c_t_spot), .ref a_t_read, .int (zi c_t_readHigh), .int (zi c_t_readWide), .ref a_t_wanted, .ref a_t_level, .ref a_t_chosen, .ref a_t_best])), (a_t_now, zI J 243 (va_up f_t_now ((((15 : Int) * p0) + (1 : Int))).toNat (1 : Int))), (a_t_diary, zI J 3402 q23.2.2)] [(0, .ref a_t), (1, .int (zi p0))] [1, 2, 0] [0, 1] rfl rfl rfl ?_
      cases hsh
      exact z_iret rfl dX9_hang_65 ⟨rfl, rfl⟩
    · replace hsh := zif_f q hsh
      refine z_iconst (pc' := 40) dX9_hang_39 rfl ?_
      refine z_perm [(a_t, .inr (8, [.int (zi q20.2), .int (zi c_t_high), .int (zi c_t_wide), .ref a_t_now, .ref a_t_trial, .ref a_t_diary, .int (zi c_t_acts), .int (zi c_t_next), .ref a_t_kept, .ref a_t_isKept, .ref a_t_script, .int (zi c_t_scriptSize), .int (zi c_t_spot), .ref a_t_read, .int (zi c_t_readHigh), .int (zi c_t_readWide), .ref a_t_wanted, .ref a_t_level, .ref a_t_chosen, .ref a_t_best])), (a_t_now, zI J 243 f_t_now), (a_t_diary, zI J 3402 f_t_diary)] [(0, .ref a_t), (1, .int (zi p0))] [2, 0, 1] [0, 1] rfl rfl rfl ?_
      cases hsh
      exact z_iret rfl dX9_hang_40 ⟨rfl, rfl⟩
def sh_X9_release (F : Nat) (c_t_high : Int) (c_t_wide : Int) (c_t_acts : Int) (c_t_next : Int) (f_t_now : Nat → Int) (f_t_diary : Nat → Int) (p0 : Int) : Option (Int × Int × Int × Int × (Nat → Int) × (Nat → Int)) := (sh_X9_isPoint F c_t_high c_t_wide p0).bind (fun (q1 : Int) => zkr q1 (if q1 = (0 : Int) then (sh_X9_refused F (1 : Int)).bind (fun (q20 : Int × Int) => zkr q20.1 (if q20.1 = (0 : Int) then (sh_X9_note F c_t_acts c_t_next f_t_now f_t_diary).bind (fun (q23 : Int × Int × (Nat → Int)) => zkx (((15 : Int) * p0) + (1 : Int)) 243 ((sh_X9_hungOf F c_t_high c_t_wide (va_up f_t_now ((((15 : Int) * p0) + (1 : Int))).toNat (0 : Int)) 243).bind (fun (q26 : Int) => some (q26, q20.2, q23.1, q23.2.1, (va_up f_t_now ((((15 : Int) * p0) + (1 : Int))).toNat (0 : Int)), q23.2.2)))) else some ((0 : Int), q20.2, c_t_acts, c_t_next, f_t_now, f_t_diary))) else zkx (((15 : Int) * p0) + (1 : Int)) 243 (zkr (f_t_now ((((15 : Int) * p0) + (1 : Int))).toNat) (if (f_t_now ((((15 : Int) * p0) + (1 : Int))).toNat) = (0 : Int) then (sh_X9_refused F (2 : Int)).bind (fun (q13 : Int × Int) => zkr q13.1 (if q13.1 = (0 : Int) then (sh_X9_note F c_t_acts c_t_next f_t_now f_t_diary).bind (fun (q16 : Int × Int × (Nat → Int)) => (sh_X9_hungOf F c_t_high c_t_wide (va_up f_t_now ((((15 : Int) * p0) + (1 : Int))).toNat (0 : Int)) 243).bind (fun (q18 : Int) => some (q18, q13.2, q16.1, q16.2.1, (va_up f_t_now ((((15 : Int) * p0) + (1 : Int))).toNat (0 : Int)), q16.2.2))) else some ((0 : Int), q13.2, c_t_acts, c_t_next, f_t_now, f_t_diary))) else (sh_X9_refused F (0 : Int)).bind (fun (q6 : Int × Int) => zkr q6.1 (if q6.1 = (0 : Int) then (sh_X9_note F c_t_acts c_t_next f_t_now f_t_diary).bind (fun (q9 : Int × Int × (Nat → Int)) => (sh_X9_hungOf F c_t_high c_t_wide (va_up f_t_now ((((15 : Int) * p0) + (1 : Int))).toNat (0 : Int)) 243).bind (fun (q11 : Int) => some (q11, q6.2, q9.1, q9.2.1, (va_up f_t_now ((((15 : Int) * p0) + (1 : Int))).toNat (0 : Int)), q9.2.2))) else some ((0 : Int), q6.2, c_t_acts, c_t_next, f_t_now, f_t_diary)))))))
theorem mX9_release_f16 : Cond.fieldLink RX9 16 (TX9 3).1 (TX9 3).2.1 (TX9 3).2.2.1 ∈ wsX9_release := List.mem_of_getElem? (i := 1) rfl
theorem iX9_release_X9 : ∀ w ∈ wsX90, w ∈ wsX9_release := fun _ h => (List.mem_cons_of_mem _ (List.mem_append_right _ h))
set_option maxRecDepth 100000 in
set_option maxHeartbeats 4000000 in
theorem zc_X9_release (l : Launch) (D : va_G) (J : Nat → ClassId) (F : Nat) (a_t : Nat) (a_t_now : Nat) (a_t_trial : Nat) (a_t_diary : Nat) (a_t_kept : Nat) (a_t_isKept : Nat) (a_t_script : Nat) (a_t_read : Nat) (a_t_wanted : Nat) (a_t_level : Nat) (a_t_chosen : Nat) (a_t_best : Nat) (c_t_refusal : Int) (c_t_high : Int) (c_t_wide : Int) (c_t_acts : Int) (c_t_next : Int) (c_t_scriptSize : Int) (c_t_spot : Int) (c_t_readHigh : Int) (c_t_readWide : Int) (f_t_now : Nat → Int) (f_t_diary : Nat → Int) (p0 : Int) (res : Int × Int × Int × Int × (Nat → Int) × (Nat → Int)) (hsh : sh_X9_release F c_t_high c_t_wide c_t_acts c_t_next f_t_now f_t_diary p0 = some res) : ZM l D J yX9_release wsX9_release ({ frames := 2, cells := 0, slots := 0, locals := 46 } : Room) 0 0 [.ref a_t, .int (zi p0)] [(a_t, .inr (8, [.int (zi c_t_refusal), .int (zi c_t_high), .int (zi c_t_wide), .ref a_t_now, .ref a_t_trial, .ref a_t_diary, .int (zi c_t_acts), .int (zi c_t_next), .ref a_t_kept, .ref a_t_isKept, .ref a_t_script, .int (zi c_t_scriptSize), .int (zi c_t_spot), .ref a_t_read, .int (zi c_t_readHigh), .int (zi c_t_readWide), .ref a_t_wanted, .ref a_t_level, .ref a_t_chosen, .ref a_t_best])), (a_t_now, zI J 243 f_t_now), (a_t_diary, zI J 3402 f_t_diary)] (fun rv w9 => rv = some (.int (zi res.1)) ∧ w9 = [(a_t, .inr (8, [.int (zi res.2.1), .int (zi c_t_high), .int (zi c_t_wide), .ref a_t_now, .ref a_t_trial, .ref a_t_diary, .int (zi res.2.2.1), .int (zi res.2.2.2.1), .ref a_t_kept, .ref a_t_isKept, .ref a_t_script, .int (zi c_t_scriptSize), .int (zi c_t_spot), .ref a_t_read, .int (zi c_t_readHigh), .int (zi c_t_readWide), .ref a_t_wanted, .ref a_t_level, .ref a_t_chosen, .ref a_t_best])), (a_t_now, zI J 243 res.2.2.2.2.1), (a_t_diary, zI J 3402 res.2.2.2.2.2)]) := by
  refine z_ofZ (cc := cX9_release) (maxL := 2) (ret := (some .int)) 0 0 (by decide) rfl (Nat.le_of_ble_eq_true rfl) [(0, .ref a_t), (1, .int (zi p0))] rfl ?_
  intro p e s m args below meth c A
  unfold sh_X9_release at hsh
  refine z_aload_n (pc' := 1) 0 dX9_release_0 rfl rfl rfl ?_
  refine z_aload_n (pc' := 2) 0 dX9_release_1 rfl rfl rfl ?_
  refine z_iload_n (pc' := 3) 1 dX9_release_2 rfl rfl rfl ?_
  obtain ⟨q1, h2, hsh⟩ := zbind hsh
  refine z_callV (pc' := 6) (C := RX9) (As := [.int (zi p0)]) (rest := [.ref a_t]) (wr := [(a_t_now, zI J 243 f_t_now), (a_t_diary, zI J 3402 f_t_diary)]) 1 (zc_X9_isPoint l D J F (a_t := a_t) (a_t_now := a_t_now) (a_t_trial := a_t_trial) (a_t_diary := a_t_diary) (a_t_kept := a_t_kept) (a_t_isKept := a_t_isKept) (a_t_script := a_t_script) (a_t_read := a_t_read) (a_t_wanted := a_t_wanted) (a_t_level := a_t_level) (a_t_chosen := a_t_chosen) (a_t_best := a_t_best) (c_t_refusal := c_t_refusal) (c_t_high := c_t_high) (c_t_wide := c_t_wide) (c_t_acts := c_t_acts) (c_t_next := c_t_next) (c_t_scriptSize := c_t_scriptSize) (c_t_spot := c_t_spot) (c_t_readHigh := c_t_readHigh) (c_t_readWide := c_t_readWide) (p0 := p0)  q1 h2) dX9_release_3 gX9_release_X9_isPoint rfl rfl rfl (by decide +kernel) ⟨Nat.le_of_ble_eq_true rfl, Nat.le_of_ble_eq_true rfl⟩ ⟨Nat.le_of_ble_eq_true rfl, Nat.le_of_ble_eq_true rfl⟩ (z_spl_of [0, 1, 2] rfl rfl) rfl rfl rfl rfl (Nat.le_of_ble_eq_true rfl) rfl (fun rv w9 hq => ?_)
  obtain ⟨rfl, rfl⟩ := hq
  refine z_ws [(a_t_now, zI J 243 f_t_now), (a_t_diary, zI J 3402 f_t_diary), (a_t, .inr (8, [.int (zi c_t_refusal), .int (zi c_t_high), .int (zi c_t_wide), .ref a_t_now, .ref a_t_trial, .ref a_t_diary, .int (zi c_t_acts), .int (zi c_t_next), .ref a_t_kept, .ref a_t_isKept, .ref a_t_script, .int (zi c_t_scriptSize), .int (zi c_t_spot), .ref a_t_read, .int (zi c_t_readHigh), .int (zi c_t_readWide), .ref a_t_wanted, .ref a_t_level, .ref a_t_chosen, .ref a_t_best]))] rfl ?_
  have g3 := zkr_p hsh
  replace hsh := zkr_k hsh
  refine z_if_ne (pc' := 9) (tgt := 13) dX9_release_6 (by decide) g3 rfl (fun q => ?_) (fun q => ?_)
  · replace hsh := zif_f q hsh
    refine z_aload_n (pc' := 14) 0 dX9_release_13 rfl rfl rfl ?_
    refine z_getfield (pc' := 17) (C := RX9) (T := TX9) (N := 20) 2 3 dX9_release_14 iX9_release_X9 rfl rfl (by decide) mX9_release_f16 rfl rfl ?_
    refine z_bipush (pc' := 19) dX9_release_17 (by decide) rfl ?_
    refine z_iload_n (pc' := 20) 1 dX9_release_19 rfl rfl rfl ?_
    refine z_imul (pc' := 21) dX9_release_20 rfl ?_
    refine z_iconst (pc' := 22) dX9_release_21 rfl ?_
    refine z_iadd (pc' := 23) dX9_release_22 rfl ?_
    have g4 := zkx_p hsh
    replace hsh := zkx_k hsh
    refine z_iaload (pc' := 24) 0 dX9_release_23 rfl (by decide) g4 rfl ?_
    have g5 := zkr_p hsh
    replace hsh := zkr_k hsh
    refine z_if_ne (pc' := 27) (tgt := 31) dX9_release_24 (by decide) g5 rfl (fun q => ?_) (fun q => ?_)
    · replace hsh := zif_f q hsh
      refine z_iconst (pc' := 32) dX9_release_31 rfl ?_
      obtain ⟨q6, h7, hsh⟩ := zbind hsh
      refine z_callV (pc' := 35) (C := RX9) (As := [.int (zi (0 : Int))]) (rest := []) (wr := [(a_t_now, zI J 243 f_t_now), (a_t_diary, zI J 3402 f_t_diary)]) 1 (zc_X9_refused l D J F (a_t := a_t) (a_t_now := a_t_now) (a_t_trial := a_t_trial) (a_t_diary := a_t_diary) (a_t_kept := a_t_kept) (a_t_isKept := a_t_isKept) (a_t_script := a_t_script) (a_t_read := a_t_read) (a_t_wanted := a_t_wanted) (a_t_level := a_t_level) (a_t_chosen := a_t_chosen) (a_t_best := a_t_best) (c_t_refusal := c_t_refusal) (c_t_high := c_t_high) (c_t_wide := c_t_wide) (c_t_acts := c_t_acts) (c_t_next := c_t_next) (c_t_scriptSize := c_t_scriptSize) (c_t_spot := c_t_spot) (c_t_readHigh := c_t_readHigh) (c_t_readWide := c_t_readWide) (p0 := (0 : Int))  q6 h7) dX9_release_32 gX9_release_X9_refused rfl rfl rfl (by decide +kernel) ⟨Nat.le_of_ble_eq_true rfl, Nat.le_of_ble_eq_true rfl⟩ ⟨Nat.le_of_ble_eq_true rfl, Nat.le_of_ble_eq_true rfl⟩ (z_spl_of [2, 0, 1] rfl rfl) rfl rfl rfl rfl (Nat.le_of_ble_eq_true rfl) rfl (fun rv w9 hq => ?_)
      obtain ⟨rfl, rfl⟩ := hq
      refine z_ws [(a_t_now, zI J 243 f_t_now), (a_t_diary, zI J 3402 f_t_diary), (a_t, .inr (8, [.int (zi q6.2), .int (zi c_t_high), .int (zi c_t_wide), .ref a_t_now, .ref a_t_trial, .ref a_t_diary, .int (zi c_t_acts), .int (zi c_t_next), .ref a_t_kept, .ref a_t_isKept, .ref a_t_script, .int (zi c_t_scriptSize), .int (zi c_t_spot), .ref a_t_read, .int (zi c_t_readHigh), .int (zi c_t_readWide), .ref a_t_wanted, .ref a_t_level, .ref a_t_chosen, .ref a_t_best]))] rfl ?_
      have g8 := zkr_p hsh
      replace hsh := zkr_k hsh
      refine z_if_eq (pc' := 38) (tgt := 40) dX9_release_35 (by decide) g8 rfl (fun q => ?_) (fun q => ?_)
      · replace hsh := zif_t q hsh
        refine z_aload_n (pc' := 41) 0 dX9_release_40 rfl rfl rfl ?_
        obtain ⟨q9, h10, hsh⟩ := zbind hsh
        refine z_callV (pc' := 44) (C := RX9) (As := []) (rest := []) (wr := []) 0 (zc_X9_note l D J F (a_t := a_t) (a_t_now := a_t_now) (a_t_trial := a_t_trial) (a_t_diary := a_t_diary) (a_t_kept := a_t_kept) (a_t_isKept := a_t_isKept) (a_t_script := a_t_script) (a_t_read := a_t_read) (a_t_wanted := a_t_wanted) (a_t_level := a_t_level) (a_t_chosen := a_t_chosen) (a_t_best := a_t_best) (c_t_refusal := q6.2) (c_t_high := c_t_high) (c_t_wide := c_t_wide) (c_t_acts := c_t_acts) (c_t_next := c_t_next) (c_t_scriptSize := c_t_scriptSize) (c_t_spot := c_t_spot) (c_t_readHigh := c_t_readHigh) (c_t_readWide := c_t_readWide) (f_t_now := f_t_now) (f_t_diary := f_t_diary)  q9 h10) dX9_release_41 gX9_release_X9_note rfl rfl rfl (by decide +kernel) ⟨Nat.le_of_ble_eq_true rfl, Nat.le_of_ble_eq_true rfl⟩ ⟨Nat.le_of_ble_eq_true rfl, Nat.le_of_ble_eq_true rfl⟩ (z_spl_of [2, 0, 1] rfl rfl) rfl rfl rfl rfl (Nat.le_of_ble_eq_true rfl) rfl (fun rv w9 hq => ?_)
        obtain ⟨rfl, rfl⟩ := hq
        refine z_ws [(a_t, .inr (8, [.int (zi q6.2), .int (zi c_t_high), .int (zi c_t_wide), .ref a_t_now, .ref a_t_trial, .ref a_t_diary, .int (zi q9.1), .int (zi q9.2.1), .ref a_t_kept, .ref a_t_isKept, .ref a_t_script, .int (zi c_t_scriptSize), .int (zi c_t_spot), .ref a_t_read, .int (zi c_t_readHigh), .int (zi c_t_readWide), .ref a_t_wanted, .ref a_t_level, .ref a_t_chosen, .ref a_t_best])), (a_t_now, zI J 243 f_t_now), (a_t_diary, zI J 3402 q9.2.2)] rfl ?_
        refine z_aload_n (pc' := 45) 0 dX9_release_44 rfl rfl rfl ?_
        refine z_getfield (pc' := 48) (C := RX9) (T := TX9) (N := 20) 0 3 dX9_release_45 iX9_release_X9 rfl rfl (by decide) mX9_release_f16 rfl rfl ?_
        refine z_bipush (pc' := 50) dX9_release_48 (by decide) rfl ?_
        refine z_iload_n (pc' := 51) 1 dX9_release_50 rfl rfl rfl ?_
        refine z_imul (pc' := 52) dX9_release_51 rfl ?_
        refine z_iconst (pc' := 53) dX9_release_52 rfl ?_
        refine z_iadd (pc' := 54) dX9_release_53 rfl ?_
        refine z_iconst (pc' := 55) dX9_release_54 rfl ?_
        refine z_iastore (pc' := 56) 1 [(a_t, .inr (8, [.int (zi q6.2), .int (zi c_t_high), .int (zi c_t_wide), .ref a_t_now, .ref a_t_trial, .ref a_t_diary, .int (zi q9.1), .int (zi q9.2.1), .ref a_t_kept, .ref a_t_isKept, .ref a_t_script, .int (zi c_t_scriptSize), .int (zi c_t_spot), .ref a_t_read, .int (zi c_t_readHigh), .int (zi c_t_readWide), .ref a_t_wanted, .ref a_t_level, .ref a_t_chosen, .ref a_t_best])), (a_t_now, zI J 243 (va_up f_t_now ((((15 : Int) * p0) + (1 : Int))).toNat (0 : Int))), (a_t_diary, zI J 3402 q9.2.2)] dX9_release_55 rfl (by decide) g4 rfl rfl ?_
        refine z_aload_n (pc' := 57) 0 dX9_release_56 rfl rfl rfl ?_
        refine z_aload_n (pc' := 58) 0 dX9_release_57 rfl rfl rfl ?_
        refine z_getfield (pc' := 61) (C := RX9) (T := TX9) (N := 20) 0 3 dX9_release_58 iX9_release_X9 rfl rfl (by decide) mX9_release_f16 rfl rfl ?_
        obtain ⟨q11, h12, hsh⟩ := zbind hsh
        refine z_callV (pc' := 64) (C := RX9) (As := [.ref a_t_now]) (rest := []) (wr := [(a_t_diary, zI J 3402 q9.2.2)]) 1 (zc_X9_hungOf l D J F (a_t := a_t) (a_p0 := a_t_now) (a_t_now := a_t_now) (a_t_trial := a_t_trial) (a_t_diary := a_t_diary) (a_t_kept := a_t_kept) (a_t_isKept := a_t_isKept) (a_t_script := a_t_script) (a_t_read := a_t_read) (a_t_wanted := a_t_wanted) (a_t_level := a_t_level) (a_t_chosen := a_t_chosen) (a_t_best := a_t_best) (c_t_refusal := q6.2) (c_t_high := c_t_high) (c_t_wide := c_t_wide) (c_t_acts := q9.1) (c_t_next := q9.2.1) (c_t_scriptSize := c_t_scriptSize) (c_t_spot := c_t_spot) (c_t_readHigh := c_t_readHigh) (c_t_readWide := c_t_readWide) (f_p0 := (va_up f_t_now ((((15 : Int) * p0) + (1 : Int))).toNat (0 : Int))) (n_p0 := 243) (hn_p0 := (by decide)) q11 h12) dX9_release_61 gX9_release_X9_hungOf rfl rfl rfl (by decide +kernel) ⟨Nat.le_of_ble_eq_true rfl, Nat.le_of_ble_eq_true rfl⟩ ⟨Nat.le_of_ble_eq_true rfl, Nat.le_of_ble_eq_true rfl⟩ (z_spl_of [0, 1, 2] rfl rfl) rfl rfl rfl rfl (Nat.le_of_ble_eq_true rfl) rfl (fun rv w9 hq => ?_)
        obtain ⟨rfl, rfl⟩ := hq
        refine z_ws [(a_t_diary, zI J 3402 q9.2.2), (a_t, .inr (8, [.int (zi q6.2), .int (zi c_t_high), .int (zi c_t_wide), .ref a_t_now, .ref a_t_trial, .ref a_t_diary, .int (zi q9.1), .int (zi q9.2.1), .ref a_t_kept, .ref a_t_isKept, .ref a_t_script, .int (zi c_t_scriptSize), .int (zi c_t_spot), .ref a_t_read, .int (zi c_t_readHigh), .int (zi c_t_readWide), .ref a_t_wanted, .ref a_t_level, .ref a_t_chosen, .ref a_t_best])), (a_t_now, zI J 243 (va_up f_t_now ((((15 : Int) * p0) + (1 : Int))).toNat (0 : Int)))] rfl ?_
        refine z_perm [(a_t, .inr (8, [.int (zi q6.2), .int (zi c_t_high), .int (zi c_t_wide), .ref a_t_now, .ref a_t_trial, .ref a_t_diary, .int (zi q9.1), .int (zi q9.2.1), .ref a_t_kept, .ref a_t_isKept, .ref a_t_script, .int (zi c_t_scriptSize), .int (zi c_t_spot), .ref a_t_read, .int (zi c_t_readHigh), .int (zi c_t_readWide), .ref a_t_wanted, .ref a_t_level, .ref a_t_chosen, .ref a_t_best])), (a_t_now, zI J 243 (va_up f_t_now ((((15 : Int) * p0) + (1 : Int))).toNat (0 : Int))), (a_t_diary, zI J 3402 q9.2.2)] [(0, .ref a_t), (1, .int (zi p0))] [1, 2, 0] [0, 1] rfl rfl rfl ?_
        cases hsh
        exact z_iret rfl dX9_release_64 ⟨rfl, rfl⟩
      · replace hsh := zif_f q hsh
        refine z_iconst (pc' := 39) dX9_release_38 rfl ?_
        refine z_perm [(a_t, .inr (8, [.int (zi q6.2), .int (zi c_t_high), .int (zi c_t_wide), .ref a_t_now, .ref a_t_trial, .ref a_t_diary, .int (zi c_t_acts), .int (zi c_t_next), .ref a_t_kept, .ref a_t_isKept, .ref a_t_script, .int (zi c_t_scriptSize), .int (zi c_t_spot), .ref a_t_read, .int (zi c_t_readHigh), .int (zi c_t_readWide), .ref a_t_wanted, .ref a_t_level, .ref a_t_chosen, .ref a_t_best])), (a_t_now, zI J 243 f_t_now), (a_t_diary, zI J 3402 f_t_diary)] [(0, .ref a_t), (1, .int (zi p0))] [2, 0, 1] [0, 1] rfl rfl rfl ?_
        cases hsh
        exact z_iret rfl dX9_release_39 ⟨rfl, rfl⟩
    · replace hsh := zif_t q hsh
      refine z_iconst (pc' := 28) dX9_release_27 rfl ?_
      refine z_goto (tgt := 32) dX9_release_28 (by decide) ?_
      obtain ⟨q13, h14, hsh⟩ := zbind hsh
      refine z_callV (pc' := 35) (C := RX9) (As := [.int (zi (2 : Int))]) (rest := []) (wr := [(a_t_now, zI J 243 f_t_now), (a_t_diary, zI J 3402 f_t_diary)]) 1 (zc_X9_refused l D J F (a_t := a_t) (a_t_now := a_t_now) (a_t_trial := a_t_trial) (a_t_diary := a_t_diary) (a_t_kept := a_t_kept) (a_t_isKept := a_t_isKept) (a_t_script := a_t_script) (a_t_read := a_t_read) (a_t_wanted := a_t_wanted) (a_t_level := a_t_level) (a_t_chosen := a_t_chosen) (a_t_best := a_t_best) (c_t_refusal := c_t_refusal) (c_t_high := c_t_high) (c_t_wide := c_t_wide) (c_t_acts := c_t_acts) (c_t_next := c_t_next) (c_t_scriptSize := c_t_scriptSize) (c_t_spot := c_t_spot) (c_t_readHigh := c_t_readHigh) (c_t_readWide := c_t_readWide) (p0 := (2 : Int))  q13 h14) dX9_release_32 gX9_release_X9_refused rfl rfl rfl (by decide +kernel) ⟨Nat.le_of_ble_eq_true rfl, Nat.le_of_ble_eq_true rfl⟩ ⟨Nat.le_of_ble_eq_true rfl, Nat.le_of_ble_eq_true rfl⟩ (z_spl_of [2, 0, 1] rfl rfl) rfl rfl rfl rfl (Nat.le_of_ble_eq_true rfl) rfl (fun rv w9 hq => ?_)
      obtain ⟨rfl, rfl⟩ := hq
      refine z_ws [(a_t_now, zI J 243 f_t_now), (a_t_diary, zI J 3402 f_t_diary), (a_t, .inr (8, [.int (zi q13.2), .int (zi c_t_high), .int (zi c_t_wide), .ref a_t_now, .ref a_t_trial, .ref a_t_diary, .int (zi c_t_acts), .int (zi c_t_next), .ref a_t_kept, .ref a_t_isKept, .ref a_t_script, .int (zi c_t_scriptSize), .int (zi c_t_spot), .ref a_t_read, .int (zi c_t_readHigh), .int (zi c_t_readWide), .ref a_t_wanted, .ref a_t_level, .ref a_t_chosen, .ref a_t_best]))] rfl ?_
      have g15 := zkr_p hsh
      replace hsh := zkr_k hsh
      refine z_if_eq (pc' := 38) (tgt := 40) dX9_release_35 (by decide) g15 rfl (fun q => ?_) (fun q => ?_)
      · replace hsh := zif_t q hsh
        refine z_aload_n (pc' := 41) 0 dX9_release_40 rfl rfl rfl ?_
        obtain ⟨q16, h17, hsh⟩ := zbind hsh
        refine z_callV (pc' := 44) (C := RX9) (As := []) (rest := []) (wr := []) 0 (zc_X9_note l D J F (a_t := a_t) (a_t_now := a_t_now) (a_t_trial := a_t_trial) (a_t_diary := a_t_diary) (a_t_kept := a_t_kept) (a_t_isKept := a_t_isKept) (a_t_script := a_t_script) (a_t_read := a_t_read) (a_t_wanted := a_t_wanted) (a_t_level := a_t_level) (a_t_chosen := a_t_chosen) (a_t_best := a_t_best) (c_t_refusal := q13.2) (c_t_high := c_t_high) (c_t_wide := c_t_wide) (c_t_acts := c_t_acts) (c_t_next := c_t_next) (c_t_scriptSize := c_t_scriptSize) (c_t_spot := c_t_spot) (c_t_readHigh := c_t_readHigh) (c_t_readWide := c_t_readWide) (f_t_now := f_t_now) (f_t_diary := f_t_diary)  q16 h17) dX9_release_41 gX9_release_X9_note rfl rfl rfl (by decide +kernel) ⟨Nat.le_of_ble_eq_true rfl, Nat.le_of_ble_eq_true rfl⟩ ⟨Nat.le_of_ble_eq_true rfl, Nat.le_of_ble_eq_true rfl⟩ (z_spl_of [2, 0, 1] rfl rfl) rfl rfl rfl rfl (Nat.le_of_ble_eq_true rfl) rfl (fun rv w9 hq => ?_)
        obtain ⟨rfl, rfl⟩ := hq
        refine z_ws [(a_t, .inr (8, [.int (zi q13.2), .int (zi c_t_high), .int (zi c_t_wide), .ref a_t_now, .ref a_t_trial, .ref a_t_diary, .int (zi q16.1), .int (zi q16.2.1), .ref a_t_kept, .ref a_t_isKept, .ref a_t_script, .int (zi c_t_scriptSize), .int (zi c_t_spot), .ref a_t_read, .int (zi c_t_readHigh), .int (zi c_t_readWide), .ref a_t_wanted, .ref a_t_level, .ref a_t_chosen, .ref a_t_best])), (a_t_now, zI J 243 f_t_now), (a_t_diary, zI J 3402 q16.2.2)] rfl ?_
        refine z_aload_n (pc' := 45) 0 dX9_release_44 rfl rfl rfl ?_
        refine z_getfield (pc' := 48) (C := RX9) (T := TX9) (N := 20) 0 3 dX9_release_45 iX9_release_X9 rfl rfl (by decide) mX9_release_f16 rfl rfl ?_
        refine z_bipush (pc' := 50) dX9_release_48 (by decide) rfl ?_
        refine z_iload_n (pc' := 51) 1 dX9_release_50 rfl rfl rfl ?_
        refine z_imul (pc' := 52) dX9_release_51 rfl ?_
        refine z_iconst (pc' := 53) dX9_release_52 rfl ?_
        refine z_iadd (pc' := 54) dX9_release_53 rfl ?_
        refine z_iconst (pc' := 55) dX9_release_54 rfl ?_
        refine z_iastore (pc' := 56) 1 [(a_t, .inr (8, [.int (zi q13.2), .int (zi c_t_high), .int (zi c_t_wide), .ref a_t_now, .ref a_t_trial, .ref a_t_diary, .int (zi q16.1), .int (zi q16.2.1), .ref a_t_kept, .ref a_t_isKept, .ref a_t_script, .int (zi c_t_scriptSize), .int (zi c_t_spot), .ref a_t_read, .int (zi c_t_readHigh), .int (zi c_t_readWide), .ref a_t_wanted, .ref a_t_level, .ref a_t_chosen, .ref a_t_best])), (a_t_now, zI J 243 (va_up f_t_now ((((15 : Int) * p0) + (1 : Int))).toNat (0 : Int))), (a_t_diary, zI J 3402 q16.2.2)] dX9_release_55 rfl (by decide) g4 rfl rfl ?_
        refine z_aload_n (pc' := 57) 0 dX9_release_56 rfl rfl rfl ?_
        refine z_aload_n (pc' := 58) 0 dX9_release_57 rfl rfl rfl ?_
        refine z_getfield (pc' := 61) (C := RX9) (T := TX9) (N := 20) 0 3 dX9_release_58 iX9_release_X9 rfl rfl (by decide) mX9_release_f16 rfl rfl ?_
        obtain ⟨q18, h19, hsh⟩ := zbind hsh
        refine z_callV (pc' := 64) (C := RX9) (As := [.ref a_t_now]) (rest := []) (wr := [(a_t_diary, zI J 3402 q16.2.2)]) 1 (zc_X9_hungOf l D J F (a_t := a_t) (a_p0 := a_t_now) (a_t_now := a_t_now) (a_t_trial := a_t_trial) (a_t_diary := a_t_diary) (a_t_kept := a_t_kept) (a_t_isKept := a_t_isKept) (a_t_script := a_t_script) (a_t_read := a_t_read) (a_t_wanted := a_t_wanted) (a_t_level := a_t_level) (a_t_chosen := a_t_chosen) (a_t_best := a_t_best) (c_t_refusal := q13.2) (c_t_high := c_t_high) (c_t_wide := c_t_wide) (c_t_acts := q16.1) (c_t_next := q16.2.1) (c_t_scriptSize := c_t_scriptSize) (c_t_spot := c_t_spot) (c_t_readHigh := c_t_readHigh) (c_t_readWide := c_t_readWide) (f_p0 := (va_up f_t_now ((((15 : Int) * p0) + (1 : Int))).toNat (0 : Int))) (n_p0 := 243) (hn_p0 := (by decide)) q18 h19) dX9_release_61 gX9_release_X9_hungOf rfl rfl rfl (by decide +kernel) ⟨Nat.le_of_ble_eq_true rfl, Nat.le_of_ble_eq_true rfl⟩ ⟨Nat.le_of_ble_eq_true rfl, Nat.le_of_ble_eq_true rfl⟩ (z_spl_of [0, 1, 2] rfl rfl) rfl rfl rfl rfl (Nat.le_of_ble_eq_true rfl) rfl (fun rv w9 hq => ?_)
        obtain ⟨rfl, rfl⟩ := hq
        refine z_ws [(a_t_diary, zI J 3402 q16.2.2), (a_t, .inr (8, [.int (zi q13.2), .int (zi c_t_high), .int (zi c_t_wide), .ref a_t_now, .ref a_t_trial, .ref a_t_diary, .int (zi q16.1), .int (zi q16.2.1), .ref a_t_kept, .ref a_t_isKept, .ref a_t_script, .int (zi c_t_scriptSize), .int (zi c_t_spot), .ref a_t_read, .int (zi c_t_readHigh), .int (zi c_t_readWide), .ref a_t_wanted, .ref a_t_level, .ref a_t_chosen, .ref a_t_best])), (a_t_now, zI J 243 (va_up f_t_now ((((15 : Int) * p0) + (1 : Int))).toNat (0 : Int)))] rfl ?_
        refine z_perm [(a_t, .inr (8, [.int (zi q13.2), .int (zi c_t_high), .int (zi c_t_wide), .ref a_t_now, .ref a_t_trial, .ref a_t_diary, .int (zi q16.1), .int (zi q16.2.1), .ref a_t_kept, .ref a_t_isKept, .ref a_t_script, .int (zi c_t_scriptSize), .int (zi c_t_spot), .ref a_t_read, .int (zi c_t_readHigh), .int (zi c_t_readWide), .ref a_t_wanted, .ref a_t_level, .ref a_t_chosen, .ref a_t_best])), (a_t_now, zI J 243 (va_up f_t_now ((((15 : Int) * p0) + (1 : Int))).toNat (0 : Int))), (a_t_diary, zI J 3402 q16.2.2)] [(0, .ref a_t), (1, .int (zi p0))] [1, 2, 0] [0, 1] rfl rfl rfl ?_
        cases hsh
        exact z_iret rfl dX9_release_64 ⟨rfl, rfl⟩
      · replace hsh := zif_f q hsh
        refine z_iconst (pc' := 39) dX9_release_38 rfl ?_
        refine z_perm [(a_t, .inr (8, [.int (zi q13.2), .int (zi c_t_high), .int (zi c_t_wide), .ref a_t_now, .ref a_t_trial, .ref a_t_diary, .int (zi c_t_acts), .int (zi c_t_next), .ref a_t_kept, .ref a_t_isKept, .ref a_t_script, .int (zi c_t_scriptSize), .int (zi c_t_spot), .ref a_t_read, .int (zi c_t_readHigh), .int (zi c_t_readWide), .ref a_t_wanted, .ref a_t_level, .ref a_t_chosen, .ref a_t_best])), (a_t_now, zI J 243 f_t_now), (a_t_diary, zI J 3402 f_t_diary)] [(0, .ref a_t), (1, .int (zi p0))] [2, 0, 1] [0, 1] rfl rfl rfl ?_
        cases hsh
        exact z_iret rfl dX9_release_39 ⟨rfl, rfl⟩
  · replace hsh := zif_t q hsh
    refine z_iconst (pc' := 10) dX9_release_9 rfl ?_
    refine z_goto (tgt := 32) dX9_release_10 (by decide) ?_
    obtain ⟨q20, h21, hsh⟩ := zbind hsh
    refine z_callV (pc' := 35) (C := RX9) (As := [.int (zi (1 : Int))]) (rest := []) (wr := [(a_t_now, zI J 243 f_t_now), (a_t_diary, zI J 3402 f_t_diary)]) 1 (zc_X9_refused l D J F (a_t := a_t) (a_t_now := a_t_now) (a_t_trial := a_t_trial) (a_t_diary := a_t_diary) (a_t_kept := a_t_kept) (a_t_isKept := a_t_isKept) (a_t_script := a_t_script) (a_t_read := a_t_read) (a_t_wanted := a_t_wanted) (a_t_level := a_t_level) (a_t_chosen := a_t_chosen) (a_t_best := a_t_best) (c_t_refusal := c_t_refusal) (c_t_high := c_t_high) (c_t_wide := c_t_wide) (c_t_acts := c_t_acts) (c_t_next := c_t_next) (c_t_scriptSize := c_t_scriptSize) (c_t_spot := c_t_spot) (c_t_readHigh := c_t_readHigh) (c_t_readWide := c_t_readWide) (p0 := (1 : Int))  q20 h21) dX9_release_32 gX9_release_X9_refused rfl rfl rfl (by decide +kernel) ⟨Nat.le_of_ble_eq_true rfl, Nat.le_of_ble_eq_true rfl⟩ ⟨Nat.le_of_ble_eq_true rfl, Nat.le_of_ble_eq_true rfl⟩ (z_spl_of [2, 0, 1] rfl rfl) rfl rfl rfl rfl (Nat.le_of_ble_eq_true rfl) rfl (fun rv w9 hq => ?_)
    obtain ⟨rfl, rfl⟩ := hq
    refine z_ws [(a_t_now, zI J 243 f_t_now), (a_t_diary, zI J 3402 f_t_diary), (a_t, .inr (8, [.int (zi q20.2), .int (zi c_t_high), .int (zi c_t_wide), .ref a_t_now, .ref a_t_trial, .ref a_t_diary, .int (zi c_t_acts), .int (zi c_t_next), .ref a_t_kept, .ref a_t_isKept, .ref a_t_script, .int (zi c_t_scriptSize), .int (zi c_t_spot), .ref a_t_read, .int (zi c_t_readHigh), .int (zi c_t_readWide), .ref a_t_wanted, .ref a_t_level, .ref a_t_chosen, .ref a_t_best]))] rfl ?_
    have g22 := zkr_p hsh
    replace hsh := zkr_k hsh
    refine z_if_eq (pc' := 38) (tgt := 40) dX9_release_35 (by decide) g22 rfl (fun q => ?_) (fun q => ?_)
    · replace hsh := zif_t q hsh
      refine z_aload_n (pc' := 41) 0 dX9_release_40 rfl rfl rfl ?_
      obtain ⟨q23, h24, hsh⟩ := zbind hsh
      refine z_callV (pc' := 44) (C := RX9) (As := []) (rest := []) (wr := []) 0 (zc_X9_note l D J F (a_t := a_t) (a_t_now := a_t_now) (a_t_trial := a_t_trial) (a_t_diary := a_t_diary) (a_t_kept := a_t_kept) (a_t_isKept := a_t_isKept) (a_t_script := a_t_script) (a_t_read := a_t_read) (a_t_wanted := a_t_wanted) (a_t_level := a_t_level) (a_t_chosen := a_t_chosen) (a_t_best := a_t_best) (c_t_refusal := q20.2) (c_t_high := c_t_high) (c_t_wide := c_t_wide) (c_t_acts := c_t_acts) (c_t_next := c_t_next) (c_t_scriptSize := c_t_scriptSize) (c_t_spot := c_t_spot) (c_t_readHigh := c_t_readHigh) (c_t_readWide := c_t_readWide) (f_t_now := f_t_now) (f_t_diary := f_t_diary)  q23 h24) dX9_release_41 gX9_release_X9_note rfl rfl rfl (by decide +kernel) ⟨Nat.le_of_ble_eq_true rfl, Nat.le_of_ble_eq_true rfl⟩ ⟨Nat.le_of_ble_eq_true rfl, Nat.le_of_ble_eq_true rfl⟩ (z_spl_of [2, 0, 1] rfl rfl) rfl rfl rfl rfl (Nat.le_of_ble_eq_true rfl) rfl (fun rv w9 hq => ?_)
      obtain ⟨rfl, rfl⟩ := hq
      refine z_ws [(a_t, .inr (8, [.int (zi q20.2), .int (zi c_t_high), .int (zi c_t_wide), .ref a_t_now, .ref a_t_trial, .ref a_t_diary, .int (zi q23.1), .int (zi q23.2.1), .ref a_t_kept, .ref a_t_isKept, .ref a_t_script, .int (zi c_t_scriptSize), .int (zi c_t_spot), .ref a_t_read, .int (zi c_t_readHigh), .int (zi c_t_readWide), .ref a_t_wanted, .ref a_t_level, .ref a_t_chosen, .ref a_t_best])), (a_t_now, zI J 243 f_t_now), (a_t_diary, zI J 3402 q23.2.2)] rfl ?_
      refine z_aload_n (pc' := 45) 0 dX9_release_44 rfl rfl rfl ?_
      refine z_getfield (pc' := 48) (C := RX9) (T := TX9) (N := 20) 0 3 dX9_release_45 iX9_release_X9 rfl rfl (by decide) mX9_release_f16 rfl rfl ?_
      refine z_bipush (pc' := 50) dX9_release_48 (by decide) rfl ?_
      refine z_iload_n (pc' := 51) 1 dX9_release_50 rfl rfl rfl ?_
      refine z_imul (pc' := 52) dX9_release_51 rfl ?_
      refine z_iconst (pc' := 53) dX9_release_52 rfl ?_
      refine z_iadd (pc' := 54) dX9_release_53 rfl ?_
      refine z_iconst (pc' := 55) dX9_release_54 rfl ?_
      have g25 := zkx_p hsh
      replace hsh := zkx_k hsh
      refine z_iastore (pc' := 56) 1 [(a_t, .inr (8, [.int (zi q20.2), .int (zi c_t_high), .int (zi c_t_wide), .ref a_t_now, .ref a_t_trial, .ref a_t_diary, .int (zi q23.1), .int (zi q23.2.1), .ref a_t_kept, .ref a_t_isKept, .ref a_t_script, .int (zi c_t_scriptSize), .int (zi c_t_spot), .ref a_t_read, .int (zi c_t_readHigh), .int (zi c_t_readWide), .ref a_t_wanted, .ref a_t_level, .ref a_t_chosen, .ref a_t_best])), (a_t_now, zI J 243 (va_up f_t_now ((((15 : Int) * p0) + (1 : Int))).toNat (0 : Int))), (a_t_diary, zI J 3402 q23.2.2)] dX9_release_55 rfl (by decide) g25 rfl rfl ?_
      refine z_aload_n (pc' := 57) 0 dX9_release_56 rfl rfl rfl ?_
      refine z_aload_n (pc' := 58) 0 dX9_release_57 rfl rfl rfl ?_
      refine z_getfield (pc' := 61) (C := RX9) (T := TX9) (N := 20) 0 3 dX9_release_58 iX9_release_X9 rfl rfl (by decide) mX9_release_f16 rfl rfl ?_
      obtain ⟨q26, h27, hsh⟩ := zbind hsh
      refine z_callV (pc' := 64) (C := RX9) (As := [.ref a_t_now]) (rest := []) (wr := [(a_t_diary, zI J 3402 q23.2.2)]) 1 (zc_X9_hungOf l D J F (a_t := a_t) (a_p0 := a_t_now) (a_t_now := a_t_now) (a_t_trial := a_t_trial) (a_t_diary := a_t_diary) (a_t_kept := a_t_kept) (a_t_isKept := a_t_isKept) (a_t_script := a_t_script) (a_t_read := a_t_read) (a_t_wanted := a_t_wanted) (a_t_level := a_t_level) (a_t_chosen := a_t_chosen) (a_t_best := a_t_best) (c_t_refusal := q20.2) (c_t_high := c_t_high) (c_t_wide := c_t_wide) (c_t_acts := q23.1) (c_t_next := q23.2.1) (c_t_scriptSize := c_t_scriptSize) (c_t_spot := c_t_spot) (c_t_readHigh := c_t_readHigh) (c_t_readWide := c_t_readWide) (f_p0 := (va_up f_t_now ((((15 : Int) * p0) + (1 : Int))).toNat (0 : Int))) (n_p0 := 243) (hn_p0 := (by decide)) q26 h27) dX9_release_61 gX9_release_X9_hungOf rfl rfl rfl (by decide +kernel) ⟨Nat.le_of_ble_eq_true rfl, Nat.le_of_ble_eq_true rfl⟩ ⟨Nat.le_of_ble_eq_true rfl, Nat.le_of_ble_eq_true rfl⟩ (z_spl_of [0, 1, 2] rfl rfl) rfl rfl rfl rfl (Nat.le_of_ble_eq_true rfl) rfl (fun rv w9 hq => ?_)
      obtain ⟨rfl, rfl⟩ := hq
      refine z_ws [(a_t_diary, zI J 3402 q23.2.2), (a_t, .inr (8, [.int (zi q20.2), .int (zi c_t_high), .int (zi c_t_wide), .ref a_t_now, .ref a_t_trial, .ref a_t_diary, .int (zi q23.1), .int (zi q23.2.1), .ref a_t_kept, .ref a_t_isKept, .ref a_t_script, .int (zi c_t_scriptSize), .int (zi c_t_spot), .ref a_t_read, .int (zi c_t_readHigh), .int (zi c_t_readWide), .ref a_t_wanted, .ref a_t_level, .ref a_t_chosen, .ref a_t_best])), (a_t_now, zI J 243 (va_up f_t_now ((((15 : Int) * p0) + (1 : Int))).toNat (0 : Int)))] rfl ?_
      refine z_perm [(a_t, .inr (8, [.int (zi q20.2), .int (zi c_t_high), .int (zi c_t_wide), .ref a_t_now, .ref a_t_trial, .ref a_t_diary, .int (zi q23.1), .int (zi q23.2.1), .ref a_t_kept, .ref a_t_isKept, .ref a_t_script, .int (zi c_t_scriptSize), .int (zi c_t_spot), .ref a_t_read, .int (zi c_t_readHigh), .int (zi c_t_readWide), .ref a_t_wanted, .ref a_t_level, .ref a_t_chosen, .ref a_t_best])), (a_t_now, zI J 243 (va_up f_t_now ((((15 : Int) * p0) + (1 : Int))).toNat (0 : Int))), (a_t_diary, zI J 3402 q23.2.2)] [(0, .ref a_t), (1, .int (zi p0))] [1, 2, 0] [0, 1] rfl rfl rfl ?_
      cases hsh
      exact z_iret rfl dX9_release_64 ⟨rfl, rfl⟩
    · replace hsh := zif_f q hsh
      refine z_iconst (pc' := 39) dX9_release_38 rfl ?_
      refine z_perm [(a_t, .inr (8, [.int (zi q20.2), .int (zi c_t_high), .int (zi c_t_wide), .ref a_t_now, .ref a_t_trial, .ref a_t_diary, .int (zi c_t_acts), .int (zi c_t_next), .ref a_t_kept, .ref a_t_isKept, .ref a_t_script, .int (zi c_t_scriptSize), .int (zi c_t_spot), .ref a_t_read, .int (zi c_t_readHigh), .int (zi c_t_readWide), .ref a_t_wanted, .ref a_t_level, .ref a_t_chosen, .ref a_t_best])), (a_t_now, zI J 243 f_t_now), (a_t_diary, zI J 3402 f_t_diary)] [(0, .ref a_t), (1, .int (zi p0))] [2, 0, 1] [0, 1] rfl rfl rfl ?_
      cases hsh
      exact z_iret rfl dX9_release_39 ⟨rfl, rfl⟩
