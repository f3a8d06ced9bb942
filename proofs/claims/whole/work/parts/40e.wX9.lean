def sh_X9_setBound (F : Nat) (c_t_high : Int) (c_t_wide : Int) (c_t_acts : Int) (c_t_next : Int) (f_t_now : Nat → Int) (f_t_diary : Nat → Int) (p0 : Int) : Option (Int × Int × Int × Int × (Nat → Int) × (Nat → Int)) := zkr p0 ((sh_X9_in F p0 (1 : Int) (9 : Int)).bind (fun (q2 : Int) => zkr q2 (if q2 = (0 : Int) then (sh_X9_refused F (1 : Int)).bind (fun (q18 : Int × Int) => zkr q18.1 (if q18.1 = (0 : Int) then (sh_X9_note F c_t_acts c_t_next f_t_now f_t_diary).bind (fun (q21 : Int × Int × (Nat → Int)) => some ((f_t_now ((240 : Int)).toNat), q18.2, q21.1, q21.2.1, (va_up f_t_now ((240 : Int)).toNat p0), q21.2.2)) else some ((0 : Int), q18.2, c_t_acts, c_t_next, f_t_now, f_t_diary))) else (sh_X9_isKeptBy F c_t_high c_t_wide f_t_now p0).bind (fun (q5 : Int) => zkr q5 (if q5 = (0 : Int) then (sh_X9_refused F (2 : Int)).bind (fun (q13 : Int × Int) => zkr q13.1 (if q13.1 = (0 : Int) then (sh_X9_note F c_t_acts c_t_next f_t_now f_t_diary).bind (fun (q16 : Int × Int × (Nat → Int)) => some ((f_t_now ((240 : Int)).toNat), q13.2, q16.1, q16.2.1, (va_up f_t_now ((240 : Int)).toNat p0), q16.2.2)) else some ((0 : Int), q13.2, c_t_acts, c_t_next, f_t_now, f_t_diary))) else (sh_X9_refused F (0 : Int)).bind (fun (q8 : Int × Int) => zkr q8.1 (if q8.1 = (0 : Int) then (sh_X9_note F c_t_acts c_t_next f_t_now f_t_diary).bind (fun (q11 : Int × Int × (Nat → Int)) => some ((f_t_now ((240 : Int)).toNat), q8.2, q11.1, q11.2.1, (va_up f_t_now ((240 : Int)).toNat p0), q11.2.2)) else some ((0 : Int), q8.2, c_t_acts, c_t_next, f_t_now, f_t_diary))))))))
theorem mX9_setBound_k151 : Cond.constantLong RX9 151 (9) ∈ wsX9_setBound := List.mem_of_getElem? (i := 1) rfl
theorem mX9_setBound_f16 : Cond.fieldLink RX9 16 (TX9 3).1 (TX9 3).2.1 (TX9 3).2.2.1 ∈ wsX9_setBound := List.mem_of_getElem? (i := 2) rfl
theorem iX9_setBound_X9 : ∀ w ∈ wsX90, w ∈ wsX9_setBound := fun _ h => (List.mem_cons_of_mem _ (List.mem_append_right _ h))
set_option maxRecDepth 100000 in
set_option maxHeartbeats 4000000 in
theorem zc_X9_setBound (l : Launch) (D : va_G) (J : Nat → ClassId) (F : Nat) (a_t : Nat) (a_t_now : Nat) (a_t_trial : Nat) (a_t_diary : Nat) (a_t_kept : Nat) (a_t_isKept : Nat) (a_t_script : Nat) (a_t_read : Nat) (a_t_wanted : Nat) (a_t_level : Nat) (a_t_chosen : Nat) (a_t_best : Nat) (c_t_refusal : Int) (c_t_high : Int) (c_t_wide : Int) (c_t_acts : Int) (c_t_next : Int) (c_t_scriptSize : Int) (c_t_spot : Int) (c_t_readHigh : Int) (c_t_readWide : Int) (f_t_now : Nat → Int) (f_t_diary : Nat → Int) (p0 : Int) (res : Int × Int × Int × Int × (Nat → Int) × (Nat → Int)) (hsh : sh_X9_setBound F c_t_high c_t_wide c_t_acts c_t_next f_t_now f_t_diary p0 = some res) : ZM l D J yX9_setBound wsX9_setBound ({ frames := 2, cells := 0, slots := 0, locals := 48 } : Room) 0 0 [.ref a_t, .int (zi p0)] [(a_t, .inr (8, [.int (zi c_t_refusal), .int (zi c_t_high), .int (zi c_t_wide), .ref a_t_now, .ref a_t_trial, .ref a_t_diary, .int (zi c_t_acts), .int (zi c_t_next), .ref a_t_kept, .ref a_t_isKept, .ref a_t_script, .int (zi c_t_scriptSize), .int (zi c_t_spot), .ref a_t_read, .int (zi c_t_readHigh), .int (zi c_t_readWide), .ref a_t_wanted, .ref a_t_level, .ref a_t_chosen, .ref a_t_best])), (a_t_now, zI J 243 f_t_now), (a_t_diary, zI J 3402 f_t_diary)] (fun rv w9 => rv = some (.int (zi res.1)) ∧ w9 = [(a_t, .inr (8, [.int (zi res.2.1), .int (zi c_t_high), .int (zi c_t_wide), .ref a_t_now, .ref a_t_trial, .ref a_t_diary, .int (zi res.2.2.1), .int (zi res.2.2.2.1), .ref a_t_kept, .ref a_t_isKept, .ref a_t_script, .int (zi c_t_scriptSize), .int (zi c_t_spot), .ref a_t_read, .int (zi c_t_readHigh), .int (zi c_t_readWide), .ref a_t_wanted, .ref a_t_level, .ref a_t_chosen, .ref a_t_best])), (a_t_now, zI J 243 res.2.2.2.2.1), (a_t_diary, zI J 3402 res.2.2.2.2.2)]) := by
  refine z_ofZ (cc := cX9_setBound) (maxL := 3) (ret := (some .int)) 0 0 (by decide) rfl (Nat.le_of_ble_eq_true rfl) [(0, .ref a_t), (1, .int (zi p0))] rfl ?_
  intro p e s m args below meth c A
  unfold sh_X9_setBound at hsh
  refine z_aload_n (pc' := 1) 0 dX9_setBound_0 rfl rfl rfl ?_
  refine z_iload_n (pc' := 2) 1 dX9_setBound_1 rfl rfl rfl ?_
  have g1 := zkr_p hsh
  replace hsh := zkr_k hsh
  refine z_i2l (pc' := 3) dX9_setBound_2 g1 rfl ?_
  refine z_lconst (pc' := 4) 1 dX9_setBound_3 (by decide) rfl ?_
  refine z_ldc2 (pc' := 7) (9 : Int) dX9_setBound_4 mX9_setBound_k151 (by decide) rfl ?_
  obtain ⟨q2, h3, hsh⟩ := zbind hsh
  refine z_callS (pc' := 10) (As := [.long (zl p0), .long (zl (1 : Int)), .long (zl (9 : Int))]) (rest := [.ref a_t]) (wr := [(a_t, .inr (8, [.int (zi c_t_refusal), .int (zi c_t_high), .int (zi c_t_wide), .ref a_t_now, .ref a_t_trial, .ref a_t_diary, .int (zi c_t_acts), .int (zi c_t_next), .ref a_t_kept, .ref a_t_isKept, .ref a_t_script, .int (zi c_t_scriptSize), .int (zi c_t_spot), .ref a_t_read, .int (zi c_t_readHigh), .int (zi c_t_readWide), .ref a_t_wanted, .ref a_t_level, .ref a_t_chosen, .ref a_t_best])), (a_t_now, zI J 243 f_t_now), (a_t_diary, zI J 3402 f_t_diary)]) 3 (zc_X9_in l D J F (p0 := p0) (p1 := (1 : Int)) (p2 := (9 : Int))  q2 h3) dX9_setBound_7 gX9_setBound_X9_in rfl rfl rfl (by decide +kernel) ⟨Nat.le_of_ble_eq_true rfl, Nat.le_of_ble_eq_true rfl⟩ ⟨Nat.le_of_ble_eq_true rfl, Nat.le_of_ble_eq_true rfl⟩ (z_spl_of [0, 1, 2] rfl rfl) rfl rfl (Nat.le_of_ble_eq_true rfl) rfl (fun rv w9 hq => ?_)
  obtain ⟨rfl, rfl⟩ := hq
  refine z_ws [(a_t, .inr (8, [.int (zi c_t_refusal), .int (zi c_t_high), .int (zi c_t_wide), .ref a_t_now, .ref a_t_trial, .ref a_t_diary, .int (zi c_t_acts), .int (zi c_t_next), .ref a_t_kept, .ref a_t_isKept, .ref a_t_script, .int (zi c_t_scriptSize), .int (zi c_t_spot), .ref a_t_read, .int (zi c_t_readHigh), .int (zi c_t_readWide), .ref a_t_wanted, .ref a_t_level, .ref a_t_chosen, .ref a_t_best])), (a_t_now, zI J 243 f_t_now), (a_t_diary, zI J 3402 f_t_diary)] rfl ?_
  have g4 := zkr_p hsh
  replace hsh := zkr_k hsh
  refine z_if_ne (pc' := 13) (tgt := 17) dX9_setBound_10 (by decide) g4 rfl (fun q => ?_) (fun q => ?_)
  · replace hsh := zif_f q hsh
    refine z_aload_n (pc' := 18) 0 dX9_setBound_17 rfl rfl rfl ?_
    refine z_iload_n (pc' := 19) 1 dX9_setBound_18 rfl rfl rfl ?_
    obtain ⟨q5, h6, hsh⟩ := zbind hsh
    refine z_callV (pc' := 22) (C := RX9) (As := [.int (zi p0)]) (rest := [.ref a_t]) (wr := [(a_t_diary, zI J 3402 f_t_diary)]) 1 (zc_X9_isKeptBy l D J F (a_t := a_t) (a_t_now := a_t_now) (a_t_trial := a_t_trial) (a_t_diary := a_t_diary) (a_t_kept := a_t_kept) (a_t_isKept := a_t_isKept) (a_t_script := a_t_script) (a_t_read := a_t_read) (a_t_wanted := a_t_wanted) (a_t_level := a_t_level) (a_t_chosen := a_t_chosen) (a_t_best := a_t_best) (c_t_refusal := c_t_refusal) (c_t_high := c_t_high) (c_t_wide := c_t_wide) (c_t_acts := c_t_acts) (c_t_next := c_t_next) (c_t_scriptSize := c_t_scriptSize) (c_t_spot := c_t_spot) (c_t_readHigh := c_t_readHigh) (c_t_readWide := c_t_readWide) (f_t_now := f_t_now) (p0 := p0)  q5 h6) dX9_setBound_19 gX9_setBound_X9_isKeptBy rfl rfl rfl (by decide +kernel) ⟨Nat.le_of_ble_eq_true rfl, Nat.le_of_ble_eq_true rfl⟩ ⟨Nat.le_of_ble_eq_true rfl, Nat.le_of_ble_eq_true rfl⟩ (z_spl_of [0, 1, 2] rfl rfl) rfl rfl rfl rfl (Nat.le_of_ble_eq_true rfl) rfl (fun rv w9 hq => ?_)
    obtain ⟨rfl, rfl⟩ := hq
    refine z_ws [(a_t_diary, zI J 3402 f_t_diary), (a_t, .inr (8, [.int (zi c_t_refusal), .int (zi c_t_high), .int (zi c_t_wide), .ref a_t_now, .ref a_t_trial, .ref a_t_diary, .int (zi c_t_acts), .int (zi c_t_next), .ref a_t_kept, .ref a_t_isKept, .ref a_t_script, .int (zi c_t_scriptSize), .int (zi c_t_spot), .ref a_t_read, .int (zi c_t_readHigh), .int (zi c_t_readWide), .ref a_t_wanted, .ref a_t_level, .ref a_t_chosen, .ref a_t_best])), (a_t_now, zI J 243 f_t_now)] rfl ?_
    have g7 := zkr_p hsh
    replace hsh := zkr_k hsh
    refine z_if_ne (pc' := 25) (tgt := 29) dX9_setBound_22 (by decide) g7 rfl (fun q => ?_) (fun q => ?_)
    · replace hsh := zif_f q hsh
      refine z_iconst (pc' := 30) dX9_setBound_29 rfl ?_
      obtain ⟨q8, h9, hsh⟩ := zbind hsh
      refine z_callV (pc' := 33) (C := RX9) (As := [.int (zi (0 : Int))]) (rest := []) (wr := [(a_t_diary, zI J 3402 f_t_diary), (a_t_now, zI J 243 f_t_now)]) 1 (zc_X9_refused l D J F (a_t := a_t) (a_t_now := a_t_now) (a_t_trial := a_t_trial) (a_t_diary := a_t_diary) (a_t_kept := a_t_kept) (a_t_isKept := a_t_isKept) (a_t_script := a_t_script) (a_t_read := a_t_read) (a_t_wanted := a_t_wanted) (a_t_level := a_t_level) (a_t_chosen := a_t_chosen) (a_t_best := a_t_best) (c_t_refusal := c_t_refusal) (c_t_high := c_t_high) (c_t_wide := c_t_wide) (c_t_acts := c_t_acts) (c_t_next := c_t_next) (c_t_scriptSize := c_t_scriptSize) (c_t_spot := c_t_spot) (c_t_readHigh := c_t_readHigh) (c_t_readWide := c_t_readWide) (p0 := (0 : Int))  q8 h9) dX9_setBound_30 gX9_setBound_X9_refused rfl rfl rfl (by decide +kernel) ⟨Nat.le_of_ble_eq_true rfl, Nat.le_of_ble_eq_true rfl⟩ ⟨Nat.le_of_ble_eq_true rfl, Nat.le_of_ble_eq_true rfl⟩ (z_spl_of [1, 0, 2] rfl rfl) rfl rfl rfl rfl (Nat.le_of_ble_eq_true rfl) rfl (fun rv w9 hq => ?_)
      obtain ⟨rfl, rfl⟩ := hq
      refine z_ws [(a_t_diary, zI J 3402 f_t_diary), (a_t_now, zI J 243 f_t_now), (a_t, .inr (8, [.int (zi q8.2), .int (zi c_t_high), .int (zi c_t_wide), .ref a_t_now, .ref a_t_trial, .ref a_t_diary, .int (zi c_t_acts), .int (zi c_t_next), .ref a_t_kept, .ref a_t_isKept, .ref a_t_script, .int (zi c_t_scriptSize), .int (zi c_t_spot), .ref a_t_read, .int (zi c_t_readHigh), .int (zi c_t_readWide), .ref a_t_wanted, .ref a_t_level, .ref a_t_chosen, .ref a_t_best]))] rfl ?_
      have g10 := zkr_p hsh
      replace hsh := zkr_k hsh
      refine z_if_eq (pc' := 36) (tgt := 38) dX9_setBound_33 (by decide) g10 rfl (fun q => ?_) (fun q => ?_)
      · replace hsh := zif_t q hsh
        refine z_aload_n (pc' := 39) 0 dX9_setBound_38 rfl rfl rfl ?_
        obtain ⟨q11, h12, hsh⟩ := zbind hsh
        refine z_callV (pc' := 42) (C := RX9) (As := []) (rest := []) (wr := []) 0 (zc_X9_note l D J F (a_t := a_t) (a_t_now := a_t_now) (a_t_trial := a_t_trial) (a_t_diary := a_t_diary) (a_t_kept := a_t_kept) (a_t_isKept := a_t_isKept) (a_t_script := a_t_script) (a_t_read := a_t_read) (a_t_wanted := a_t_wanted) (a_t_level := a_t_level) (a_t_chosen := a_t_chosen) (a_t_best := a_t_best) (c_t_refusal := q8.2) (c_t_high := c_t_high) (c_t_wide := c_t_wide) (c_t_acts := c_t_acts) (c_t_next := c_t_next) (c_t_scriptSize := c_t_scriptSize) (c_t_spot := c_t_spot) (c_t_readHigh := c_t_readHigh) (c_t_readWide := c_t_readWide) (f_t_now := f_t_now) (f_t_diary := f_t_diary)  q11 h12) dX9_setBound_39 gX9_setBound_X9_note rfl rfl rfl (by decide +kernel) ⟨Nat.le_of_ble_eq_true rfl, Nat.le_of_ble_eq_true rfl⟩ ⟨Nat.le_of_ble_eq_true rfl, Nat.le_of_ble_eq_true rfl⟩ (z_spl_of [2, 1, 0] rfl rfl) rfl rfl rfl rfl (Nat.le_of_ble_eq_true rfl) rfl (fun rv w9 hq => ?_)
        obtain ⟨rfl, rfl⟩ := hq
        refine z_ws [(a_t, .inr (8, [.int (zi q8.2), .int (zi c_t_high), .int (zi c_t_wide), .ref a_t_now, .ref a_t_trial, .ref a_t_diary, .int (zi q11.1), .int (zi q11.2.1), .ref a_t_kept, .ref a_t_isKept, .ref a_t_script, .int (zi c_t_scriptSize), .int (zi c_t_spot), .ref a_t_read, .int (zi c_t_readHigh), .int (zi c_t_readWide), .ref a_t_wanted, .ref a_t_level, .ref a_t_chosen, .ref a_t_best])), (a_t_now, zI J 243 f_t_now), (a_t_diary, zI J 3402 q11.2.2)] rfl ?_
        refine z_aload_n (pc' := 43) 0 dX9_setBound_42 rfl rfl rfl ?_
        refine z_getfield (pc' := 46) (C := RX9) (T := TX9) (N := 20) 0 3 dX9_setBound_43 iX9_setBound_X9 rfl rfl (by decide) mX9_setBound_f16 rfl rfl ?_
        refine z_sipush (pc' := 49) dX9_setBound_46 (by decide) rfl ?_
        refine z_iaload (pc' := 50) 1 dX9_setBound_49 rfl (by decide) (by decide) rfl ?_
        refine z_istore_n (pc' := 51) [(2, .int (zi (f_t_now ((240 : Int)).toNat))), (0, .ref a_t), (1, .int (zi p0))] dX9_setBound_50 rfl (by decide) rfl rfl ?_
        refine z_aload_n (pc' := 52) 1 dX9_setBound_51 rfl rfl rfl ?_
        refine z_getfield (pc' := 55) (C := RX9) (T := TX9) (N := 20) 0 3 dX9_setBound_52 iX9_setBound_X9 rfl rfl (by decide) mX9_setBound_f16 rfl rfl ?_
        refine z_sipush (pc' := 58) dX9_setBound_55 (by decide) rfl ?_
        refine z_iload_n (pc' := 59) 2 dX9_setBound_58 rfl rfl rfl ?_
        refine z_iastore (pc' := 60) 1 [(a_t, .inr (8, [.int (zi q8.2), .int (zi c_t_high), .int (zi c_t_wide), .ref a_t_now, .ref a_t_trial, .ref a_t_diary, .int (zi q11.1), .int (zi q11.2.1), .ref a_t_kept, .ref a_t_isKept, .ref a_t_script, .int (zi c_t_scriptSize), .int (zi c_t_spot), .ref a_t_read, .int (zi c_t_readHigh), .int (zi c_t_readWide), .ref a_t_wanted, .ref a_t_level, .ref a_t_chosen, .ref a_t_best])), (a_t_now, zI J 243 (va_up f_t_now ((240 : Int)).toNat p0)), (a_t_diary, zI J 3402 q11.2.2)] dX9_setBound_59 rfl (by decide) (by decide) rfl rfl ?_
        refine z_iload_n (pc' := 61) 0 dX9_setBound_60 rfl rfl rfl ?_
        cases hsh
        exact z_iret rfl dX9_setBound_61 ⟨rfl, rfl⟩
      · replace hsh := zif_f q hsh
        refine z_iconst (pc' := 37) dX9_setBound_36 rfl ?_
        refine z_perm [(a_t, .inr (8, [.int (zi q8.2), .int (zi c_t_high), .int (zi c_t_wide), .ref a_t_now, .ref a_t_trial, .ref a_t_diary, .int (zi c_t_acts), .int (zi c_t_next), .ref a_t_kept, .ref a_t_isKept, .ref a_t_script, .int (zi c_t_scriptSize), .int (zi c_t_spot), .ref a_t_read, .int (zi c_t_readHigh), .int (zi c_t_readWide), .ref a_t_wanted, .ref a_t_level, .ref a_t_chosen, .ref a_t_best])), (a_t_now, zI J 243 f_t_now), (a_t_diary, zI J 3402 f_t_diary)] [(0, .ref a_t), (1, .int (zi p0))] [2, 1, 0] [0, 1] rfl rfl rfl ?_
        cases hsh
        exact z_iret rfl dX9_setBound_37 ⟨rfl, rfl⟩
    · replace hsh := zif_t q hsh
      refine z_iconst (pc' := 26) dX9_setBound_25 rfl ?_
      refine z_goto (tgt := 30) dX9_setBound_26 (by decide) ?_
      obtain ⟨q13, h14, hsh⟩ := zbind hsh
      refine z_callV (pc' := 33) (C := RX9) (As := [.int (zi (2 : Int))]) (rest := []) (wr := [(a_t_diary, zI J 3402 f_t_diary), (a_t_now, zI J 243 f_t_now)]) 1 (zc_X9_refused l D J F (a_t := a_t) (a_t_now := a_t_now) (a_t_trial := a_t_trial) (a_t_diary := a_t_diary) (a_t_kept := a_t_kept) (a_t_isKept := a_t_isKept) (a_t_script := a_t_script) (a_t_read := a_t_read) (a_t_wanted := a_t_wanted) (a_t_level := a_t_level) (a_t_chosen := a_t_chosen) (a_t_best := a_t_best) (c_t_refusal := c_t_refusal) (c_t_high := c_t_high) (c_t_wide := c_t_wide) (c_t_acts := c_t_acts) (c_t_next := c_t_next) (c_t_scriptSize := c_t_scriptSize) (c_t_spot := c_t_spot) (c_t_readHigh := c_t_readHigh) (c_t_readWide := c_t_readWide) (p0 := (2 : Int))  q13 h14) dX9_setBound_30 gX9_setBound_X9_refused rfl rfl rfl (by decide +kernel) ⟨Nat.le_of_ble_eq_true rfl, Nat.le_of_ble_eq_true rfl⟩ ⟨Nat.le_of_ble_eq_true rfl, Nat.le_of_ble_eq_true rfl⟩ (z_spl_of [1, 0, 2] rfl rfl) rfl rfl rfl rfl (Nat.le_of_ble_eq_true rfl) rfl (fun rv w9 hq => ?_)
      obtain ⟨rfl, rfl⟩ := hq
      refine z_ws [(a_t_diary, zI J 3402 f_t_diary), (a_t_now, zI J 243 f_t_now), (a_t, .inr (8, [.int (zi q13.2), .int (zi c_t_high), .int (zi c_t_wide), .ref a_t_now, .ref a_t_trial, .ref a_t_diary, .int (zi c_t_acts), .int (zi c_t_next), .ref a_t_kept, .ref a_t_isKept, .ref a_t_script, .int (zi c_t_scriptSize), .int (zi c_t_spot), .ref a_t_read, .int (zi c_t_readHigh), .int (zi c_t_readWide), .ref a_t_wanted, .ref a_t_level, .ref a_t_chosen, .ref a_t_best]))] rfl ?_
      have g15 := zkr_p hsh
      replace hsh := zkr_k hsh
      refine z_if_eq (pc' := 36) (tgt := 38) dX9_setBound_33 (by decide) g15 rfl (fun q => ?_) (fun q => ?_)
      · replace hsh := zif_t q hsh
        refine z_aload_n (pc' := 39) 0 dX9_setBound_38 rfl rfl rfl ?_
        obtain ⟨q16, h17, hsh⟩ := zbind hsh
        refine z_callV (pc' := 42) (C := RX9) (As := []) (rest := []) (wr := []) 0 (zc_X9_note l D J F (a_t := a_t) (a_t_now := a_t_now) (a_t_trial := a_t_trial) (a_t_diary := a_t_diary) (a_t_kept := a_t_kept) (a_t_isKept := a_t_isKept) (a_t_script := a_t_script) (a_t_read := a_t_read) (a_t_wanted := a_t_wanted) (a_t_level := a_t_level) (a_t_chosen := a_t_chosen) (a_t_best := a_t_best) (c_t_refusal := q13.2) (c_t_high := c_t_high) (c_t_wide := c_t_wide) (c_t_acts := c_t_acts) (c_t_next := c_t_next) (c_t_scriptSize := c_t_scriptSize) (c_t_spot := c_t_spot) (c_t_readHigh := c_t_readHigh) (c_t_readWide := c_t_readWide) (f_t_now := f_t_now) (f_t_diary := f_t_diary)  q16 h17) dX9_setBound_39 gX9_setBound_X9_note rfl rfl rfl (by decide +kernel) ⟨Nat.le_of_ble_eq_true rfl, Nat.le_of_ble_eq_true rfl⟩ ⟨Nat.le_of_ble_eq_true rfl, Nat.le_of_ble_eq_true rfl⟩ (z_spl_of [2, 1, 0] rfl rfl) rfl rfl rfl rfl (Nat.le_of_ble_eq_true rfl) rfl (fun rv w9 hq => ?_)
        obtain ⟨rfl, rfl⟩ := hq
        refine z_ws [(a_t, .inr (8, [.int (zi q13.2), .int (zi c_t_high), .int (zi c_t_wide), .ref a_t_now, .ref a_t_trial, .ref a_t_diary, .int (zi q16.1), .int (zi q16.2.1), .ref a_t_kept, .ref a_t_isKept, .ref a_t_script, .int (zi c_t_scriptSize), .int (zi c_t_spot), .ref a_t_read, .int (zi c_t_readHigh), .int (zi c_t_readWide), .ref a_t_wanted, .ref a_t_level, .ref a_t_chosen, .ref a_t_best])), (a_t_now, zI J 243 f_t_now), (a_t_diary, zI J 3402 q16.2.2)] rfl ?_
        refine z_aload_n (pc' := 43) 0 dX9_setBound_42 rfl rfl rfl ?_
        refine z_getfield (pc' := 46) (C := RX9) (T := TX9) (N := 20) 0 3 dX9_setBound_43 iX9_setBound_X9 rfl rfl (by decide) mX9_setBound_f16 rfl rfl ?_
        refine z_sipush (pc' := 49) dX9_setBound_46 (by decide) rfl ?_
        refine z_iaload (pc' := 50) 1 dX9_setBound_49 rfl (by decide) (by decide) rfl ?_
        refine z_istore_n (pc' := 51) [(2, .int (zi (f_t_now ((240 : Int)).toNat))), (0, .ref a_t), (1, .int (zi p0))] dX9_setBound_50 rfl (by decide) rfl rfl ?_
        refine z_aload_n (pc' := 52) 1 dX9_setBound_51 rfl rfl rfl ?_
        refine z_getfield (pc' := 55) (C := RX9) (T := TX9) (N := 20) 0 3 dX9_setBound_52 iX9_setBound_X9 rfl rfl (by decide) mX9_setBound_f16 rfl rfl ?_
        refine z_sipush (pc' := 58) dX9_setBound_55 (by decide) rfl ?_
        refine z_iload_n (pc' := 59) 2 dX9_setBound_58 rfl rfl rfl ?_
        refine z_iastore (pc' := 60) 1 [(a_t, .inr (8, [.int (zi q13.2), .int (zi c_t_high), .int (zi c_t_wide), .ref a_t_now, .ref a_t_trial, .ref a_t_diary, .int (zi q16.1), .int (zi q16.2.1), .ref a_t_kept, .ref a_t_isKept, .ref a_t_script, .int (zi c_t_scriptSize), .int (zi c_t_spot), .ref a_t_read, .int (zi c_t_readHigh), .int (zi c_t_readWide), .ref a_t_wanted, .ref a_t_level, .ref a_t_chosen, .ref a_t_best])), (a_t_now, zI J 243 (va_up f_t_now ((240 : Int)).toNat p0)), (a_t_diary, zI J 3402 q16.2.2)] dX9_setBound_59 rfl (by decide) (by decide) rfl rfl ?_
        refine z_iload_n (pc' := 61) 0 dX9_setBound_60 rfl rfl rfl ?_
        cases hsh
        exact z_iret rfl dX9_setBound_61 ⟨rfl, rfl⟩
      · replace hsh := zif_f q hsh
        refine z_iconst (pc' := 37) dX9_setBound_36 rfl ?_
        refine z_perm [(a_t, .inr (8, [.int (zi q13.2), .int (zi c_t_high), .int (zi c_t_wide), .ref a_t_now, .ref a_t_trial, .ref a_t_diary, .int (zi c_t_acts), .int (zi c_t_next), .ref a_t_kept, .ref a_t_isKept, .ref a_t_script, .int (zi c_t_scriptSize), .int (zi c_t_spot), .ref a_t_read, .int (zi c_t_readHigh), .int (zi c_t_readWide), .ref a_t_wanted, .ref a_t_level, .ref a_t_chosen, .ref a_t_best])), (a_t_now, zI J 243 f_t_now), (a_t_diary, zI J 3402 f_t_diary)] [(0, .ref a_t), (1, .int (zi p0))] [2, 1, 0] [0, 1] rfl rfl rfl ?_
        cases hsh
        exact z_iret rfl dX9_setBound_37 ⟨rfl, rfl⟩
  · replace hsh := zif_t q hsh
    refine z_iconst (pc' := 14) dX9_setBound_13 rfl ?_
    refine z_goto (tgt := 30) dX9_setBound_14 (by decide) ?_
    obtain ⟨q18, h19, hsh⟩ := zbind hsh
    refine z_callV (pc' := 33) (C := RX9) (As := [.int (zi (1 : Int))]) (rest := []) (wr := [(a_t_now, zI J 243 f_t_now), (a_t_diary, zI J 3402 f_t_diary)]) 1 (zc_X9_refused l D J F (a_t := a_t) (a_t_now := a_t_now) (a_t_trial := a_t_trial) (a_t_diary := a_t_diary) (a_t_kept := a_t_kept) (a_t_isKept := a_t_isKept) (a_t_script := a_t_script) (a_t_read := a_t_read) (a_t_wanted := a_t_wanted) (a_t_level := a_t_level) (a_t_chosen := a_t_chosen) (a_t_best := a_t_best) (c_t_refusal := c_t_refusal) (c_t_high := c_t_high) (c_t_wide := c_t_wide) (c_t_acts := c_t_acts) (c_t_next := c_t_next) (c_t_scriptSize := c_t_scriptSize) (c_t_spot := c_t_spot) (c_t_readHigh := c_t_readHigh) (c_t_readWide := c_t_readWide) (p0 := (1 : Int))  q18 h19) dX9_setBound_30 gX9_setBound_X9_refused rfl rfl rfl (by decide +kernel) ⟨Nat.le_of_ble_eq_true rfl, Nat.le_of_ble_eq_true rfl⟩ ⟨Nat.le_of_ble_eq_true rfl, Nat.le_of_ble_eq_true rfl⟩ (z_spl_of [0, 1, 2] rfl rfl) rfl rfl rfl rfl (Nat.le_of_ble_eq_true rfl) rfl (fun rv w9 hq => ?_)
    obtain ⟨rfl, rfl⟩ := hq
    refine z_ws [(a_t_now, zI J 243 f_t_now), (a_t_diary, zI J 3402 f_t_diary), (a_t, .inr (8, [.int (zi q18.2), .int (zi c_t_high), .int (zi c_t_wide), .ref a_t_now, .ref a_t_trial, .ref a_t_diary, .int (zi c_t_acts), .int (zi c_t_next), .ref a_t_kept, .ref a_t_isKept, .ref a_t_script, .int (zi c_t_scriptSize), .int (zi c_t_spot), .ref a_t_read, .int (zi c_t_readHigh), .int (zi c_t_readWide), .ref a_t_wanted, .ref a_t_level, .ref a_t_chosen, .ref a_t_best]))] rfl ?_
    have g20 := zkr_p hsh
    replace hsh := zkr_k hsh
    refine z_if_eq (pc' := 36) (tgt := 38) dX9_setBound_33 (by decide) g20 rfl (fun q => ?_) (fun q => ?_)
    · replace hsh := zif_t q hsh
      refine z_aload_n (pc' := 39) 0 dX9_setBound_38 rfl rfl rfl ?_
      obtain ⟨q21, h22, hsh⟩ := zbind hsh
      refine z_callV (pc' := 42) (C := RX9) (As := []) (rest := []) (wr := []) 0 (zc_X9_note l D J F (a_t := a_t) (a_t_now := a_t_now) (a_t_trial := a_t_trial) (a_t_diary := a_t_diary) (a_t_kept := a_t_kept) (a_t_isKept := a_t_isKept) (a_t_script := a_t_script) (a_t_read := a_t_read) (a_t_wanted := a_t_wanted) (a_t_level := a_t_level) (a_t_chosen := a_t_chosen) (a_t_best := a_t_best) (c_t_refusal := q18.2) (c_t_high := c_t_high) (c_t_wide := c_t_wide) (c_t_acts := c_t_acts) (c_t_next := c_t_next) (c_t_scriptSize := c_t_scriptSize) (c_t_spot := c_t_spot) (c_t_readHigh := c_t_readHigh) (c_t_readWide := c_t_readWide) (f_t_now := f_t_now) (f_t_diary := f_t_diary)  q21 h22) dX9_setBound_39 gX9_setBound_X9_note rfl rfl rfl (by decide +kernel) ⟨Nat.le_of_ble_eq_true rfl, Nat.le_of_ble_eq_true rfl⟩ ⟨Nat.le_of_ble_eq_true rfl, Nat.le_of_ble_eq_true rfl⟩ (z_spl_of [2, 0, 1] rfl rfl) rfl rfl rfl rfl (Nat.le_of_ble_eq_true rfl) rfl (fun rv w9 hq => ?_)
      obtain ⟨rfl, rfl⟩ := hq
      refine z_ws [(a_t, .inr (8, [.int (zi q18.2), .int (zi c_t_high), .int (zi c_t_wide), .ref a_t_now, .ref a_t_trial, .ref a_t_diary, .int (zi q21.1), .int (zi q21.2.1), .ref a_t_kept, .ref a_t_isKept, .ref a_t_script, .int (zi c_t_scriptSize), .int (zi c_t_spot), .ref a_t_read, .int (zi c_t_readHigh), .int (zi c_t_readWide), .ref a_t_wanted, .ref a_t_level, .ref a_t_chosen, .ref a_t_best])), (a_t_now, zI J 243 f_t_now), (a_t_diary, zI J 3402 q21.2.2)] rfl ?_
      refine z_aload_n (pc' := 43) 0 dX9_setBound_42 rfl rfl rfl ?_
      refine z_getfield (pc' := 46) (C := RX9) (T := TX9) (N := 20) 0 3 dX9_setBound_43 iX9_setBound_X9 rfl rfl (by decide) mX9_setBound_f16 rfl rfl ?_
      refine z_sipush (pc' := 49) dX9_setBound_46 (by decide) rfl ?_
      refine z_iaload (pc' := 50) 1 dX9_setBound_49 rfl (by decide) (by decide) rfl ?_
      refine z_istore_n (pc' := 51) [(2, .int (zi (f_t_now ((240 : Int)).toNat))), (0, .ref a_t), (1, .int (zi p0))] dX9_setBound_50 rfl (by decide) rfl rfl ?_
      refine z_aload_n (pc' := 52) 1 dX9_setBound_51 rfl rfl rfl ?_
      refine z_getfield (pc' := 55) (C := RX9) (T := TX9) (N := 20) 0 3 dX9_setBound_52 iX9_setBound_X9 rfl rfl (by decide) mX9_setBound_f16 rfl rfl ?_
      refine z_sipush (pc' := 58) dX9_setBound_55 (by decide) rfl ?_
      refine z_iload_n (pc' := 59) 2 dX9_setBound_58 rfl rfl rfl ?_
      refine z_iastore (pc' := 60) 1 [(a_t, .inr (8, [.int (zi q18.2), .int (zi c_t_high), .int (zi c_t_wide), .ref a_t_now, .ref a_t_trial, .ref a_t_diary, .int (zi q21.1), .int (zi q21.2.1), .ref a_t_kept, .ref a_t_isKept, .ref a_t_script, .int (zi c_t_scriptSize), .int (zi c_t_spot), .ref a_t_read, .int (zi c_t_readHigh), .int (zi c_t_readWide), .ref a_t_wanted, .ref a_t_level, .ref a_t_chosen, .ref a_t_best])), (a_t_now, zI J 243 (va_up f_t_now ((240 : Int)).toNat p0)), (a_t_diary, zI J 3402 q21.2.2)] dX9_setBound_59 rfl (by decide) (by decide) rfl rfl ?_
      refine z_iload_n (pc' := 61) 0 dX9_setBound_60 rfl rfl rfl ?_
      cases hsh
      exact z_iret rfl dX9_setBound_61 ⟨rfl, rfl⟩
    · replace hsh := zif_f q hsh
      refine z_iconst (pc' := 37) dX9_setBound_36 rfl ?_
      refine z_perm [(a_t, .inr (8, [.int (zi q18.2), .int (zi c_t_high), .int (zi c_t_wide), .ref a_t_now, .ref a_t_trial, .ref a_t_diary, .int (zi c_t_acts), .int (zi c_t_next), .ref a_t_kept, .ref a_t_isKept, .ref a_t_script, .int (zi c_t_scriptSize), .int (zi c_t_spot), .ref a_t_read, .int (zi c_t_readHigh), .int (zi c_t_readWide), .ref a_t_wanted, .ref a_t_level, .ref a_t_chosen, .ref a_t_best])), (a_t_now, zI J 243 f_t_now), (a_t_diary, zI J 3402 f_t_diary)] [(0, .ref a_t), (1, .int (zi p0))] [2, 0, 1] [0, 1] rfl rfl rfl ?_
      cases hsh
      exact z_iret rfl dX9_setBound_37 ⟨rfl, rfl⟩
def sh_X9_undo (F : Nat) (c_t_acts : Int) (c_t_next : Int) (f_t_now : Nat → Int) (f_t_diary : Nat → Int) : Option (Int × Int × Int × Int × (Nat → Int)) := zkr c_t_acts (if c_t_acts = (0 : Int) then (sh_X9_refused F (1 : Int)).bind (fun (q8 : Int × Int) => zkr q8.1 (if q8.1 = (0 : Int) then zkr ((c_t_next + (14 : Int)) - (1 : Int)) ((sh_X9_copy F f_t_diary f_t_now 3402 243 ((243 : Int) * (zmod ((c_t_next + (14 : Int)) - (1 : Int)) (14 : Int))) (0 : Int)).bind (fun (q12 : (Nat → Int)) => some ((c_t_acts - (1 : Int)), q8.2, (c_t_acts - (1 : Int)), (zmod ((c_t_next + (14 : Int)) - (1 : Int)) (14 : Int)), q12))) else some ((0 : Int), q8.2, c_t_acts, c_t_next, f_t_now))) else (sh_X9_refused F (0 : Int)).bind (fun (q2 : Int × Int) => zkr q2.1 (if q2.1 = (0 : Int) then zkr ((c_t_next + (14 : Int)) - (1 : Int)) ((sh_X9_copy F f_t_diary f_t_now 3402 243 ((243 : Int) * (zmod ((c_t_next + (14 : Int)) - (1 : Int)) (14 : Int))) (0 : Int)).bind (fun (q6 : (Nat → Int)) => some ((c_t_acts - (1 : Int)), q2.2, (c_t_acts - (1 : Int)), (zmod ((c_t_next + (14 : Int)) - (1 : Int)) (14 : Int)), q6))) else some ((0 : Int), q2.2, c_t_acts, c_t_next, f_t_now))))
theorem mX9_undo_f69 : Cond.fieldLink RX9 69 (TX9 6).1 (TX9 6).2.1 (TX9 6).2.2.1 ∈ wsX9_undo := List.mem_of_getElem? (i := 1) rfl
theorem iX9_undo_X9 : ∀ w ∈ wsX90, w ∈ wsX9_undo := fun _ h => (List.mem_cons_of_mem _ (List.mem_append_right _ h))
theorem mX9_undo_f62 : Cond.fieldLink RX9 62 (TX9 7).1 (TX9 7).2.1 (TX9 7).2.2.1 ∈ wsX9_undo := List.mem_of_getElem? (i := 2) rfl
theorem mX9_undo_f23 : Cond.fieldLink RX9 23 (TX9 5).1 (TX9 5).2.1 (TX9 5).2.2.1 ∈ wsX9_undo := List.mem_of_getElem? (i := 3) rfl
theorem mX9_undo_f16 : Cond.fieldLink RX9 16 (TX9 3).1 (TX9 3).2.1 (TX9 3).2.2.1 ∈ wsX9_undo := List.mem_of_getElem? (i := 4) rfl
set_option maxRecDepth 100000 in
set_option maxHeartbeats 4000000 in
theorem zc_X9_undo (l : Launch) (D : va_G) (J : Nat → ClassId) (F : Nat) (a_t : Nat) (a_t_now : Nat) (a_t_trial : Nat) (a_t_diary : Nat) (a_t_kept : Nat) (a_t_isKept : Nat) (a_t_script : Nat) (a_t_read : Nat) (a_t_wanted : Nat) (a_t_level : Nat) (a_t_chosen : Nat) (a_t_best : Nat) (c_t_refusal : Int) (c_t_high : Int) (c_t_wide : Int) (c_t_acts : Int) (c_t_next : Int) (c_t_scriptSize : Int) (c_t_spot : Int) (c_t_readHigh : Int) (c_t_readWide : Int) (f_t_now : Nat → Int) (f_t_diary : Nat → Int) (res : Int × Int × Int × Int × (Nat → Int)) (hsh : sh_X9_undo F c_t_acts c_t_next f_t_now f_t_diary = some res) : ZM l D J yX9_undo wsX9_undo ({ frames := 1, cells := 0, slots := 0, locals := 24 } : Room) 0 0 [.ref a_t] [(a_t, .inr (8, [.int (zi c_t_refusal), .int (zi c_t_high), .int (zi c_t_wide), .ref a_t_now, .ref a_t_trial, .ref a_t_diary, .int (zi c_t_acts), .int (zi c_t_next), .ref a_t_kept, .ref a_t_isKept, .ref a_t_script, .int (zi c_t_scriptSize), .int (zi c_t_spot), .ref a_t_read, .int (zi c_t_readHigh), .int (zi c_t_readWide), .ref a_t_wanted, .ref a_t_level, .ref a_t_chosen, .ref a_t_best])), (a_t_now, zI J 243 f_t_now), (a_t_diary, zI J 3402 f_t_diary)] (fun rv w9 => rv = some (.int (zi res.1)) ∧ w9 = [(a_t, .inr (8, [.int (zi res.2.1), .int (zi c_t_high), .int (zi c_t_wide), .ref a_t_now, .ref a_t_trial, .ref a_t_diary, .int (zi res.2.2.1), .int (zi res.2.2.2.1), .ref a_t_kept, .ref a_t_isKept, .ref a_t_script, .int (zi c_t_scriptSize), .int (zi c_t_spot), .ref a_t_read, .int (zi c_t_readHigh), .int (zi c_t_readWide), .ref a_t_wanted, .ref a_t_level, .ref a_t_chosen, .ref a_t_best])), (a_t_now, zI J 243 res.2.2.2.2), (a_t_diary, zI J 3402 f_t_diary)]) := by
  refine z_ofZ (cc := cX9_undo) (maxL := 1) (ret := (some .int)) 0 0 (by decide) rfl (Nat.le_of_ble_eq_true rfl) [(0, .ref a_t)] rfl ?_
  intro p e s m args below meth c A
  unfold sh_X9_undo at hsh
  refine z_aload_n (pc' := 1) 0 dX9_undo_0 rfl rfl rfl ?_
  refine z_aload_n (pc' := 2) 0 dX9_undo_1 rfl rfl rfl ?_
  refine z_getfield (pc' := 5) (C := RX9) (T := TX9) (N := 20) 0 6 dX9_undo_2 iX9_undo_X9 rfl rfl (by decide) mX9_undo_f69 rfl rfl ?_
  have g1 := zkr_p hsh
  replace hsh := zkr_k hsh
  refine z_if_ne (pc' := 8) (tgt := 12) dX9_undo_5 (by decide) g1 rfl (fun q => ?_) (fun q => ?_)
  · replace hsh := zif_f q hsh
    refine z_iconst (pc' := 13) dX9_undo_12 rfl ?_
    obtain ⟨q2, h3, hsh⟩ := zbind hsh
    refine z_callV (pc' := 16) (C := RX9) (As := [.int (zi (0 : Int))]) (rest := []) (wr := [(a_t_now, zI J 243 f_t_now), (a_t_diary, zI J 3402 f_t_diary)]) 1 (zc_X9_refused l D J F (a_t := a_t) (a_t_now := a_t_now) (a_t_trial := a_t_trial) (a_t_diary := a_t_diary) (a_t_kept := a_t_kept) (a_t_isKept := a_t_isKept) (a_t_script := a_t_script) (a_t_read := a_t_read) (a_t_wanted := a_t_wanted) (a_t_level := a_t_level) (a_t_chosen := a_t_chosen) (a_t_best := a_t_best) (c_t_refusal := c_t_refusal) (c_t_high := c_t_high) (c_t_wide := c_t_wide) (c_t_acts := c_t_acts) (c_t_next := c_t_next) (c_t_scriptSize := c_t_scriptSize) (c_t_spot := c_t_spot) (c_t_readHigh := c_t_readHigh) (c_t_readWide := c_t_readWide) (p0 := (0 : Int))  q2 h3) dX9_undo_13 gX9_undo_X9_refused rfl rfl rfl (by decide +kernel) ⟨Nat.le_of_ble_eq_true rfl, Nat.le_of_ble_eq_true rfl⟩ ⟨Nat.le_of_ble_eq_true rfl, Nat.le_of_ble_eq_true rfl⟩ (z_spl_of [0, 1, 2] rfl rfl) rfl rfl rfl rfl (Nat.le_of_ble_eq_true rfl) rfl (fun rv w9 hq => ?_)
    obtain ⟨rfl, rfl⟩ := hq
    refine z_ws [(a_t_now, zI J 243 f_t_now), (a_t_diary, zI J 3402 f_t_diary), (a_t, .inr (8, [.int (zi q2.2), .int (zi c_t_high), .int (zi c_t_wide), .ref a_t_now, .ref a_t_trial, .ref a_t_diary, .int (zi c_t_acts), .int (zi c_t_next), .ref a_t_kept, .ref a_t_isKept, .ref a_t_script, .int (zi c_t_scriptSize), .int (zi c_t_spot), .ref a_t_read, .int (zi c_t_readHigh), .int (zi c_t_readWide), .ref a_t_wanted, .ref a_t_level, .ref a_t_chosen, .ref a_t_best]))] rfl ?_
    have g4 := zkr_p hsh
    replace hsh := zkr_k hsh
    refine z_if_eq (pc' := 19) (tgt := 21) dX9_undo_16 (by decide) g4 rfl (fun q => ?_) (fun q => ?_)
    · replace hsh := zif_t q hsh
      refine z_aload_n (pc' := 22) 0 dX9_undo_21 rfl rfl rfl ?_
      refine z_dup (pc' := 23) dX9_undo_22 rfl rfl ?_
      refine z_getfield (pc' := 26) (C := RX9) (T := TX9) (N := 20) 2 6 dX9_undo_23 iX9_undo_X9 rfl rfl (by decide) mX9_undo_f69 rfl rfl ?_
      refine z_iconst (pc' := 27) dX9_undo_26 rfl ?_
      refine z_isub (pc' := 28) dX9_undo_27 rfl ?_
      refine z_putfield (pc' := 31) (C := RX9) (T := TX9) (N := 20) (ty := .int) 2 6 [(a_t_now, zI J 243 f_t_now), (a_t_diary, zI J 3402 f_t_diary), (a_t, .inr (8, [.int (zi q2.2), .int (zi c_t_high), .int (zi c_t_wide), .ref a_t_now, .ref a_t_trial, .ref a_t_diary, .int (zi (c_t_acts - (1 : Int))), .int (zi c_t_next), .ref a_t_kept, .ref a_t_isKept, .ref a_t_script, .int (zi c_t_scriptSize), .int (zi c_t_spot), .ref a_t_read, .int (zi c_t_readHigh), .int (zi c_t_readWide), .ref a_t_wanted, .ref a_t_level, .ref a_t_chosen, .ref a_t_best]))] tyX9 tyX9_ok nmX9 dX9_undo_28 iX9_undo_X9 rfl rfl (by decide) mX9_undo_f69 rfl (by decide +kernel) rfl rfl (Nat.le_of_ble_eq_true rfl) rfl rfl rfl ?_
      refine z_aload_n (pc' := 32) 0 dX9_undo_31 rfl rfl rfl ?_
      refine z_aload_n (pc' := 33) 0 dX9_undo_32 rfl rfl rfl ?_
      refine z_getfield (pc' := 36) (C := RX9) (T := TX9) (N := 20) 2 7 dX9_undo_33 iX9_undo_X9 rfl rfl (by decide) mX9_undo_f62 rfl rfl ?_
      refine z_bipush (pc' := 38) dX9_undo_36 (by decide) rfl ?_
      refine z_iadd (pc' := 39) dX9_undo_38 rfl ?_
      refine z_iconst (pc' := 40) dX9_undo_39 rfl ?_
      refine z_isub (pc' := 41) dX9_undo_40 rfl ?_
      refine z_bipush (pc' := 43) dX9_undo_41 (by decide) rfl ?_
      have g5 := zkr_p hsh
      replace hsh := zkr_k hsh
      refine z_irem (pc' := 44) dX9_undo_43 g5 (by decide) (by decide) rfl ?_
      refine z_putfield (pc' := 47) (C := RX9) (T := TX9) (N := 20) (ty := .int) 2 7 [(a_t_now, zI J 243 f_t_now), (a_t_diary, zI J 3402 f_t_diary), (a_t, .inr (8, [.int (zi q2.2), .int (zi c_t_high), .int (zi c_t_wide), .ref a_t_now, .ref a_t_trial, .ref a_t_diary, .int (zi (c_t_acts - (1 : Int))), .int (zi (zmod ((c_t_next + (14 : Int)) - (1 : Int)) (14 : Int))), .ref a_t_kept, .ref a_t_isKept, .ref a_t_script, .int (zi c_t_scriptSize), .int (zi c_t_spot), .ref a_t_read, .int (zi c_t_readHigh), .int (zi c_t_readWide), .ref a_t_wanted, .ref a_t_level, .ref a_t_chosen, .ref a_t_best]))] tyX9 tyX9_ok nmX9 dX9_undo_44 iX9_undo_X9 rfl rfl (by decide) mX9_undo_f62 rfl (by decide +kernel) rfl rfl (Nat.le_of_ble_eq_true rfl) rfl rfl rfl ?_
      refine z_aload_n (pc' := 48) 0 dX9_undo_47 rfl rfl rfl ?_
      refine z_getfield (pc' := 51) (C := RX9) (T := TX9) (N := 20) 2 5 dX9_undo_48 iX9_undo_X9 rfl rfl (by decide) mX9_undo_f23 rfl rfl ?_
      refine z_sipush (pc' := 54) dX9_undo_51 (by decide) rfl ?_
      refine z_aload_n (pc' := 55) 0 dX9_undo_54 rfl rfl rfl ?_
      refine z_getfield (pc' := 58) (C := RX9) (T := TX9) (N := 20) 2 7 dX9_undo_55 iX9_undo_X9 rfl rfl (by decide) mX9_undo_f62 rfl rfl ?_
      refine z_imul (pc' := 59) dX9_undo_58 rfl ?_
      refine z_aload_n (pc' := 60) 0 dX9_undo_59 rfl rfl rfl ?_
      refine z_getfield (pc' := 63) (C := RX9) (T := TX9) (N := 20) 2 3 dX9_undo_60 iX9_undo_X9 rfl rfl (by decide) mX9_undo_f16 rfl rfl ?_
      refine z_iconst (pc' := 64) dX9_undo_63 rfl ?_
      obtain ⟨q6, h7, hsh⟩ := zbind hsh
      refine z_callS (pc' := 67) (As := [.ref a_t_diary, .int (zi ((243 : Int) * (zmod ((c_t_next + (14 : Int)) - (1 : Int)) (14 : Int)))), .ref a_t_now, .int (zi (0 : Int))]) (rest := []) (wr := [(a_t, .inr (8, [.int (zi q2.2), .int (zi c_t_high), .int (zi c_t_wide), .ref a_t_now, .ref a_t_trial, .ref a_t_diary, .int (zi (c_t_acts - (1 : Int))), .int (zi (zmod ((c_t_next + (14 : Int)) - (1 : Int)) (14 : Int))), .ref a_t_kept, .ref a_t_isKept, .ref a_t_script, .int (zi c_t_scriptSize), .int (zi c_t_spot), .ref a_t_read, .int (zi c_t_readHigh), .int (zi c_t_readWide), .ref a_t_wanted, .ref a_t_level, .ref a_t_chosen, .ref a_t_best]))]) 4 (zc_X9_copy l D J F (a_p0 := a_t_diary) (a_p2 := a_t_now) (f_p0 := f_t_diary) (f_p2 := f_t_now) (n_p0 := 3402) (n_p2 := 243) (p1 := ((243 : Int) * (zmod ((c_t_next + (14 : Int)) - (1 : Int)) (14 : Int)))) (p3 := (0 : Int)) (hn_p0 := (by decide)) (hn_p2 := (by decide)) q6 h7) dX9_undo_64 gX9_undo_X9_copy rfl rfl rfl (by decide +kernel) ⟨Nat.le_of_ble_eq_true rfl, Nat.le_of_ble_eq_true rfl⟩ ⟨Nat.le_of_ble_eq_true rfl, Nat.le_of_ble_eq_true rfl⟩ (z_spl_of [1, 0, 2] rfl rfl) rfl rfl (Nat.le_of_ble_eq_true rfl) rfl (fun rv w9 hq => ?_)
      obtain ⟨rfl, rfl⟩ := hq
      refine z_ws [(a_t, .inr (8, [.int (zi q2.2), .int (zi c_t_high), .int (zi c_t_wide), .ref a_t_now, .ref a_t_trial, .ref a_t_diary, .int (zi (c_t_acts - (1 : Int))), .int (zi (zmod ((c_t_next + (14 : Int)) - (1 : Int)) (14 : Int))), .ref a_t_kept, .ref a_t_isKept, .ref a_t_script, .int (zi c_t_scriptSize), .int (zi c_t_spot), .ref a_t_read, .int (zi c_t_readHigh), .int (zi c_t_readWide), .ref a_t_wanted, .ref a_t_level, .ref a_t_chosen, .ref a_t_best])), (a_t_diary, zI J 3402 f_t_diary), (a_t_now, zI J 243 q6)] rfl ?_
      refine z_aload_n (pc' := 68) 0 dX9_undo_67 rfl rfl rfl ?_
      refine z_getfield (pc' := 71) (C := RX9) (T := TX9) (N := 20) 0 6 dX9_undo_68 iX9_undo_X9 rfl rfl (by decide) mX9_undo_f69 rfl rfl ?_
      refine z_perm [(a_t, .inr (8, [.int (zi q2.2), .int (zi c_t_high), .int (zi c_t_wide), .ref a_t_now, .ref a_t_trial, .ref a_t_diary, .int (zi (c_t_acts - (1 : Int))), .int (zi (zmod ((c_t_next + (14 : Int)) - (1 : Int)) (14 : Int))), .ref a_t_kept, .ref a_t_isKept, .ref a_t_script, .int (zi c_t_scriptSize), .int (zi c_t_spot), .ref a_t_read, .int (zi c_t_readHigh), .int (zi c_t_readWide), .ref a_t_wanted, .ref a_t_level, .ref a_t_chosen, .ref a_t_best])), (a_t_now, zI J 243 q6), (a_t_diary, zI J 3402 f_t_diary)] [(0, .ref a_t)] [0, 2, 1] [0] rfl rfl rfl ?_
      cases hsh
      exact z_iret rfl dX9_undo_71 ⟨rfl, rfl⟩
    · replace hsh := zif_f q hsh
      refine z_iconst (pc' := 20) dX9_undo_19 rfl ?_
      refine z_perm [(a_t, .inr (8, [.int (zi q2.2), .int (zi c_t_high), .int (zi c_t_wide), .ref a_t_now, .ref a_t_trial, .ref a_t_diary, .int (zi c_t_acts), .int (zi c_t_next), .ref a_t_kept, .ref a_t_isKept, .ref a_t_script, .int (zi c_t_scriptSize), .int (zi c_t_spot), .ref a_t_read, .int (zi c_t_readHigh), .int (zi c_t_readWide), .ref a_t_wanted, .ref a_t_level, .ref a_t_chosen, .ref a_t_best])), (a_t_now, zI J 243 f_t_now), (a_t_diary, zI J 3402 f_t_diary)] [(0, .ref a_t)] [2, 0, 1] [0] rfl rfl rfl ?_
      cases hsh
      exact z_iret rfl dX9_undo_20 ⟨rfl, rfl⟩
  · replace hsh := zif_t q hsh
    refine z_iconst (pc' := 9) dX9_undo_8 rfl ?_
    refine z_goto (tgt := 13) dX9_undo_9 (by decide) ?_
    obtain ⟨q8, h9, hsh⟩ := zbind hsh
    refine z_callV (pc' := 16) (C := RX9) (As := [.int (zi (1 : Int))]) (rest := []) (wr := [(a_t_now, zI J 243 f_t_now), (a_t_diary, zI J 3402 f_t_diary)]) 1 (zc_X9_refused l D J F (a_t := a_t) (a_t_now := a_t_now) (a_t_trial := a_t_trial) (a_t_diary := a_t_diary) (a_t_kept := a_t_kept) (a_t_isKept := a_t_isKept) (a_t_script := a_t_script) (a_t_read := a_t_read) (a_t_wanted := a_t_wanted) (a_t_level := a_t_level) (a_t_chosen := a_t_chosen) (a_t_best := a_t_best) (c_t_refusal := c_t_refusal) (c_t_high := c_t_high) (c_t_wide := c_t_wide) (c_t_acts := c_t_acts) (c_t_next := c_t_next) (c_t_scriptSize := c_t_scriptSize) (c_t_spot := c_t_spot) (c_t_readHigh := c_t_readHigh) (c_t_readWide := c_t_readWide) (p0 := (1 : Int))  q8 h9) dX9_undo_13 gX9_undo_X9_refused rfl rfl rfl (by decide +kernel) ⟨Nat.le_of_ble_eq_true rfl, Nat.le_of_ble_eq_true rfl⟩ ⟨Nat.le_of_ble_eq_true rfl, Nat.le_of_ble_eq_true rfl⟩ (z_spl_of [0, 1, 2] rfl rfl) rfl rfl rfl rfl (Nat.le_of_ble_eq_true rfl) rfl (fun rv w9 hq => ?_)
    obtain ⟨rfl, rfl⟩ := hq
    refine z_ws [(a_t_now, zI J 243 f_t_now), (a_t_diary, zI J 3402 f_t_diary), (a_t, .inr (8, [.int (zi q8.2), .int (zi c_t_high), .int (zi c_t_wide), .ref a_t_now, .ref a_t_trial, .ref a_t_diary, .int (zi c_t_acts), .int (zi c_t_next), .ref a_t_kept, .ref a_t_isKept, .ref a_t_script, .int (zi c_t_scriptSize), .int (zi c_t_spot), .ref a_t_read, .int (zi c_t_readHigh), .int (zi c_t_readWide), .ref a_t_wanted, .ref a_t_level, .ref a_t_chosen, .ref a_t_best]))] rfl ?_
    have g10 := zkr_p hsh
    replace hsh := zkr_k hsh
    refine z_if_eq (pc' := 19) (tgt := 21) dX9_undo_16 (by decide) g10 rfl (fun q => ?_) (fun q => ?_)
    · replace hsh := zif_t q hsh
      refine z_aload_n (pc' := 22) 0 dX9_undo_21 rfl rfl rfl ?_
      refine z_dup (pc' := 23) dX9_undo_22 rfl rfl ?_
      refine z_getfield (pc' := 26) (C := RX9) (T := TX9) (N := 20) 2 6 dX9_undo_23 iX9_undo_X9 rfl rfl (by decide) mX9_undo_f69 rfl rfl ?_
      refine z_iconst (pc' := 27) dX9_undo_26 rfl ?_
      refine z_isub (pc' := 28) dX9_undo_27 rfl ?_
      refine z_putfield (pc' := 31) (C := RX9) (T := TX9) (N := 20) (ty := .int) 2 6 [(a_t_now, zI J 243 f_t_now), (a_t_diary, zI J 3402 f_t_diary), (a_t, .inr (8, [.int (zi q8.2), .int (zi c_t_high), .int (zi c_t_wide), .ref a_t_now, .ref a_t_trial, .ref a_t_diary, .int (zi (c_t_acts - (1 : Int))), .int (zi c_t_next), .ref a_t_kept, .ref a_t_isKept, .ref a_t_script, .int (zi c_t_scriptSize), .int (zi c_t_spot), .ref a_t_read, .int (zi c_t_readHigh), .int (zi c_t_readWide), .ref a_t_wanted, .ref a_t_level, .ref a_t_chosen, .ref a_t_best]))] tyX9 tyX9_ok nmX9 dX9_undo_28 iX9_undo_X9 rfl rfl (by decide) mX9_undo_f69 rfl (by decide +kernel) rfl rfl (Nat.le_of_ble_eq_true rfl) rfl rfl rfl ?_
      refine z_aload_n (pc' := 32) 0 dX9_undo_31 rfl rfl rfl ?_
      refine z_aload_n (pc' := 33) 0 dX9_undo_32 rfl rfl rfl ?_
      refine z_getfield (pc' := 36) (C := RX9) (T := TX9) (N := 20) 2 7 dX9_undo_33 iX9_undo_X9 rfl rfl (by decide) mX9_undo_f62 rfl rfl ?_
      refine z_bipush (pc' := 38) dX9_undo_36 (by decide) rfl ?_
      refine z_iadd (pc' := 39) dX9_undo_38 rfl ?_
      refine z_iconst (pc' := 40) dX9_undo_39 rfl ?_
      refine z_isub (pc' := 41) dX9_undo_40 rfl ?_
      refine z_bipush (pc' := 43) dX9_undo_41 (by decide) rfl ?_
      have g11 := zkr_p hsh
      replace hsh := zkr_k hsh
      refine z_irem (pc' := 44) dX9_undo_43 g11 (by decide) (by decide) rfl ?_
      refine z_putfield (pc' := 47) (C := RX9) (T := TX9) (N := 20) (ty := .int) 2 7 [(a_t_now, zI J 243 f_t_now), (a_t_diary, zI J 3402 f_t_diary), (a_t, .inr (8, [.int (zi q8.2), .int (zi c_t_high), .int (zi c_t_wide), .ref a_t_now, .ref a_t_trial, .ref a_t_diary, .int (zi (c_t_acts - (1 : Int))), .int (zi (zmod ((c_t_next + (14 : Int)) - (1 : Int)) (14 : Int))), .ref a_t_kept, .ref a_t_isKept, .ref a_t_script, .int (zi c_t_scriptSize), .int (zi c_t_spot), .ref a_t_read, .int (zi c_t_readHigh), .int (zi c_t_readWide), .ref a_t_wanted, .ref a_t_level, .ref a_t_chosen, .ref a_t_best]))] tyX9 tyX9_ok nmX9 dX9_undo_44 iX9_undo_X9 rfl rfl (by decide) mX9_undo_f62 rfl (by decide +kernel) rfl rfl (Nat.le_of_ble_eq_true rfl) rfl rfl rfl ?_
      refine z_aload_n (pc' := 48) 0 dX9_undo_47 rfl rfl rfl ?_
      refine z_getfield (pc' := 51) (C := RX9) (T := TX9) (N := 20) 2 5 dX9_undo_48 iX9_undo_X9 rfl rfl (by decide) mX9_undo_f23 rfl rfl ?_
      refine z_sipush (pc' := 54) dX9_undo_51 (by decide) rfl ?_
      refine z_aload_n (pc' := 55) 0 dX9_undo_54 rfl rfl rfl ?_
      refine z_getfield (pc' := 58) (C := RX9) (T := TX9) (N := 20) 2 7 dX9_undo_55 iX9_undo_X9 rfl rfl (by decide) mX9_undo_f62 rfl rfl ?_
      refine z_imul (pc' := 59) dX9_undo_58 rfl ?_
      refine z_aload_n (pc' := 60) 0 dX9_undo_59 rfl rfl rfl ?_
      refine z_getfield (pc' := 63) (C := RX9) (T := TX9) (N := 20) 2 3 dX9_undo_60 iX9_undo_X9 rfl rfl (by decide) mX9_undo_f16 rfl rfl ?_
      refine z_iconst (pc' := 64) dX9_undo_63 rfl ?_
      obtain ⟨q12, h13, hsh⟩ := zbind hsh
      refine z_callS (pc' := 67) (As := [.ref a_t_diary, .int (zi ((243 : Int) * (zmod ((c_t_next + (14 : Int)) - (1 : Int)) (14 : Int)))), .ref a_t_now, .int (zi (0 : Int))]) (rest := []) (wr := [(a_t, .inr (8, [.int (zi q8.2), .int (zi c_t_high), .int (zi c_t_wide), .ref a_t_now, .ref a_t_trial, .ref a_t_diary, .int (zi (c_t_acts - (1 : Int))), .int (zi (zmod ((c_t_next + (14 : Int)) - (1 : Int)) (14 : Int))), .ref a_t_kept, .ref a_t_isKept, .ref a_t_script, .int (zi c_t_scriptSize), .int (zi c_t_spot), .ref a_t_read, .int (zi c_t_readHigh), .int (zi c_t_readWide), .ref a_t_wanted, .ref a_t_level, .ref a_t_chosen, .ref a_t_best]))]) 4 (zc_X9_copy l D J F (a_p0 := a_t_diary) (a_p2 := a_t_now) (f_p0 := f_t_diary) (f_p2 := f_t_now) (n_p0 := 3402) (n_p2 := 243) (p1 := ((243 : Int) * (zmod ((c_t_next + (14 : Int)) - (1 : Int)) (14 : Int)))) (p3 := (0 : Int)) (hn_p0 := (by decide)) (hn_p2 := (by decide)) q12 h13) dX9_undo_64 gX9_undo_X9_copy rfl rfl rfl (by decide +kernel) ⟨Nat.le_of_ble_eq_true rfl, Nat.le_of_ble_eq_true rfl⟩ ⟨Nat.le_of_ble_eq_true rfl, Nat.le_of_ble_eq_true rfl⟩ (z_spl_of [1, 0, 2] rfl rfl) rfl rfl (Nat.le_of_ble_eq_true rfl) rfl (fun rv w9 hq => ?_)
      obtain ⟨rfl, rfl⟩ := hq
      refine z_ws [(a_t, .inr (8, [.int (zi q8.2), .int (zi c_t_high), .int (zi c_t_wide), .ref a_t_now, .ref a_t_trial, .ref a_t_diary, .int (zi (c_t_acts - (1 : Int))), .int (zi (zmod ((c_t_next + (14 : Int)) - (1 : Int)) (14 : Int))), .ref a_t_kept, .ref a_t_isKept, .ref a_t_script, .int (zi c_t_scriptSize), .int (zi c_t_spot), .ref a_t_read, .int (zi c_t_readHigh), .int (zi c_t_readWide), .ref a_t_wanted, .ref a_t_level, .ref a_t_chosen, .ref a_t_best])), (a_t_diary, zI J 3402 f_t_diary), (a_t_now, zI J 243 q12)] rfl ?_
      refine z_aload_n (pc' := 68) 0 dX9_undo_67 rfl rfl rfl ?_
      refine z_getfield (pc' := 71) (C := RX9) (T := TX9) (N := 20) 0 6 dX9_undo_68 iX9_undo_X9 rfl rfl (by decide) mX9_undo_f69 rfl rfl ?_
      refine z_perm [(a_t, .inr (8, [.int (zi q8.2), .int (zi c_t_high), .int (zi c_t_wide), .ref a_t_now, .ref a_t_trial, .ref a_t_diary, .int (zi (c_t_acts - (1 : Int))), .int (zi (zmod ((c_t_next + (14 : Int)) - (1 : Int)) (14 : Int))), .ref a_t_kept, .ref a_t_isKept, .ref a_t_script, .int (zi c_t_scriptSize), .int (zi c_t_spot), .ref a_t_read, .int (zi c_t_readHigh), .int (zi c_t_readWide), .ref a_t_wanted, .ref a_t_level, .ref a_t_chosen, .ref a_t_best])), (a_t_now, zI J 243 q12), (a_t_diary, zI J 3402 f_t_diary)] [(0, .ref a_t)] [0, 2, 1] [0] rfl rfl rfl ?_
      cases hsh
      exact z_iret rfl dX9_undo_71 ⟨rfl, rfl⟩
    · replace hsh := zif_f q hsh
      refine z_iconst (pc' := 20) dX9_undo_19 rfl ?_
      refine z_perm [(a_t, .inr (8, [.int (zi q8.2), .int (zi c_t_high), .int (zi c_t_wide), .ref a_t_now, .ref a_t_trial, .ref a_t_diary, .int (zi c_t_acts), .int (zi c_t_next), .ref a_t_kept, .ref a_t_isKept, .ref a_t_script, .int (zi c_t_scriptSize), .int (zi c_t_spot), .ref a_t_read, .int (zi c_t_readHigh), .int (zi c_t_readWide), .ref a_t_wanted, .ref a_t_level, .ref a_t_chosen, .ref a_t_best])), (a_t_now, zI J 243 f_t_now), (a_t_diary, zI J 3402 f_t_diary)] [(0, .ref a_t)] [2, 0, 1] [0] rfl rfl rfl ?_
      cases hsh
      exact z_iret rfl dX9_undo_20 ⟨rfl, rfl⟩
def sh_X9_isReady (F : Nat) (c_t_high : Int) (c_t_wide : Int) (f_t_now : Nat → Int) (p0 : Int) : Option (Int × Int) := (sh_X9_isPoint F c_t_high c_t_wide p0).bind (fun (q1 : Int) => zkr q1 (if q1 = (0 : Int) then (sh_X9_refused F (1 : Int)).bind (fun (q4 : Int × Int) => zkr q4.1 (if q4.1 = (0 : Int) then (sh_X9_isReadyIn F c_t_high c_t_wide f_t_now 243 (0 : Int) p0).bind (fun (q7 : Int) => zkc (q7 = 0 ∨ q7 = 1) (some (q7, q4.2))) else some ((0 : Int), q4.2))) else (sh_X9_refused F (0 : Int)).bind (fun (q10 : Int × Int) => zkr q10.1 (if q10.1 = (0 : Int) then (sh_X9_isReadyIn F c_t_high c_t_wide f_t_now 243 (0 : Int) p0).bind (fun (q13 : Int) => zkc (q13 = 0 ∨ q13 = 1) (some (q13, q10.2))) else some ((0 : Int), q10.2)))))
theorem mX9_isReady_f16 : Cond.fieldLink RX9 16 (TX9 3).1 (TX9 3).2.1 (TX9 3).2.2.1 ∈ wsX9_isReady := List.mem_of_getElem? (i := 1) rfl
theorem iX9_isReady_X9 : ∀ w ∈ wsX90, w ∈ wsX9_isReady := fun _ h => (List.mem_cons_of_mem _ (List.mem_append_right _ h))
set_option maxRecDepth 100000 in
set_option maxHeartbeats 4000000 in
theorem zc_X9_isReady (l : Launch) (D : va_G) (J : Nat → ClassId) (F : Nat) (a_t : Nat) (a_t_now : Nat) (a_t_trial : Nat) (a_t_diary : Nat) (a_t_kept : Nat) (a_t_isKept : Nat) (a_t_script : Nat) (a_t_read : Nat) (a_t_wanted : Nat) (a_t_level : Nat) (a_t_chosen : Nat) (a_t_best : Nat) (c_t_refusal : Int) (c_t_high : Int) (c_t_wide : Int) (c_t_acts : Int) (c_t_next : Int) (c_t_scriptSize : Int) (c_t_spot : Int) (c_t_readHigh : Int) (c_t_readWide : Int) (f_t_now : Nat → Int) (p0 : Int) (res : Int × Int) (hsh : sh_X9_isReady F c_t_high c_t_wide f_t_now p0 = some res) : ZM l D J yX9_isReady wsX9_isReady ({ frames := 4, cells := 0, slots := 0, locals := 98 } : Room) 0 0 [.ref a_t, .int (zi p0)] [(a_t, .inr (8, [.int (zi c_t_refusal), .int (zi c_t_high), .int (zi c_t_wide), .ref a_t_now, .ref a_t_trial, .ref a_t_diary, .int (zi c_t_acts), .int (zi c_t_next), .ref a_t_kept, .ref a_t_isKept, .ref a_t_script, .int (zi c_t_scriptSize), .int (zi c_t_spot), .ref a_t_read, .int (zi c_t_readHigh), .int (zi c_t_readWide), .ref a_t_wanted, .ref a_t_level, .ref a_t_chosen, .ref a_t_best])), (a_t_now, zI J 243 f_t_now)] (fun rv w9 => rv = some (.int (zi res.1)) ∧ w9 = [(a_t, .inr (8, [.int (zi res.2), .int (zi c_t_high), .int (zi c_t_wide), .ref a_t_now, .ref a_t_trial, .ref a_t_diary, .int (zi c_t_acts), .int (zi c_t_next), .ref a_t_kept, .ref a_t_isKept, .ref a_t_script, .int (zi c_t_scriptSize), .int (zi c_t_spot), .ref a_t_read, .int (zi c_t_readHigh), .int (zi c_t_readWide), .ref a_t_wanted, .ref a_t_level, .ref a_t_chosen, .ref a_t_best])), (a_t_now, zI J 243 f_t_now)]) := by
  refine z_ofZ (cc := cX9_isReady) (maxL := 2) (ret := (some .boolean)) 0 0 (by decide) rfl (Nat.le_of_ble_eq_true rfl) [(0, .ref a_t), (1, .int (zi p0))] rfl ?_
  intro p e s m args below meth c A
  unfold sh_X9_isReady at hsh
  refine z_aload_n (pc' := 1) 0 dX9_isReady_0 rfl rfl rfl ?_
  refine z_aload_n (pc' := 2) 0 dX9_isReady_1 rfl rfl rfl ?_
  refine z_iload_n (pc' := 3) 1 dX9_isReady_2 rfl rfl rfl ?_
  obtain ⟨q1, h2, hsh⟩ := zbind hsh
  refine z_callV (pc' := 6) (C := RX9) (As := [.int (zi p0)]) (rest := [.ref a_t]) (wr := [(a_t_now, zI J 243 f_t_now)]) 1 (zc_X9_isPoint l D J F (a_t := a_t) (a_t_now := a_t_now) (a_t_trial := a_t_trial) (a_t_diary := a_t_diary) (a_t_kept := a_t_kept) (a_t_isKept := a_t_isKept) (a_t_script := a_t_script) (a_t_read := a_t_read) (a_t_wanted := a_t_wanted) (a_t_level := a_t_level) (a_t_chosen := a_t_chosen) (a_t_best := a_t_best) (c_t_refusal := c_t_refusal) (c_t_high := c_t_high) (c_t_wide := c_t_wide) (c_t_acts := c_t_acts) (c_t_next := c_t_next) (c_t_scriptSize := c_t_scriptSize) (c_t_spot := c_t_spot) (c_t_readHigh := c_t_readHigh) (c_t_readWide := c_t_readWide) (p0 := p0)  q1 h2) dX9_isReady_3 gX9_isReady_X9_isPoint rfl rfl rfl (by decide +kernel) ⟨Nat.le_of_ble_eq_true rfl, Nat.le_of_ble_eq_true rfl⟩ ⟨Nat.le_of_ble_eq_true rfl, Nat.le_of_ble_eq_true rfl⟩ (z_spl_of [0, 1] rfl rfl) rfl rfl rfl rfl (Nat.le_of_ble_eq_true rfl) rfl (fun rv w9 hq => ?_)
  obtain ⟨rfl, rfl⟩ := hq
  refine z_ws [(a_t_now, zI J 243 f_t_now), (a_t, .inr (8, [.int (zi c_t_refusal), .int (zi c_t_high), .int (zi c_t_wide), .ref a_t_now, .ref a_t_trial, .ref a_t_diary, .int (zi c_t_acts), .int (zi c_t_next), .ref a_t_kept, .ref a_t_isKept, .ref a_t_script, .int (zi c_t_scriptSize), .int (zi c_t_spot), .ref a_t_read, .int (zi c_t_readHigh), .int (zi c_t_readWide), .ref a_t_wanted, .ref a_t_level, .ref a_t_chosen, .ref a_t_best]))] rfl ?_
  have g3 := zkr_p hsh
  replace hsh := zkr_k hsh
  refine z_if_eq (pc' := 9) (tgt := 13) dX9_isReady_6 (by decide) g3 rfl (fun q => ?_) (fun q => ?_)
  · replace hsh := zif_t q hsh
    refine z_iconst (pc' := 14) dX9_isReady_13 rfl ?_
    obtain ⟨q4, h5, hsh⟩ := zbind hsh
    refine z_callV (pc' := 17) (C := RX9) (As := [.int (zi (1 : Int))]) (rest := []) (wr := [(a_t_now, zI J 243 f_t_now)]) 1 (zc_X9_refused l D J F (a_t := a_t) (a_t_now := a_t_now) (a_t_trial := a_t_trial) (a_t_diary := a_t_diary) (a_t_kept := a_t_kept) (a_t_isKept := a_t_isKept) (a_t_script := a_t_script) (a_t_read := a_t_read) (a_t_wanted := a_t_wanted) (a_t_level := a_t_level) (a_t_chosen := a_t_chosen) (a_t_best := a_t_best) (c_t_refusal := c_t_refusal) (c_t_high := c_t_high) (c_t_wide := c_t_wide) (c_t_acts := c_t_acts) (c_t_next := c_t_next) (c_t_scriptSize := c_t_scriptSize) (c_t_spot := c_t_spot) (c_t_readHigh := c_t_readHigh) (c_t_readWide := c_t_readWide) (p0 := (1 : Int))  q4 h5) dX9_isReady_14 gX9_isReady_X9_refused rfl rfl rfl (by decide +kernel) ⟨Nat.le_of_ble_eq_true rfl, Nat.le_of_ble_eq_true rfl⟩ ⟨Nat.le_of_ble_eq_true rfl, Nat.le_of_ble_eq_true rfl⟩ (z_spl_of [1, 0] rfl rfl) rfl rfl rfl rfl (Nat.le_of_ble_eq_true rfl) rfl (fun rv w9 hq => ?_)
    obtain ⟨rfl, rfl⟩ := hq
    refine z_ws [(a_t_now, zI J 243 f_t_now), (a_t, .inr (8, [.int (zi q4.2), .int (zi c_t_high), .int (zi c_t_wide), .ref a_t_now, .ref a_t_trial, .ref a_t_diary, .int (zi c_t_acts), .int (zi c_t_next), .ref a_t_kept, .ref a_t_isKept, .ref a_t_script, .int (zi c_t_scriptSize), .int (zi c_t_spot), .ref a_t_read, .int (zi c_t_readHigh), .int (zi c_t_readWide), .ref a_t_wanted, .ref a_t_level, .ref a_t_chosen, .ref a_t_best]))] rfl ?_
    have g6 := zkr_p hsh
    replace hsh := zkr_k hsh
    refine z_if_eq (pc' := 20) (tgt := 22) dX9_isReady_17 (by decide) g6 rfl (fun q => ?_) (fun q => ?_)
    · replace hsh := zif_t q hsh
      refine z_aload_n (pc' := 23) 0 dX9_isReady_22 rfl rfl rfl ?_
      refine z_aload_n (pc' := 24) 0 dX9_isReady_23 rfl rfl rfl ?_
      refine z_getfield (pc' := 27) (C := RX9) (T := TX9) (N := 20) 1 3 dX9_isReady_24 iX9_isReady_X9 rfl rfl (by decide) mX9_isReady_f16 rfl rfl ?_
      refine z_iconst (pc' := 28) dX9_isReady_27 rfl ?_
      refine z_iload_n (pc' := 29) 1 dX9_isReady_28 rfl rfl rfl ?_
      obtain ⟨q7, h8, hsh⟩ := zbind hsh
      refine z_callV (pc' := 32) (C := RX9) (As := [.ref a_t_now, .int (zi (0 : Int)), .int (zi p0)]) (rest := []) (wr := []) 3 (zc_X9_isReadyIn l D J F (a_t := a_t) (a_p0 := a_t_now) (a_t_now := a_t_now) (a_t_trial := a_t_trial) (a_t_diary := a_t_diary) (a_t_kept := a_t_kept) (a_t_isKept := a_t_isKept) (a_t_script := a_t_script) (a_t_read := a_t_read) (a_t_wanted := a_t_wanted) (a_t_level := a_t_level) (a_t_chosen := a_t_chosen) (a_t_best := a_t_best) (c_t_refusal := q4.2) (c_t_high := c_t_high) (c_t_wide := c_t_wide) (c_t_acts := c_t_acts) (c_t_next := c_t_next) (c_t_scriptSize := c_t_scriptSize) (c_t_spot := c_t_spot) (c_t_readHigh := c_t_readHigh) (c_t_readWide := c_t_readWide) (f_p0 := f_t_now) (n_p0 := 243) (p1 := (0 : Int)) (p2 := p0) (hn_p0 := (by decide)) q7 h8) dX9_isReady_29 gX9_isReady_X9_isReadyIn rfl rfl rfl (by decide +kernel) ⟨Nat.le_of_ble_eq_true rfl, Nat.le_of_ble_eq_true rfl⟩ ⟨Nat.le_of_ble_eq_true rfl, Nat.le_of_ble_eq_true rfl⟩ (z_spl_of [1, 0] rfl rfl) rfl rfl rfl rfl (Nat.le_of_ble_eq_true rfl) rfl (fun rv w9 hq => ?_)
      obtain ⟨rfl, rfl⟩ := hq
      refine z_ws [(a_t, .inr (8, [.int (zi q4.2), .int (zi c_t_high), .int (zi c_t_wide), .ref a_t_now, .ref a_t_trial, .ref a_t_diary, .int (zi c_t_acts), .int (zi c_t_next), .ref a_t_kept, .ref a_t_isKept, .ref a_t_script, .int (zi c_t_scriptSize), .int (zi c_t_spot), .ref a_t_read, .int (zi c_t_readHigh), .int (zi c_t_readWide), .ref a_t_wanted, .ref a_t_level, .ref a_t_chosen, .ref a_t_best])), (a_t_now, zI J 243 f_t_now)] rfl ?_
      have g9 := zkc_p hsh
      replace hsh := zkc_k hsh
      cases hsh
      exact z_zret rfl (zn_z g9) dX9_isReady_32 ⟨rfl, rfl⟩
    · replace hsh := zif_f q hsh
      refine z_iconst (pc' := 21) dX9_isReady_20 rfl ?_
      refine z_perm [(a_t, .inr (8, [.int (zi q4.2), .int (zi c_t_high), .int (zi c_t_wide), .ref a_t_now, .ref a_t_trial, .ref a_t_diary, .int (zi c_t_acts), .int (zi c_t_next), .ref a_t_kept, .ref a_t_isKept, .ref a_t_script, .int (zi c_t_scriptSize), .int (zi c_t_spot), .ref a_t_read, .int (zi c_t_readHigh), .int (zi c_t_readWide), .ref a_t_wanted, .ref a_t_level, .ref a_t_chosen, .ref a_t_best])), (a_t_now, zI J 243 f_t_now)] [(0, .ref a_t), (1, .int (zi p0))] [1, 0] [0, 1] rfl rfl rfl ?_
      cases hsh
      exact z_zret rfl (by decide) dX9_isReady_21 ⟨rfl, rfl⟩
  · replace hsh := zif_f q hsh
    refine z_iconst (pc' := 10) dX9_isReady_9 rfl ?_
    refine z_goto (tgt := 14) dX9_isReady_10 (by decide) ?_
    obtain ⟨q10, h11, hsh⟩ := zbind hsh
    refine z_callV (pc' := 17) (C := RX9) (As := [.int (zi (0 : Int))]) (rest := []) (wr := [(a_t_now, zI J 243 f_t_now)]) 1 (zc_X9_refused l D J F (a_t := a_t) (a_t_now := a_t_now) (a_t_trial := a_t_trial) (a_t_diary := a_t_diary) (a_t_kept := a_t_kept) (a_t_isKept := a_t_isKept) (a_t_script := a_t_script) (a_t_read := a_t_read) (a_t_wanted := a_t_wanted) (a_t_level := a_t_level) (a_t_chosen := a_t_chosen) (a_t_best := a_t_best) (c_t_refusal := c_t_refusal) (c_t_high := c_t_high) (c_t_wide := c_t_wide) (c_t_acts := c_t_acts) (c_t_next := c_t_next) (c_t_scriptSize := c_t_scriptSize) (c_t_spot := c_t_spot) (c_t_readHigh := c_t_readHigh) (c_t_readWide := c_t_readWide) (p0 := (0 : Int))  q10 h11) dX9_isReady_14 gX9_isReady_X9_refused rfl rfl rfl (by decide +kernel) ⟨Nat.le_of_ble_eq_true rfl, Nat.le_of_ble_eq_true rfl⟩ ⟨Nat.le_of_ble_eq_true rfl, Nat.le_of_ble_eq_true rfl⟩ (z_spl_of [1, 0] rfl rfl) rfl rfl rfl rfl (Nat.le_of_ble_eq_true rfl) rfl (fun rv w9 hq => ?_)
    obtain ⟨rfl, rfl⟩ := hq
    refine z_ws [(a_t_now, zI J 243 f_t_now), (a_t, .inr (8, [.int (zi q10.2), .int (zi c_t_high), .int (zi c_t_wide), .ref a_t_now, .ref a_t_trial, .ref a_t_diary, .int (zi c_t_acts), .int (zi c_t_next), .ref a_t_kept, .ref a_t_isKept, .ref a_t_script, .int (zi c_t_scriptSize), .int (zi c_t_spot), .ref a_t_read, .int (zi c_t_readHigh), .int (zi c_t_readWide), .ref a_t_wanted, .ref a_t_level, .ref a_t_chosen, .ref a_t_best]))] rfl ?_
    have g12 := zkr_p hsh
    replace hsh := zkr_k hsh
    refine z_if_eq (pc' := 20) (tgt := 22) dX9_isReady_17 (by decide) g12 rfl (fun q => ?_) (fun q => ?_)
    · replace hsh := zif_t q hsh
      refine z_aload_n (pc' := 23) 0 dX9_isReady_22 rfl rfl rfl ?_
      refine z_aload_n (pc' := 24) 0 dX9_isReady_23 rfl rfl rfl ?_
      refine z_getfield (pc' := 27) (C := RX9) (T := TX9) (N := 20) 1 3 dX9_isReady_24 iX9_isReady_X9 rfl rfl (by decide) mX9_isReady_f16 rfl rfl ?_
      refine z_iconst (pc' := 28) dX9_isReady_27 rfl ?_
      refine z_iload_n (pc' := 29) 1 dX9_isReady_28 rfl rfl rfl ?_
      obtain ⟨q13, h14, hsh⟩ := zbind hsh
      refine z_callV (pc' := 32) (C := RX9) (As := [.ref a_t_now, .int (zi (0 : Int)), .int (zi p0)]) (rest := []) (wr := []) 3 (zc_X9_isReadyIn l D J F (a_t := a_t) (a_p0 := a_t_now) (a_t_now := a_t_now) (a_t_trial := a_t_trial) (a_t_diary := a_t_diary) (a_t_kept := a_t_kept) (a_t_isKept := a_t_isKept) (a_t_script := a_t_script) (a_t_read := a_t_read) (a_t_wanted := a_t_wanted) (a_t_level := a_t_level) (a_t_chosen := a_t_chosen) (a_t_best := a_t_best) (c_t_refusal := q10.2) (c_t_high := c_t_high) (c_t_wide := c_t_wide) (c_t_acts := c_t_acts) (c_t_next := c_t_next) (c_t_scriptSize := c_t_scriptSize) (c_t_spot := c_t_spot) (c_t_readHigh := c_t_readHigh) (c_t_readWide := c_t_readWide) (f_p0 := f_t_now) (n_p0 := 243) (p1 := (0 : Int)) (p2 := p0) (hn_p0 := (by decide)) q13 h14) dX9_isReady_29 gX9_isReady_X9_isReadyIn rfl rfl rfl (by decide +kernel) ⟨Nat.le_of_ble_eq_true rfl, Nat.le_of_ble_eq_true rfl⟩ ⟨Nat.le_of_ble_eq_true rfl, Nat.le_of_ble_eq_true rfl⟩ (z_spl_of [1, 0] rfl rfl) rfl rfl rfl rfl (Nat.le_of_ble_eq_true rfl) rfl (fun rv w9 hq => ?_)
      obtain ⟨rfl, rfl⟩ := hq
      refine z_ws [(a_t, .inr (8, [.int (zi q10.2), .int (zi c_t_high), .int (zi c_t_wide), .ref a_t_now, .ref a_t_trial, .ref a_t_diary, .int (zi c_t_acts), .int (zi c_t_next), .ref a_t_kept, .ref a_t_isKept, .ref a_t_script, .int (zi c_t_scriptSize), .int (zi c_t_spot), .ref a_t_read, .int (zi c_t_readHigh), .int (zi c_t_readWide), .ref a_t_wanted, .ref a_t_level, .ref a_t_chosen, .ref a_t_best])), (a_t_now, zI J 243 f_t_now)] rfl ?_
      have g15 := zkc_p hsh
      replace hsh := zkc_k hsh
      cases hsh
      exact z_zret rfl (zn_z g15) dX9_isReady_32 ⟨rfl, rfl⟩
    · replace hsh := zif_f q hsh
      refine z_iconst (pc' := 21) dX9_isReady_20 rfl ?_
      refine z_perm [(a_t, .inr (8, [.int (zi q10.2), .int (zi c_t_high), .int (zi c_t_wide), .ref a_t_now, .ref a_t_trial, .ref a_t_diary, .int (zi c_t_acts), .int (zi c_t_next), .ref a_t_kept, .ref a_t_isKept, .ref a_t_script, .int (zi c_t_scriptSize), .int (zi c_t_spot), .ref a_t_read, .int (zi c_t_readHigh), .int (zi c_t_readWide), .ref a_t_wanted, .ref a_t_level, .ref a_t_chosen, .ref a_t_best])), (a_t_now, zI J 243 f_t_now)] [(0, .ref a_t), (1, .int (zi p0))] [1, 0] [0, 1] rfl rfl rfl ?_
      cases hsh
      exact z_zret rfl (by decide) dX9_isReady_21 ⟨rfl, rfl⟩
def sh_X9_blockers_L26 (F : Nat) (p0 : Int) (c_t_high : Int) (c_t_wide : Int) (f_t_now : Nat → Int) (k : Int → Int → Option (Int × Int)) : Nat → Int → Int → Option (Int × Int)
  | 0, _, _ => none
  | N + 1, v9, v10 => (sh_X9_points F c_t_high c_t_wide).bind (fun (q11 : Int) => zkr v10 (zkr q11 (if v10 < q11 then (sh_X9_areBeside F c_t_wide p0 v10).bind (fun (q15 : Int) => zkr q15 (if q15 = (0 : Int) then if (0 : Int) = (0 : Int) then sh_X9_blockers_L26 F p0 c_t_high c_t_wide f_t_now k N (zor v9 (0 : Int)) (v10 + (1 : Int)) else sh_X9_blockers_L26 F p0 c_t_high c_t_wide f_t_now k N (zor v9 (zshl (1 : Int) v10)) (v10 + (1 : Int)) else zkx (((15 : Int) * p0) + (0 : Int)) 243 (zkx (((15 : Int) * v10) + (0 : Int)) 243 (zkr (((f_t_now ((((15 : Int) * p0) + (0 : Int))).toNat) + (1 : Int)) - (f_t_now ((((15 : Int) * v10) + (0 : Int))).toNat)) (zkr (f_t_now ((240 : Int)).toNat) (if (f_t_now ((240 : Int)).toNat) < (((f_t_now ((((15 : Int) * p0) + (0 : Int))).toNat) + (1 : Int)) - (f_t_now ((((15 : Int) * v10) + (0 : Int))).toNat)) then if (1 : Int) = (0 : Int) then sh_X9_blockers_L26 F p0 c_t_high c_t_wide f_t_now k N (zor v9 (0 : Int)) (v10 + (1 : Int)) else sh_X9_blockers_L26 F p0 c_t_high c_t_wide f_t_now k N (zor v9 (zshl (1 : Int) v10)) (v10 + (1 : Int)) else if (0 : Int) = (0 : Int) then sh_X9_blockers_L26 F p0 c_t_high c_t_wide f_t_now k N (zor v9 (0 : Int)) (v10 + (1 : Int)) else sh_X9_blockers_L26 F p0 c_t_high c_t_wide f_t_now k N (zor v9 (zshl (1 : Int) v10)) (v10 + (1 : Int)))))))) else k v9 v10)))
def sh_X9_blockers_L26_2 (F : Nat) (p0 : Int) (c_t_high : Int) (c_t_wide : Int) (f_t_now : Nat → Int) (k : Int → Int → Option (Int × Int)) : Nat → Int → Int → Option (Int × Int)
  | 0, _, _ => none
  | N + 1, v29, v30 => (sh_X9_points F c_t_high c_t_wide).bind (fun (q31 : Int) => zkr v30 (zkr q31 (if v30 < q31 then (sh_X9_areBeside F c_t_wide p0 v30).bind (fun (q35 : Int) => zkr q35 (if q35 = (0 : Int) then if (0 : Int) = (0 : Int) then sh_X9_blockers_L26_2 F p0 c_t_high c_t_wide f_t_now k N (zor v29 (0 : Int)) (v30 + (1 : Int)) else sh_X9_blockers_L26_2 F p0 c_t_high c_t_wide f_t_now k N (zor v29 (zshl (1 : Int) v30)) (v30 + (1 : Int)) else zkx (((15 : Int) * p0) + (0 : Int)) 243 (zkx (((15 : Int) * v30) + (0 : Int)) 243 (zkr (((f_t_now ((((15 : Int) * p0) + (0 : Int))).toNat) + (1 : Int)) - (f_t_now ((((15 : Int) * v30) + (0 : Int))).toNat)) (zkr (f_t_now ((240 : Int)).toNat) (if (f_t_now ((240 : Int)).toNat) < (((f_t_now ((((15 : Int) * p0) + (0 : Int))).toNat) + (1 : Int)) - (f_t_now ((((15 : Int) * v30) + (0 : Int))).toNat)) then if (1 : Int) = (0 : Int) then sh_X9_blockers_L26_2 F p0 c_t_high c_t_wide f_t_now k N (zor v29 (0 : Int)) (v30 + (1 : Int)) else sh_X9_blockers_L26_2 F p0 c_t_high c_t_wide f_t_now k N (zor v29 (zshl (1 : Int) v30)) (v30 + (1 : Int)) else if (0 : Int) = (0 : Int) then sh_X9_blockers_L26_2 F p0 c_t_high c_t_wide f_t_now k N (zor v29 (0 : Int)) (v30 + (1 : Int)) else sh_X9_blockers_L26_2 F p0 c_t_high c_t_wide f_t_now k N (zor v29 (zshl (1 : Int) v30)) (v30 + (1 : Int)))))))) else k v29 v30)))
def sh_X9_blockers (F : Nat) (c_t_high : Int) (c_t_wide : Int) (f_t_now : Nat → Int) (p0 : Int) : Option (Int × Int) := (sh_X9_isPoint F c_t_high c_t_wide p0).bind (fun (q1 : Int) => zkr q1 (if q1 = (0 : Int) then (sh_X9_refused F (1 : Int)).bind (fun (q4 : Int × Int) => zkr q4.1 (if q4.1 = (0 : Int) then sh_X9_blockers_L26 F p0 c_t_high c_t_wide f_t_now (fun (v22 : Int) (v23 : Int) => some (v22, q4.2)) F (0 : Int) (0 : Int) else some ((0 : Int), q4.2))) else (sh_X9_refused F (0 : Int)).bind (fun (q24 : Int × Int) => zkr q24.1 (if q24.1 = (0 : Int) then sh_X9_blockers_L26_2 F p0 c_t_high c_t_wide f_t_now (fun (v42 : Int) (v43 : Int) => some (v42, q24.2)) F (0 : Int) (0 : Int) else some ((0 : Int), q24.2)))))
theorem mX9_blockers_f16 : Cond.fieldLink RX9 16 (TX9 3).1 (TX9 3).2.1 (TX9 3).2.2.1 ∈ wsX9_blockers := List.mem_of_getElem? (i := 1) rfl
theorem iX9_blockers_X9 : ∀ w ∈ wsX90, w ∈ wsX9_blockers := fun _ h => (List.mem_cons_of_mem _ (List.mem_append_right _ h))
set_option maxRecDepth 100000 in
set_option maxHeartbeats 4000000 in
theorem zl_X9_blockers_L26 {p : Program} {l : Launch} {e : Env} {s : State} {m : MethodId} {args : Array Value} {below : List Frame} {meth : Method} {c : Code} {A : Nat → Prop} {D : va_G} {J : Nat → ClassId} {F : Nat} {p0 : Int} {c_t_high : Int} {c_t_wide : Int} {f_t_now : Nat → Int} {a_t : Nat} {q4 : Int × Int} {a_t_now : Nat} {a_t_trial : Nat} {a_t_diary : Nat} {c_t_acts : Int} {c_t_next : Int} {a_t_kept : Nat} {a_t_isKept : Nat} {a_t_script : Nat} {c_t_scriptSize : Int} {c_t_spot : Int} {a_t_read : Nat} {c_t_readHigh : Int} {c_t_readWide : Int} {a_t_wanted : Nat} {a_t_level : Nat} {a_t_chosen : Nat} {a_t_best : Nat} {res : Int × Int} {k : Int → Int → Option (Int × Int)} (hk : ∀ (v9' : Int) (v10' : Int), k v9' v10' = some res → Z p l e ({ frames := 2, cells := 0, slots := 0, locals := 46 } : Room) s m args below meth c (MQ below (zQ D J A (fun rv w9 => rv = some (.int (zi res.1)) ∧ w9 = [(a_t, .inr (8, [.int (zi res.2), .int (zi c_t_high), .int (zi c_t_wide), .ref a_t_now, .ref a_t_trial, .ref a_t_diary, .int (zi c_t_acts), .int (zi c_t_next), .ref a_t_kept, .ref a_t_isKept, .ref a_t_script, .int (zi c_t_scriptSize), .int (zi c_t_spot), .ref a_t_read, .int (zi c_t_readHigh), .int (zi c_t_readWide), .ref a_t_wanted, .ref a_t_level, .ref a_t_chosen, .ref a_t_best])), (a_t_now, zI J 243 f_t_now)])) args s 0 0 A) cX9_blockers 5 wsX9_blockers RX9 D J A (some .int) (yX9_blockers.name, []) 0 0 [(a_t, .inr (8, [.int (zi q4.2), .int (zi c_t_high), .int (zi c_t_wide), .ref a_t_now, .ref a_t_trial, .ref a_t_diary, .int (zi c_t_acts), .int (zi c_t_next), .ref a_t_kept, .ref a_t_isKept, .ref a_t_script, .int (zi c_t_scriptSize), .int (zi c_t_spot), .ref a_t_read, .int (zi c_t_readHigh), .int (zi c_t_readWide), .ref a_t_wanted, .ref a_t_level, .ref a_t_chosen, .ref a_t_best])), (a_t_now, zI J 243 f_t_now)] [(2, .int (zi v9'))] 107 []) : ∀ (N : Nat) (v9 : Int) (v10 : Int), sh_X9_blockers_L26 F p0 c_t_high c_t_wide f_t_now k N v9 v10 = some res → Z p l e ({ frames := 2, cells := 0, slots := 0, locals := 46 } : Room) s m args below meth c (MQ below (zQ D J A (fun rv w9 => rv = some (.int (zi res.1)) ∧ w9 = [(a_t, .inr (8, [.int (zi res.2), .int (zi c_t_high), .int (zi c_t_wide), .ref a_t_now, .ref a_t_trial, .ref a_t_diary, .int (zi c_t_acts), .int (zi c_t_next), .ref a_t_kept, .ref a_t_isKept, .ref a_t_script, .int (zi c_t_scriptSize), .int (zi c_t_spot), .ref a_t_read, .int (zi c_t_readHigh), .int (zi c_t_readWide), .ref a_t_wanted, .ref a_t_level, .ref a_t_chosen, .ref a_t_best])), (a_t_now, zI J 243 f_t_now)])) args s 0 0 A) cX9_blockers 5 wsX9_blockers RX9 D J A (some .int) (yX9_blockers.name, []) 0 0 [(a_t, .inr (8, [.int (zi q4.2), .int (zi c_t_high), .int (zi c_t_wide), .ref a_t_now, .ref a_t_trial, .ref a_t_diary, .int (zi c_t_acts), .int (zi c_t_next), .ref a_t_kept, .ref a_t_isKept, .ref a_t_script, .int (zi c_t_scriptSize), .int (zi c_t_spot), .ref a_t_read, .int (zi c_t_readHigh), .int (zi c_t_readWide), .ref a_t_wanted, .ref a_t_level, .ref a_t_chosen, .ref a_t_best])), (a_t_now, zI J 243 f_t_now)] [(0, .ref a_t), (1, .int (zi p0)), (2, .int (zi v9)), (3, .int (zi v10))] 26 [] := by
  intro N
  induction N with
  | zero =>
    intro v9 v10 hsh
    exact absurd hsh (by simp [sh_X9_blockers_L26])
  | succ N ih =>
    intro v9 v10 hsh
    rw [sh_X9_blockers_L26] at hsh
    refine z_iload_n (pc' := 27) 3 dX9_blockers_26 rfl rfl rfl ?_
    refine z_aload_n (pc' := 28) 0 dX9_blockers_27 rfl rfl rfl ?_
    obtain ⟨q11, h12, hsh⟩ := zbind hsh
    refine z_callV (pc' := 31) (C := RX9) (As := []) (rest := [.int (zi v10)]) (wr := [(a_t_now, zI J 243 f_t_now)]) 0 (zc_X9_points l D J F (a_t := a_t) (a_t_now := a_t_now) (a_t_trial := a_t_trial) (a_t_diary := a_t_diary) (a_t_kept := a_t_kept) (a_t_isKept := a_t_isKept) (a_t_script := a_t_script) (a_t_read := a_t_read) (a_t_wanted := a_t_wanted) (a_t_level := a_t_level) (a_t_chosen := a_t_chosen) (a_t_best := a_t_best) (c_t_refusal := q4.2) (c_t_high := c_t_high) (c_t_wide := c_t_wide) (c_t_acts := c_t_acts) (c_t_next := c_t_next) (c_t_scriptSize := c_t_scriptSize) (c_t_spot := c_t_spot) (c_t_readHigh := c_t_readHigh) (c_t_readWide := c_t_readWide)  q11 h12) dX9_blockers_28 gX9_blockers_X9_points rfl rfl rfl (by decide +kernel) ⟨Nat.le_of_ble_eq_true rfl, Nat.le_of_ble_eq_true rfl⟩ ⟨Nat.le_of_ble_eq_true rfl, Nat.le_of_ble_eq_true rfl⟩ (z_spl_of [0, 1] rfl rfl) rfl rfl rfl rfl (Nat.le_of_ble_eq_true rfl) rfl (fun rv w9 hq => ?_)
    obtain ⟨rfl, rfl⟩ := hq
    refine z_ws [(a_t_now, zI J 243 f_t_now), (a_t, .inr (8, [.int (zi q4.2), .int (zi c_t_high), .int (zi c_t_wide), .ref a_t_now, .ref a_t_trial, .ref a_t_diary, .int (zi c_t_acts), .int (zi c_t_next), .ref a_t_kept, .ref a_t_isKept, .ref a_t_script, .int (zi c_t_scriptSize), .int (zi c_t_spot), .ref a_t_read, .int (zi c_t_readHigh), .int (zi c_t_readWide), .ref a_t_wanted, .ref a_t_level, .ref a_t_chosen, .ref a_t_best]))] rfl ?_
    have g13 := zkr_p hsh
    replace hsh := zkr_k hsh
    have g14 := zkr_p hsh
    replace hsh := zkr_k hsh
    refine z_icmp_ge (pc' := 34) (tgt := 107) dX9_blockers_31 (by decide) g13 g14 rfl (fun q => ?_) (fun q => ?_)
    · replace hsh := zif_f q hsh
      refine z_perm [(a_t, .inr (8, [.int (zi q4.2), .int (zi c_t_high), .int (zi c_t_wide), .ref a_t_now, .ref a_t_trial, .ref a_t_diary, .int (zi c_t_acts), .int (zi c_t_next), .ref a_t_kept, .ref a_t_isKept, .ref a_t_script, .int (zi c_t_scriptSize), .int (zi c_t_spot), .ref a_t_read, .int (zi c_t_readHigh), .int (zi c_t_readWide), .ref a_t_wanted, .ref a_t_level, .ref a_t_chosen, .ref a_t_best])), (a_t_now, zI J 243 f_t_now)] [(2, .int (zi v9))] [1, 0] [2] rfl rfl rfl ?_
      exact hk _ _ hsh
    · replace hsh := zif_t q hsh
      refine z_aload_n (pc' := 35) 0 dX9_blockers_34 rfl rfl rfl ?_
      refine z_iload_n (pc' := 36) 1 dX9_blockers_35 rfl rfl rfl ?_
      refine z_iload_n (pc' := 37) 3 dX9_blockers_36 rfl rfl rfl ?_
      obtain ⟨q15, h16, hsh⟩ := zbind hsh
      refine z_callV (pc' := 40) (C := RX9) (As := [.int (zi p0), .int (zi v10)]) (rest := []) (wr := [(a_t_now, zI J 243 f_t_now)]) 2 (zc_X9_areBeside l D J F (a_t := a_t) (a_t_now := a_t_now) (a_t_trial := a_t_trial) (a_t_diary := a_t_diary) (a_t_kept := a_t_kept) (a_t_isKept := a_t_isKept) (a_t_script := a_t_script) (a_t_read := a_t_read) (a_t_wanted := a_t_wanted) (a_t_level := a_t_level) (a_t_chosen := a_t_chosen) (a_t_best := a_t_best) (c_t_refusal := q4.2) (c_t_high := c_t_high) (c_t_wide := c_t_wide) (c_t_acts := c_t_acts) (c_t_next := c_t_next) (c_t_scriptSize := c_t_scriptSize) (c_t_spot := c_t_spot) (c_t_readHigh := c_t_readHigh) (c_t_readWide := c_t_readWide) (p0 := p0) (p1 := v10)  q15 h16) dX9_blockers_37 gX9_blockers_X9_areBeside rfl rfl rfl (by decide +kernel) ⟨Nat.le_of_ble_eq_true rfl, Nat.le_of_ble_eq_true rfl⟩ ⟨Nat.le_of_ble_eq_true rfl, Nat.le_of_ble_eq_true rfl⟩ (z_spl_of [1, 0] rfl rfl) rfl rfl rfl rfl (Nat.le_of_ble_eq_true rfl) rfl (fun rv w9 hq => ?_)
      obtain ⟨rfl, rfl⟩ := hq
      refine z_ws [(a_t_now, zI J 243 f_t_now), (a_t, .inr (8, [.int (zi q4.2), .int (zi c_t_high), .int (zi c_t_wide), .ref a_t_now, .ref a_t_trial, .ref a_t_diary, .int (zi c_t_acts), .int (zi c_t_next), .ref a_t_kept, .ref a_t_isKept, .ref a_t_script, .int (zi c_t_scriptSize), .int (zi c_t_spot), .ref a_t_read, .int (zi c_t_readHigh), .int (zi c_t_readWide), .ref a_t_wanted, .ref a_t_level, .ref a_t_chosen, .ref a_t_best]))] rfl ?_
      have g17 := zkr_p hsh
      replace hsh := zkr_k hsh
      refine z_if_eq (pc' := 43) (tgt := 83) dX9_blockers_40 (by decide) g17 rfl (fun q => ?_) (fun q => ?_)
      · replace hsh := zif_t q hsh
        refine z_iconst (pc' := 84) dX9_blockers_83 rfl ?_
        refine z_istore (pc' := 86) [(4, .int (zi (0 : Int))), (0, .ref a_t), (1, .int (zi p0)), (2, .int (zi v9)), (3, .int (zi v10))] dX9_blockers_84 (by decide) rfl rfl ?_
        refine z_iload_n (pc' := 87) 3 dX9_blockers_86 rfl rfl rfl ?_
        refine z_iload (pc' := 89) 0 dX9_blockers_87 rfl rfl ?_
        refine z_if_eq (pc' := 92) (tgt := 98) dX9_blockers_89 (by decide) zr0 rfl (fun q => ?_) (fun q => ?_)
        · replace hsh := zif_t q hsh
          refine z_iconst (pc' := 99) dX9_blockers_98 rfl ?_
          refine z_ior (pc' := 100) dX9_blockers_99 rfl ?_
          refine z_istore_n (pc' := 101) [(2, .int (zi (zor v9 (0 : Int)))), (4, .int (zi (0 : Int))), (0, .ref a_t), (1, .int (zi p0)), (3, .int (zi v10))] dX9_blockers_100 rfl (by decide) rfl rfl ?_
          refine z_iinc (pc' := 104) [(3, .int (zi (v10 + (1 : Int)))), (2, .int (zi (zor v9 (0 : Int)))), (4, .int (zi (0 : Int))), (0, .ref a_t), (1, .int (zi p0))] 4 dX9_blockers_101 rfl (by decide) rfl rfl ?_
          refine z_goto (tgt := 26) dX9_blockers_104 (by decide) ?_
          refine z_perm [(a_t, .inr (8, [.int (zi q4.2), .int (zi c_t_high), .int (zi c_t_wide), .ref a_t_now, .ref a_t_trial, .ref a_t_diary, .int (zi c_t_acts), .int (zi c_t_next), .ref a_t_kept, .ref a_t_isKept, .ref a_t_script, .int (zi c_t_scriptSize), .int (zi c_t_spot), .ref a_t_read, .int (zi c_t_readHigh), .int (zi c_t_readWide), .ref a_t_wanted, .ref a_t_level, .ref a_t_chosen, .ref a_t_best])), (a_t_now, zI J 243 f_t_now)] [(0, .ref a_t), (1, .int (zi p0)), (2, .int (zi (zor v9 (0 : Int)))), (3, .int (zi (v10 + (1 : Int))))] [1, 0] [3, 4, 1, 0] rfl rfl rfl ?_
          exact ih _ _ hsh
        · replace hsh := zif_f q hsh
          refine z_iconst (pc' := 93) dX9_blockers_92 rfl ?_
          refine z_iload_n (pc' := 94) 4 dX9_blockers_93 rfl rfl rfl ?_
          refine z_ishl (pc' := 95) dX9_blockers_94 rfl ?_
          refine z_goto (tgt := 99) dX9_blockers_95 (by decide) ?_
          refine z_ior (pc' := 100) dX9_blockers_99 rfl ?_
          refine z_istore_n (pc' := 101) [(2, .int (zi (zor v9 (zshl (1 : Int) v10)))), (4, .int (zi (0 : Int))), (0, .ref a_t), (1, .int (zi p0)), (3, .int (zi v10))] dX9_blockers_100 rfl (by decide) rfl rfl ?_
          refine z_iinc (pc' := 104) [(3, .int (zi (v10 + (1 : Int)))), (2, .int (zi (zor v9 (zshl (1 : Int) v10)))), (4, .int (zi (0 : Int))), (0, .ref a_t), (1, .int (zi p0))] 4 dX9_blockers_101 rfl (by decide) rfl rfl ?_
          refine z_goto (tgt := 26) dX9_blockers_104 (by decide) ?_
          refine z_perm [(a_t, .inr (8, [.int (zi q4.2), .int (zi c_t_high), .int (zi c_t_wide), .ref a_t_now, .ref a_t_trial, .ref a_t_diary, .int (zi c_t_acts), .int (zi c_t_next), .ref a_t_kept, .ref a_t_isKept, .ref a_t_script, .int (zi c_t_scriptSize), .int (zi c_t_spot), .ref a_t_read, .int (zi c_t_readHigh), .int (zi c_t_readWide), .ref a_t_wanted, .ref a_t_level, .ref a_t_chosen, .ref a_t_best])), (a_t_now, zI J 243 f_t_now)] [(0, .ref a_t), (1, .int (zi p0)), (2, .int (zi (zor v9 (zshl (1 : Int) v10)))), (3, .int (zi (v10 + (1 : Int))))] [1, 0] [3, 4, 1, 0] rfl rfl rfl ?_
          exact ih _ _ hsh
      · replace hsh := zif_f q hsh
        refine z_aload_n (pc' := 44) 0 dX9_blockers_43 rfl rfl rfl ?_
        refine z_getfield (pc' := 47) (C := RX9) (T := TX9) (N := 20) 1 3 dX9_blockers_44 iX9_blockers_X9 rfl rfl (by decide) mX9_blockers_f16 rfl rfl ?_
        refine z_bipush (pc' := 49) dX9_blockers_47 (by decide) rfl ?_
        refine z_iload_n (pc' := 50) 1 dX9_blockers_49 rfl rfl rfl ?_
        refine z_imul (pc' := 51) dX9_blockers_50 rfl ?_
        refine z_iconst (pc' := 52) dX9_blockers_51 rfl ?_
        refine z_iadd (pc' := 53) dX9_blockers_52 rfl ?_
        have g18 := zkx_p hsh
        replace hsh := zkx_k hsh
        refine z_iaload (pc' := 54) 0 dX9_blockers_53 rfl (by decide) g18 rfl ?_
        refine z_iconst (pc' := 55) dX9_blockers_54 rfl ?_
        refine z_iadd (pc' := 56) dX9_blockers_55 rfl ?_
        refine z_aload_n (pc' := 57) 0 dX9_blockers_56 rfl rfl rfl ?_
        refine z_getfield (pc' := 60) (C := RX9) (T := TX9) (N := 20) 1 3 dX9_blockers_57 iX9_blockers_X9 rfl rfl (by decide) mX9_blockers_f16 rfl rfl ?_
        refine z_bipush (pc' := 62) dX9_blockers_60 (by decide) rfl ?_
        refine z_iload_n (pc' := 63) 3 dX9_blockers_62 rfl rfl rfl ?_
        refine z_imul (pc' := 64) dX9_blockers_63 rfl ?_
        refine z_iconst (pc' := 65) dX9_blockers_64 rfl ?_
        refine z_iadd (pc' := 66) dX9_blockers_65 rfl ?_
        have g19 := zkx_p hsh
        replace hsh := zkx_k hsh
        refine z_iaload (pc' := 67) 0 dX9_blockers_66 rfl (by decide) g19 rfl ?_
        refine z_isub (pc' := 68) dX9_blockers_67 rfl ?_
        refine z_aload_n (pc' := 69) 0 dX9_blockers_68 rfl rfl rfl ?_
        refine z_getfield (pc' := 72) (C := RX9) (T := TX9) (N := 20) 1 3 dX9_blockers_69 iX9_blockers_X9 rfl rfl (by decide) mX9_blockers_f16 rfl rfl ?_
        refine z_sipush (pc' := 75) dX9_blockers_72 (by decide) rfl ?_
        refine z_iaload (pc' := 76) 0 dX9_blockers_75 rfl (by decide) (by decide) rfl ?_
        have g20 := zkr_p hsh
        replace hsh := zkr_k hsh
        have g21 := zkr_p hsh
        replace hsh := zkr_k hsh
        refine z_icmp_le (pc' := 79) (tgt := 83) dX9_blockers_76 (by decide) g20 g21 rfl (fun q => ?_) (fun q => ?_)
        · replace hsh := zif_f q hsh
          refine z_iconst (pc' := 84) dX9_blockers_83 rfl ?_
          refine z_istore (pc' := 86) [(4, .int (zi (0 : Int))), (0, .ref a_t), (1, .int (zi p0)), (2, .int (zi v9)), (3, .int (zi v10))] dX9_blockers_84 (by decide) rfl rfl ?_
          refine z_iload_n (pc' := 87) 3 dX9_blockers_86 rfl rfl rfl ?_
          refine z_iload (pc' := 89) 0 dX9_blockers_87 rfl rfl ?_
          refine z_if_eq (pc' := 92) (tgt := 98) dX9_blockers_89 (by decide) zr0 rfl (fun q => ?_) (fun q => ?_)
          · replace hsh := zif_t q hsh
            refine z_iconst (pc' := 99) dX9_blockers_98 rfl ?_
            refine z_ior (pc' := 100) dX9_blockers_99 rfl ?_
            refine z_istore_n (pc' := 101) [(2, .int (zi (zor v9 (0 : Int)))), (4, .int (zi (0 : Int))), (0, .ref a_t), (1, .int (zi p0)), (3, .int (zi v10))] dX9_blockers_100 rfl (by decide) rfl rfl ?_
            refine z_iinc (pc' := 104) [(3, .int (zi (v10 + (1 : Int)))), (2, .int (zi (zor v9 (0 : Int)))), (4, .int (zi (0 : Int))), (0, .ref a_t), (1, .int (zi p0))] 4 dX9_blockers_101 rfl (by decide) rfl rfl ?_
            refine z_goto (tgt := 26) dX9_blockers_104 (by decide) ?_
            refine z_perm [(a_t, .inr (8, [.int (zi q4.2), .int (zi c_t_high), .int (zi c_t_wide), .ref a_t_now, .ref a_t_trial, .ref a_t_diary, .int (zi c_t_acts), .int (zi c_t_next), .ref a_t_kept, .ref a_t_isKept, .ref a_t_script, .int (zi c_t_scriptSize), .int (zi c_t_spot), .ref a_t_read, .int (zi c_t_readHigh), .int (zi c_t_readWide), .ref a_t_wanted, .ref a_t_level, .ref a_t_chosen, .ref a_t_best])), (a_t_now, zI J 243 f_t_now)] [(0, .ref a_t), (1, .int (zi p0)), (2, .int (zi (zor v9 (0 : Int)))), (3, .int (zi (v10 + (1 : Int))))] [1, 0] [3, 4, 1, 0] rfl rfl rfl ?_
            exact ih _ _ hsh
          · replace hsh := zif_f q hsh
            refine z_iconst (pc' := 93) dX9_blockers_92 rfl ?_
            refine z_iload_n (pc' := 94) 4 dX9_blockers_93 rfl rfl rfl ?_
            refine z_ishl (pc' := 95) dX9_blockers_94 rfl ?_
            refine z_goto (tgt := 99) dX9_blockers_95 (by decide) ?_
            refine z_ior (pc' := 100) dX9_blockers_99 rfl ?_
            refine z_istore_n (pc' := 101) [(2, .int (zi (zor v9 (zshl (1 : Int) v10)))), (4, .int (zi (0 : Int))), (0, .ref a_t), (1, .int (zi p0)), (3, .int (zi v10))] dX9_blockers_100 rfl (by decide) rfl rfl ?_
            refine z_iinc (pc' := 104) [(3, .int (zi (v10 + (1 : Int)))), (2, .int (zi (zor v9 (zshl (1 : Int) v10)))), (4, .int (zi (0 : Int))), (0, .ref a_t), (1, .int (zi p0))] 4 dX9_blockers_101 rfl (by decide) rfl rfl ?_
            refine z_goto (tgt := 26) dX9_blockers_104 (by decide) ?_
            refine z_perm [(a_t, .inr (8, [.int (zi q4.2), .int (zi c_t_high), .int (zi c_t_wide), .ref a_t_now, .ref a_t_trial, .ref a_t_diary, .int (zi c_t_acts), .int (zi c_t_next), .ref a_t_kept, .ref a_t_isKept, .ref a_t_script, .int (zi c_t_scriptSize), .int (zi c_t_spot), .ref a_t_read, .int (zi c_t_readHigh), .int (zi c_t_readWide), .ref a_t_wanted, .ref a_t_level, .ref a_t_chosen, .ref a_t_best])), (a_t_now, zI J 243 f_t_now)] [(0, .ref a_t), (1, .int (zi p0)), (2, .int (zi (zor v9 (zshl (1 : Int) v10)))), (3, .int (zi (v10 + (1 : Int))))] [1, 0] [3, 4, 1, 0] rfl rfl rfl ?_
            exact ih _ _ hsh
        · replace hsh := zif_t q hsh
          refine z_iconst (pc' := 80) dX9_blockers_79 rfl ?_
          refine z_goto (tgt := 84) dX9_blockers_80 (by decide) ?_
          refine z_istore (pc' := 86) [(4, .int (zi (1 : Int))), (0, .ref a_t), (1, .int (zi p0)), (2, .int (zi v9)), (3, .int (zi v10))] dX9_blockers_84 (by decide) rfl rfl ?_
          refine z_iload_n (pc' := 87) 3 dX9_blockers_86 rfl rfl rfl ?_
          refine z_iload (pc' := 89) 0 dX9_blockers_87 rfl rfl ?_
          refine z_if_eq (pc' := 92) (tgt := 98) dX9_blockers_89 (by decide) (by decide) rfl (fun q => ?_) (fun q => ?_)
          · replace hsh := zif_t q hsh
            refine z_iconst (pc' := 99) dX9_blockers_98 rfl ?_
            refine z_ior (pc' := 100) dX9_blockers_99 rfl ?_
            refine z_istore_n (pc' := 101) [(2, .int (zi (zor v9 (0 : Int)))), (4, .int (zi (1 : Int))), (0, .ref a_t), (1, .int (zi p0)), (3, .int (zi v10))] dX9_blockers_100 rfl (by decide) rfl rfl ?_
            refine z_iinc (pc' := 104) [(3, .int (zi (v10 + (1 : Int)))), (2, .int (zi (zor v9 (0 : Int)))), (4, .int (zi (1 : Int))), (0, .ref a_t), (1, .int (zi p0))] 4 dX9_blockers_101 rfl (by decide) rfl rfl ?_
            refine z_goto (tgt := 26) dX9_blockers_104 (by decide) ?_
            refine z_perm [(a_t, .inr (8, [.int (zi q4.2), .int (zi c_t_high), .int (zi c_t_wide), .ref a_t_now, .ref a_t_trial, .ref a_t_diary, .int (zi c_t_acts), .int (zi c_t_next), .ref a_t_kept, .ref a_t_isKept, .ref a_t_script, .int (zi c_t_scriptSize), .int (zi c_t_spot), .ref a_t_read, .int (zi c_t_readHigh), .int (zi c_t_readWide), .ref a_t_wanted, .ref a_t_level, .ref a_t_chosen, .ref a_t_best])), (a_t_now, zI J 243 f_t_now)] [(0, .ref a_t), (1, .int (zi p0)), (2, .int (zi (zor v9 (0 : Int)))), (3, .int (zi (v10 + (1 : Int))))] [1, 0] [3, 4, 1, 0] rfl rfl rfl ?_
            exact ih _ _ hsh
          · replace hsh := zif_f q hsh
            refine z_iconst (pc' := 93) dX9_blockers_92 rfl ?_
            refine z_iload_n (pc' := 94) 4 dX9_blockers_93 rfl rfl rfl ?_
            refine z_ishl (pc' := 95) dX9_blockers_94 rfl ?_
            refine z_goto (tgt := 99) dX9_blockers_95 (by decide) ?_
            refine z_ior (pc' := 100) dX9_blockers_99 rfl ?_
            refine z_istore_n (pc' := 101) [(2, .int (zi (zor v9 (zshl (1 : Int) v10)))), (4, .int (zi (1 : Int))), (0, .ref a_t), (1, .int (zi p0)), (3, .int (zi v10))] dX9_blockers_100 rfl (by decide) rfl rfl ?_
            refine z_iinc (pc' := 104) [(3, .int (zi (v10 + (1 : Int)))), (2, .int (zi (zor v9 (zshl (1 : Int) v10)))), (4, .int (zi (1 : Int))), (0, .ref a_t), (1, .int (zi p0))] 4 dX9_blockers_101 rfl (by decide) rfl rfl ?_
            refine z_goto (tgt := 26) dX9_blockers_104 (by decide) ?_
            refine z_perm [(a_t, .inr (8, [.int (zi q4.2), .int (zi c_t_high), .int (zi c_t_wide), .ref a_t_now, .ref a_t_trial, .ref a_t_diary, .int (zi c_t_acts), .int (zi c_t_next), .ref a_t_kept, .ref a_t_isKept, .ref a_t_script, .int (zi c_t_scriptSize), .int (zi c_t_spot), .ref a_t_read, .int (zi c_t_readHigh), .int (zi c_t_readWide), .ref a_t_wanted, .ref a_t_level, .ref a_t_chosen, .ref a_t_best])), (a_t_now, zI J 243 f_t_now)] [(0, .ref a_t), (1, .int (zi p0)), (2, .int (zi (zor v9 (zshl (1 : Int) v10)))), (3, .int (zi (v10 + (1 : Int))))] [1, 0] [3, 4, 1, 0] rfl rfl rfl ?_
            exact ih _ _ hsh
set_option maxRecDepth 100000 in
set_option maxHeartbeats 4000000 in
theorem zl_X9_blockers_L26_2 {p : Program} {l : Launch} {e : Env} {s : State} {m : MethodId} {args : Array Value} {below : List Frame} {meth : Method} {c : Code} {A : Nat → Prop} {D : va_G} {J : Nat → ClassId} {F : Nat} {p0 : Int} {c_t_high : Int} {c_t_wide : Int} {f_t_now : Nat → Int} {a_t : Nat} {q24 : Int × Int} {a_t_now : Nat} {a_t_trial : Nat} {a_t_diary : Nat} {c_t_acts : Int} {c_t_next : Int} {a_t_kept : Nat} {a_t_isKept : Nat} {a_t_script : Nat} {c_t_scriptSize : Int} {c_t_spot : Int} {a_t_read : Nat} {c_t_readHigh : Int} {c_t_readWide : Int} {a_t_wanted : Nat} {a_t_level : Nat} {a_t_chosen : Nat} {a_t_best : Nat} {res : Int × Int} {k : Int → Int → Option (Int × Int)} (hk : ∀ (v29' : Int) (v30' : Int), k v29' v30' = some res → Z p l e ({ frames := 2, cells := 0, slots := 0, locals := 46 } : Room) s m args below meth c (MQ below (zQ D J A (fun rv w9 => rv = some (.int (zi res.1)) ∧ w9 = [(a_t, .inr (8, [.int (zi res.2), .int (zi c_t_high), .int (zi c_t_wide), .ref a_t_now, .ref a_t_trial, .ref a_t_diary, .int (zi c_t_acts), .int (zi c_t_next), .ref a_t_kept, .ref a_t_isKept, .ref a_t_script, .int (zi c_t_scriptSize), .int (zi c_t_spot), .ref a_t_read, .int (zi c_t_readHigh), .int (zi c_t_readWide), .ref a_t_wanted, .ref a_t_level, .ref a_t_chosen, .ref a_t_best])), (a_t_now, zI J 243 f_t_now)])) args s 0 0 A) cX9_blockers 5 wsX9_blockers RX9 D J A (some .int) (yX9_blockers.name, []) 0 0 [(a_t, .inr (8, [.int (zi q24.2), .int (zi c_t_high), .int (zi c_t_wide), .ref a_t_now, .ref a_t_trial, .ref a_t_diary, .int (zi c_t_acts), .int (zi c_t_next), .ref a_t_kept, .ref a_t_isKept, .ref a_t_script, .int (zi c_t_scriptSize), .int (zi c_t_spot), .ref a_t_read, .int (zi c_t_readHigh), .int (zi c_t_readWide), .ref a_t_wanted, .ref a_t_level, .ref a_t_chosen, .ref a_t_best])), (a_t_now, zI J 243 f_t_now)] [(2, .int (zi v29'))] 107 []) : ∀ (N : Nat) (v29 : Int) (v30 : Int), sh_X9_blockers_L26_2 F p0 c_t_high c_t_wide f_t_now k N v29 v30 = some res → Z p l e ({ frames := 2, cells := 0, slots := 0, locals := 46 } : Room) s m args below meth c (MQ below (zQ D J A (fun rv w9 => rv = some (.int (zi res.1)) ∧ w9 = [(a_t, .inr (8, [.int (zi res.2), .int (zi c_t_high), .int (zi c_t_wide), .ref a_t_now, .ref a_t_trial, .ref a_t_diary, .int (zi c_t_acts), .int (zi c_t_next), .ref a_t_kept, .ref a_t_isKept, .ref a_t_script, .int (zi c_t_scriptSize), .int (zi c_t_spot), .ref a_t_read, .int (zi c_t_readHigh), .int (zi c_t_readWide), .ref a_t_wanted, .ref a_t_level, .ref a_t_chosen, .ref a_t_best])), (a_t_now, zI J 243 f_t_now)])) args s 0 0 A) cX9_blockers 5 wsX9_blockers RX9 D J A (some .int) (yX9_blockers.name, []) 0 0 [(a_t, .inr (8, [.int (zi q24.2), .int (zi c_t_high), .int (zi c_t_wide), .ref a_t_now, .ref a_t_trial, .ref a_t_diary, .int (zi c_t_acts), .int (zi c_t_next), .ref a_t_kept, .ref a_t_isKept, .ref a_t_script, .int (zi c_t_scriptSize), .int (zi c_t_spot), .ref a_t_read, .int (zi c_t_readHigh), .int (zi c_t_readWide), .ref a_t_wanted, .ref a_t_level, .ref a_t_chosen, .ref a_t_best])), (a_t_now, zI J 243 f_t_now)] [(0, .ref a_t), (1, .int (zi p0)), (2, .int (zi v29)), (3, .int (zi v30))] 26 [] := by
  intro N
  induction N with
  | zero =>
    intro v29 v30 hsh
    exact absurd hsh (by simp [sh_X9_blockers_L26_2])
  | succ N ih =>
    intro v29 v30 hsh
    rw [sh_X9_blockers_L26_2] at hsh
    refine z_iload_n (pc' := 27) 3 dX9_blockers_26 rfl rfl rfl ?_
    refine z_aload_n (pc' := 28) 0 dX9_blockers_27 rfl rfl rfl ?_
    obtain ⟨q31, h32, hsh⟩ := zbind hsh
    refine z_callV (pc' := 31) (C := RX9) (As := []) (rest := [.int (zi v30)]) (wr := [(a_t_now, zI J 243 f_t_now)]) 0 (zc_X9_points l D J F (a_t := a_t) (a_t_now := a_t_now) (a_t_trial := a_t_trial) (a_t_diary := a_t_diary) (a_t_kept := a_t_kept) (a_t_isKept := a_t_isKept) (a_t_script := a_t_script) (a_t_read := a_t_read) (a_t_wanted := a_t_wanted) (a_t_level := a_t_level) (a_t_chosen := a_t_chosen) (a_t_best := a_t_best) (c_t_refusal := q24.2) (c_t_high := c_t_high) (c_t_wide := c_t_wide) (c_t_acts := c_t_acts) (c_t_next := c_t_next) (c_t_scriptSize := c_t_scriptSize) (c_t_spot := c_t_spot) (c_t_readHigh := c_t_readHigh) (c_t_readWide := c_t_readWide)  q31 h32) dX9_blockers_28 gX9_blockers_X9_points rfl rfl rfl (by decide +kernel) ⟨Nat.le_of_ble_eq_true rfl, Nat.le_of_ble_eq_true rfl⟩ ⟨Nat.le_of_ble_eq_true rfl, Nat.le_of_ble_eq_true rfl⟩ (z_spl_of [0, 1] rfl rfl) rfl rfl rfl rfl (Nat.le_of_ble_eq_true rfl) rfl (fun rv w9 hq => ?_)
    obtain ⟨rfl, rfl⟩ := hq
    refine z_ws [(a_t_now, zI J 243 f_t_now), (a_t, .inr (8, [.int (zi q24.2), .int (zi c_t_high), .int (zi c_t_wide), .ref a_t_now, .ref a_t_trial, .ref a_t_diary, .int (zi c_t_acts), .int (zi c_t_next), .ref a_t_kept, .ref a_t_isKept, .ref a_t_script, .int (zi c_t_scriptSize), .int (zi c_t_spot), .ref a_t_read, .int (zi c_t_readHigh), .int (zi c_t_readWide), .ref a_t_wanted, .ref a_t_level, .ref a_t_chosen, .ref a_t_best]))] rfl ?_
    have g33 := zkr_p hsh
    replace hsh := zkr_k hsh
    have g34 := zkr_p hsh
    replace hsh := zkr_k hsh
    refine z_icmp_ge (pc' := 34) (tgt := 107) dX9_blockers_31 (by decide) g33 g34 rfl (fun q => ?_) (fun q => ?_)
    · replace hsh := zif_f q hsh
      refine z_perm [(a_t, .inr (8, [.int (zi q24.2), .int (zi c_t_high), .int (zi c_t_wide), .ref a_t_now, .ref a_t_trial, .ref a_t_diary, .int (zi c_t_acts), .int (zi c_t_next), .ref a_t_kept, .ref a_t_isKept, .ref a_t_script, .int (zi c_t_scriptSize), .int (zi c_t_spot), .ref a_t_read, .int (zi c_t_readHigh), .int (zi c_t_readWide), .ref a_t_wanted, .ref a_t_level, .ref a_t_chosen, .ref a_t_best])), (a_t_now, zI J 243 f_t_now)] [(2, .int (zi v29))] [1, 0] [2] rfl rfl rfl ?_
      exact hk _ _ hsh
    · replace hsh := zif_t q hsh
      refine z_aload_n (pc' := 35) 0 dX9_blockers_34 rfl rfl rfl ?_
      refine z_iload_n (pc' := 36) 1 dX9_blockers_35 rfl rfl rfl ?_
      refine z_iload_n (pc' := 37) 3 dX9_blockers_36 rfl rfl rfl ?_
      obtain ⟨q35, h36, hsh⟩ := zbind hsh
      refine z_callV (pc' := 40) (C := RX9) (As := [.int (zi p0), .int (zi v30)]) (rest := []) (wr := [(a_t_now, zI J 243 f_t_now)]) 2 (zc_X9_areBeside l D J F (a_t := a_t) (a_t_now := a_t_now) (a_t_trial := a_t_trial) (a_t_diary := a_t_diary) (a_t_kept := a_t_kept) (a_t_isKept := a_t_isKept) (a_t_script := a_t_script) (a_t_read := a_t_read) (a_t_wanted := a_t_wanted) (a_t_level := a_t_level) (a_t_chosen := a_t_chosen) (a_t_best := a_t_best) (c_t_refusal := q24.2) (c_t_high := c_t_high) (c_t_wide := c_t_wide) (c_t_acts := c_t_acts) (c_t_next := c_t_next) (c_t_scriptSize := c_t_scriptSize) (c_t_spot := c_t_spot) (c_t_readHigh := c_t_readHigh) (c_t_readWide := c_t_readWide) (p0 := p0) (p1 := v30)  q35 h36) dX9_blockers_37 gX9_blockers_X9_areBeside rfl rfl rfl (by decide +kernel) ⟨Nat.le_of_ble_eq_true rfl, Nat.le_of_ble_eq_true rfl⟩ ⟨Nat.le_of_ble_eq_true rfl, Nat.le_of_ble_eq_true rfl⟩ (z_spl_of [1, 0] rfl rfl) rfl rfl rfl rfl (Nat.le_of_ble_eq_true rfl) rfl (fun rv w9 hq => ?_)
      obtain ⟨rfl, rfl⟩ := hq
      refine z_ws [(a_t_now, zI J 243 f_t_now), (a_t, .inr (8, [.int (zi q24.2), .int (zi c_t_high), .int (zi c_t_wide), .ref a_t_now, .ref a_t_trial, .ref a_t_diary, .int (zi c_t_acts), .int (zi c_t_next), .ref a_t_kept, .ref a_t_isKept, .ref a_t_script, .int (zi c_t_scriptSize), .int (zi c_t_spot), .ref a_t_read, .int (zi c_t_readHigh), .int (zi c_t_readWide), .ref a_t_wanted, .ref a_t_level, .ref a_t_chosen, .ref a_t_best]))] rfl ?_
      have g37 := zkr_p hsh
      replace hsh := zkr_k hsh
      refine z_if_eq (pc' := 43) (tgt := 83) dX9_blockers_40 (by decide) g37 rfl (fun q => ?_) (fun q => ?_)
      · replace hsh := zif_t q hsh
        refine z_iconst (pc' := 84) dX9_blockers_83 rfl ?_
        refine z_istore (pc' := 86) [(4, .int (zi (0 : Int))), (0, .ref a_t), (1, .int (zi p0)), (2, .int (zi v29)), (3, .int (zi v30))] dX9_blockers_84 (by decide) rfl rfl ?_
        refine z_iload_n (pc' := 87) 3 dX9_blockers_86 rfl rfl rfl ?_
        refine z_iload (pc' := 89) 0 dX9_blockers_87 rfl rfl ?_
        refine z_if_eq (pc' := 92) (tgt := 98) dX9_blockers_89 (by decide) zr0 rfl (fun q => ?_) (fun q => ?_)
        · replace hsh := zif_t q hsh
          refine z_iconst (pc' := 99) dX9_blockers_98 rfl ?_
          refine z_ior (pc' := 100) dX9_blockers_99 rfl ?_
          refine z_istore_n (pc' := 101) [(2, .int (zi (zor v29 (0 : Int)))), (4, .int (zi (0 : Int))), (0, .ref a_t), (1, .int (zi p0)), (3, .int (zi v30))] dX9_blockers_100 rfl (by decide) rfl rfl ?_
          refine z_iinc (pc' := 104) [(3, .int (zi (v30 + (1 : Int)))), (2, .int (zi (zor v29 (0 : Int)))), (4, .int (zi (0 : Int))), (0, .ref a_t), (1, .int (zi p0))] 4 dX9_blockers_101 rfl (by decide) rfl rfl ?_
          refine z_goto (tgt := 26) dX9_blockers_104 (by decide) ?_
          refine z_perm [(a_t, .inr (8, [.int (zi q24.2), .int (zi c_t_high), .int (zi c_t_wide), .ref a_t_now, .ref a_t_trial, .ref a_t_diary, .int (zi c_t_acts), .int (zi c_t_next), .ref a_t_kept, .ref a_t_isKept, .ref a_t_script, .int (zi c_t_scriptSize), .int (zi c_t_spot), .ref a_t_read, .int (zi c_t_readHigh), .int (zi c_t_readWide), .ref a_t_wanted, .ref a_t_level, .ref a_t_chosen, .ref a_t_best])), (a_t_now, zI J 243 f_t_now)] [(0, .ref a_t), (1, .int (zi p0)), (2, .int (zi (zor v29 (0 : Int)))), (3, .int (zi (v30 + (1 : Int))))] [1, 0] [3, 4, 1, 0] rfl rfl rfl ?_
          exact ih _ _ hsh
        · replace hsh := zif_f q hsh
          refine z_iconst (pc' := 93) dX9_blockers_92 rfl ?_
          refine z_iload_n (pc' := 94) 4 dX9_blockers_93 rfl rfl rfl ?_
          refine z_ishl (pc' := 95) dX9_blockers_94 rfl ?_
          refine z_goto (tgt := 99) dX9_blockers_95 (by decide) ?_
          refine z_ior (pc' := 100) dX9_blockers_99 rfl ?_
          refine z_istore_n (pc' := 101) [(2, .int (zi (zor v29 (zshl (1 : Int) v30)))), (4, .int (zi (0 : Int))), (0, .ref a_t), (1, .int (zi p0)), (3, .int (zi v30))] dX9_blockers_100 rfl (by decide) rfl rfl ?_
          refine z_iinc (pc' := 104) [(3, .int (zi (v30 + (1 : Int)))), (2, .int (zi (zor v29 (zshl (1 : Int) v30)))), (4, .int (zi (0 : Int))), (0, .ref a_t), (1, .int (zi p0))] 4 dX9_blockers_101 rfl (by decide) rfl rfl ?_
          refine z_goto (tgt := 26) dX9_blockers_104 (by decide) ?_
          refine z_perm [(a_t, .inr (8, [.int (zi q24.2), .int (zi c_t_high), .int (zi c_t_wide), .ref a_t_now, .ref a_t_trial, .ref a_t_diary, .int (zi c_t_acts), .int (zi c_t_next), .ref a_t_kept, .ref a_t_isKept, .ref a_t_script, .int (zi c_t_scriptSize), .int (zi c_t_spot), .ref a_t_read, .int (zi c_t_readHigh), .int (zi c_t_readWide), .ref a_t_wanted, .ref a_t_level, .ref a_t_chosen, .ref a_t_best])), (a_t_now, zI J 243 f_t_now)] [(0, .ref a_t), (1, .int (zi p0)), (2, .int (zi (zor v29 (zshl (1 : Int) v30)))), (3, .int (zi (v30 + (1 : Int))))] [1, 0] [3, 4, 1, 0] rfl rfl rfl ?_
          exact ih _ _ hsh
      · replace hsh := zif_f q hsh
        refine z_aload_n (pc' := 44) 0 dX9_blockers_43 rfl rfl rfl ?_
        refine z_getfield (pc' := 47) (C := RX9) (T := TX9) (N := 20) 1 3 dX9_blockers_44 iX9_blockers_X9 rfl rfl (by decide) mX9_blockers_f16 rfl rfl ?_
        refine z_bipush (pc' := 49) dX9_blockers_47 (by decide) rfl ?_
        refine z_iload_n (pc' := 50) 1 dX9_blockers_49 rfl rfl rfl ?_
        refine z_imul (pc' := 51) dX9_blockers_50 rfl ?_
        refine z_iconst (pc' := 52) dX9_blockers_51 rfl ?_
        refine z_iadd (pc' := 53) dX9_blockers_52 rfl ?_
        have g38 := zkx_p hsh
        replace hsh := zkx_k hsh
        refine z_iaload (pc' := 54) 0 dX9_blockers_53 rfl (by decide) g38 rfl ?_
        refine z_iconst (pc' := 55) dX9_blockers_54 rfl ?_
        refine z_iadd (pc' := 56) dX9_blockers_55 rfl ?_
        refine z_aload_n (pc' := 57) 0 dX9_blockers_56 rfl rfl rfl ?_
        refine z_getfield (pc' := 60) (C := RX9) (T := TX9) (N := 20) 1 3 dX9_blockers_57 iX9_blockers_X9 rfl rfl (by decide) mX9_blockers_f16 rfl rfl ?_
        refine z_bipush (pc' := 62) dX9_blockers_60 (by decide) rfl ?_
        refine z_iload_n (pc' := 63) 3 dX9_blockers_62 rfl rfl rfl ?_
        refine z_imul (pc' := 64) dX9_blockers_63 rfl ?_
        refine z_iconst (pc' := 65) dX9_blockers_64 rfl ?_
        refine z_iadd (pc' := 66) dX9_blockers_65 rfl ?_
        have g39 := zkx_p hsh
        replace hsh := zkx_k hsh
        refine z_iaload (pc' := 67) 0 dX9_blockers_66 rfl (by decide) g39 rfl ?_
        refine z_isub (pc' := 68) dX9_blockers_67 rfl ?_
        refine z_aload_n (pc' := 69) 0 dX9_blockers_68 rfl rfl rfl ?_
        refine z_getfield (pc' := 72) (C := RX9) (T := TX9) (N := 20) 1 3 dX9_blockers_69 iX9_blockers_X9 rfl rfl (by decide) mX9_blockers_f16 rfl rfl ?_
        refine z_sipush (pc' := 75) dX9_blockers_72 (by decide) rfl ?_
        refine z_iaload (pc' := 76) 0 dX9_blockers_75 rfl (by decide) (by decide) rfl ?_
        have g40 := zkr_p hsh
        replace hsh := zkr_k hsh
        have g41 := zkr_p hsh
        replace hsh := zkr_k hsh
        refine z_icmp_le (pc' := 79) (tgt := 83) dX9_blockers_76 (by decide) g40 g41 rfl (fun q => ?_) (fun q => ?_)
        · replace hsh := zif_f q hsh
          refine z_iconst (pc' := 84) dX9_blockers_83 rfl ?_
          refine z_istore (pc' := 86) [(4, .int (zi (0 : Int))), (0, .ref a_t), (1, .int (zi p0)), (2, .int (zi v29)), (3, .int (zi v30))] dX9_blockers_84 (by decide) rfl rfl ?_
          refine z_iload_n (pc' := 87) 3 dX9_blockers_86 rfl rfl rfl ?_
          refine z_iload (pc' := 89) 0 dX9_blockers_87 rfl rfl ?_
          refine z_if_eq (pc' := 92) (tgt := 98) dX9_blockers_89 (by decide) zr0 rfl (fun q => ?_) (fun q => ?_)
          · replace hsh := zif_t q hsh
            refine z_iconst (pc' := 99) dX9_blockers_98 rfl ?_
            refine z_ior (pc' := 100) dX9_blockers_99 rfl ?_
            refine z_istore_n (pc' := 101) [(2, .int (zi (zor v29 (0 : Int)))), (4, .int (zi (0 : Int))), (0, .ref a_t), (1, .int (zi p0)), (3, .int (zi v30))] dX9_blockers_100 rfl (by decide) rfl rfl ?_
            refine z_iinc (pc' := 104) [(3, .int (zi (v30 + (1 : Int)))), (2, .int (zi (zor v29 (0 : Int)))), (4, .int (zi (0 : Int))), (0, .ref a_t), (1, .int (zi p0))] 4 dX9_blockers_101 rfl (by decide) rfl rfl ?_
            refine z_goto (tgt := 26) dX9_blockers_104 (by decide) ?_
            refine z_perm [(a_t, .inr (8, [.int (zi q24.2), .int (zi c_t_high), .int (zi c_t_wide), .ref a_t_now, .ref a_t_trial, .ref a_t_diary, .int (zi c_t_acts), .int (zi c_t_next), .ref a_t_kept, .ref a_t_isKept, .ref a_t_script, .int (zi c_t_scriptSize), .int (zi c_t_spot), .ref a_t_read, .int (zi c_t_readHigh), .int (zi c_t_readWide), .ref a_t_wanted, .ref a_t_level, .ref a_t_chosen, .ref a_t_best])), (a_t_now, zI J 243 f_t_now)] [(0, .ref a_t), (1, .int (zi p0)), (2, .int (zi (zor v29 (0 : Int)))), (3, .int (zi (v30 + (1 : Int))))] [1, 0] [3, 4, 1, 0] rfl rfl rfl ?_
            exact ih _ _ hsh
          · replace hsh := zif_f q hsh
            refine z_iconst (pc' := 93) dX9_blockers_92 rfl ?_
            refine z_iload_n (pc' := 94) 4 dX9_blockers_93 rfl rfl rfl ?_
            refine z_ishl (pc' := 95) dX9_blockers_94 rfl ?_
            refine z_goto (tgt := 99) dX9_blockers_95 (by decide) ?_
            refine z_ior (pc' := 100) dX9_blockers_99 rfl ?_
            refine z_istore_n (pc' := 101) [(2, .int (zi (zor v29 (zshl (1 : Int) v30)))), (4, .int (zi (0 : Int))), (0, .ref a_t), (1, .int (zi p0)), (3, .int (zi v30))] dX9_blockers_100 rfl (by decide) rfl rfl ?_
            refine z_iinc (pc' := 104) [(3, .int (zi (v30 + (1 : Int)))), (2, .int (zi (zor v29 (zshl (1 : Int) v30)))), (4, .int (zi (0 : Int))), (0, .ref a_t), (1, .int (zi p0))] 4 dX9_blockers_101 rfl (by decide) rfl rfl ?_
            refine z_goto (tgt := 26) dX9_blockers_104 (by decide) ?_
            refine z_perm [(a_t, .inr (8, [.int (zi q24.2), .int (zi c_t_high), .int (zi c_t_wide), .ref a_t_now, .ref a_t_trial, .ref a_t_diary, .int (zi c_t_acts), .int (zi c_t_next), .ref a_t_kept, .ref a_t_isKept, .ref a_t_script, .int (zi c_t_scriptSize), .int (zi c_t_spot), .ref a_t_read, .int (zi c_t_readHigh), .int (zi c_t_readWide), .ref a_t_wanted, .ref a_t_level, .ref a_t_chosen, .ref a_t_best])), (a_t_now, zI J 243 f_t_now)] [(0, .ref a_t), (1, .int (zi p0)), (2, .int (zi (zor v29 (zshl (1 : Int) v30)))), (3, .int (zi (v30 + (1 : Int))))] [1, 0] [3, 4, 1, 0] rfl rfl rfl ?_
            exact ih _ _ hsh
        · replace hsh := zif_t q hsh
          refine z_iconst (pc' := 80) dX9_blockers_79 rfl ?_
          refine z_goto (tgt := 84) dX9_blockers_80 (by decide) ?_
          refine z_istore (pc' := 86) [(4, .int (zi (1 : Int))), (0, .ref a_t), (1, .int (zi p0)), (2, .int (zi v29)), (3, .int (zi v30))] dX9_blockers_84 (by decide) rfl rfl ?_
          refine z_iload_n (pc' := 87) 3 dX9_blockers_86 rfl rfl rfl ?_
          refine z_iload (pc' := 89) 0 dX9_blockers_87 rfl rfl ?_
          refine z_if_eq (pc' := 92) (tgt := 98) dX9_blockers_89 (by decide) (by decide) rfl (fun q => ?_) (fun q => ?_)
          · replace hsh := zif_t q hsh
            refine z_iconst (pc' := 99) dX9_blockers_98 rfl ?_
            refine z_ior (pc' := 100) dX9_blockers_99 rfl ?_
            refine z_istore_n (pc' := 101) [(2, .int (zi (zor v29 (0 : Int)))), (4, .int (zi (1 : Int))), (0, .ref a_t), (1, .int (zi p0)), (3, .int (zi v30))] dX9_blockers_100 rfl (by decide) rfl rfl ?_
            refine z_iinc (pc' := 104) [(3, .int (zi (v30 + (1 : Int)))), (2, .int (zi (zor v29 (0 : Int)))), (4, .int (zi (1 : Int))), (0, .ref a_t), (1, .int (zi p0))] 4 dX9_blockers_101 rfl (by decide) rfl rfl ?_
            refine z_goto (tgt := 26) dX9_blockers_104 (by decide) ?_
            refine z_perm [(a_t, .inr (8, [.int (zi q24.2), .int (zi c_t_high), .int (zi c_t_wide), .ref a_t_now, .ref a_t_trial, .ref a_t_diary, .int (zi c_t_acts), .int (zi c_t_next), .ref a_t_kept, .ref a_t_isKept, .ref a_t_script, .int (zi c_t_scriptSize), .int (zi c_t_spot), .ref a_t_read, .int (zi c_t_readHigh), .int (zi c_t_readWide), .ref a_t_wanted, .ref a_t_level, .ref a_t_chosen, .ref a_t_best])), (a_t_now, zI J 243 f_t_now)] [(0, .ref a_t), (1, .int (zi p0)), (2, .int (zi (zor v29 (0 : Int)))), (3, .int (zi (v30 + (1 : Int))))] [1, 0] [3, 4, 1, 0] rfl rfl rfl ?_
            exact ih _ _ hsh
          · replace hsh := zif_f q hsh
            refine z_iconst (pc' := 93) dX9_blockers_92 rfl ?_
            refine z_iload_n (pc' := 94) 4 dX9_blockers_93 rfl rfl rfl ?_
            refine z_ishl (pc' := 95) dX9_blockers_94 rfl ?_
            refine z_goto (tgt := 99) dX9_blockers_95 (by decide) ?_
            refine z_ior (pc' := 100) dX9_blockers_99 rfl ?_
            refine z_istore_n (pc' := 101) [(2, .int (zi (zor v29 (zshl (1 : Int) v30)))), (4, .int (zi (1 : Int))), (0, .ref a_t), (1, .int (zi p0)), (3, .int (zi v30))] dX9_blockers_100 rfl (by decide) rfl rfl ?_
            refine z_iinc (pc' := 104) [(3, .int (zi (v30 + (1 : Int)))), (2, .int (zi (zor v29 (zshl (1 : Int) v30)))), (4, .int (zi (1 : Int))), (0, .ref a_t), (1, .int (zi p0))] 4 dX9_blockers_101 rfl (by decide) rfl rfl ?_
            refine z_goto (tgt := 26) dX9_blockers_104 (by decide) ?_
            refine z_perm [(a_t, .inr (8, [.int (zi q24.2), .int (zi c_t_high), .int (zi c_t_wide), .ref a_t_now, .ref a_t_trial, .ref a_t_diary, .int (zi c_t_acts), .int (zi c_t_next), .ref a_t_kept, .ref a_t_isKept, .ref a_t_script, .int (zi c_t_scriptSize), .int (zi c_t_spot), .ref a_t_read, .int (zi c_t_readHigh), .int (zi c_t_readWide), .ref a_t_wanted, .ref a_t_level, .ref a_t_chosen, .ref a_t_best])), (a_t_now, zI J 243 f_t_now)] [(0, .ref a_t), (1, .int (zi p0)), (2, .int (zi (zor v29 (zshl (1 : Int) v30)))), (3, .int (zi (v30 + (1 : Int))))] [1, 0] [3, 4, 1, 0] rfl rfl rfl ?_
            exact ih _ _ hsh
set_option maxRecDepth 100000 in
set_option maxHeartbeats 4000000 in
theorem zc_X9_blockers (l : Launch) (D : va_G) (J : Nat → ClassId) (F : Nat) (a_t : Nat) (a_t_now : Nat) (a_t_trial : Nat) (a_t_diary : Nat) (a_t_kept : Nat) (a_t_isKept : Nat) (a_t_script : Nat) (a_t_read : Nat) (a_t_wanted : Nat) (a_t_level : Nat) (a_t_chosen : Nat) (a_t_best : Nat) (c_t_refusal : Int) (c_t_high : Int) (c_t_wide : Int) (c_t_acts : Int) (c_t_next : Int) (c_t_scriptSize : Int) (c_t_spot : Int) (c_t_readHigh : Int) (c_t_readWide : Int) (f_t_now : Nat → Int) (p0 : Int) (res : Int × Int) (hsh : sh_X9_blockers F c_t_high c_t_wide f_t_now p0 = some res) : ZM l D J yX9_blockers wsX9_blockers ({ frames := 2, cells := 0, slots := 0, locals := 46 } : Room) 0 0 [.ref a_t, .int (zi p0)] [(a_t, .inr (8, [.int (zi c_t_refusal), .int (zi c_t_high), .int (zi c_t_wide), .ref a_t_now, .ref a_t_trial, .ref a_t_diary, .int (zi c_t_acts), .int (zi c_t_next), .ref a_t_kept, .ref a_t_isKept, .ref a_t_script, .int (zi c_t_scriptSize), .int (zi c_t_spot), .ref a_t_read, .int (zi c_t_readHigh), .int (zi c_t_readWide), .ref a_t_wanted, .ref a_t_level, .ref a_t_chosen, .ref a_t_best])), (a_t_now, zI J 243 f_t_now)] (fun rv w9 => rv = some (.int (zi res.1)) ∧ w9 = [(a_t, .inr (8, [.int (zi res.2), .int (zi c_t_high), .int (zi c_t_wide), .ref a_t_now, .ref a_t_trial, .ref a_t_diary, .int (zi c_t_acts), .int (zi c_t_next), .ref a_t_kept, .ref a_t_isKept, .ref a_t_script, .int (zi c_t_scriptSize), .int (zi c_t_spot), .ref a_t_read, .int (zi c_t_readHigh), .int (zi c_t_readWide), .ref a_t_wanted, .ref a_t_level, .ref a_t_chosen, .ref a_t_best])), (a_t_now, zI J 243 f_t_now)]) := by
  refine z_ofZ (cc := cX9_blockers) (maxL := 5) (ret := (some .int)) 0 0 (by decide) rfl (Nat.le_of_ble_eq_true rfl) [(0, .ref a_t), (1, .int (zi p0))] rfl ?_
  intro p e s m args below meth c A
  unfold sh_X9_blockers at hsh
  refine z_aload_n (pc' := 1) 0 dX9_blockers_0 rfl rfl rfl ?_
  refine z_aload_n (pc' := 2) 0 dX9_blockers_1 rfl rfl rfl ?_
  refine z_iload_n (pc' := 3) 1 dX9_blockers_2 rfl rfl rfl ?_
  obtain ⟨q1, h2, hsh⟩ := zbind hsh
  refine z_callV (pc' := 6) (C := RX9) (As := [.int (zi p0)]) (rest := [.ref a_t]) (wr := [(a_t_now, zI J 243 f_t_now)]) 1 (zc_X9_isPoint l D J F (a_t := a_t) (a_t_now := a_t_now) (a_t_trial := a_t_trial) (a_t_diary := a_t_diary) (a_t_kept := a_t_kept) (a_t_isKept := a_t_isKept) (a_t_script := a_t_script) (a_t_read := a_t_read) (a_t_wanted := a_t_wanted) (a_t_level := a_t_level) (a_t_chosen := a_t_chosen) (a_t_best := a_t_best) (c_t_refusal := c_t_refusal) (c_t_high := c_t_high) (c_t_wide := c_t_wide) (c_t_acts := c_t_acts) (c_t_next := c_t_next) (c_t_scriptSize := c_t_scriptSize) (c_t_spot := c_t_spot) (c_t_readHigh := c_t_readHigh) (c_t_readWide := c_t_readWide) (p0 := p0)  q1 h2) dX9_blockers_3 gX9_blockers_X9_isPoint rfl rfl rfl (by decide +kernel) ⟨Nat.le_of_ble_eq_true rfl, Nat.le_of_ble_eq_true rfl⟩ ⟨Nat.le_of_ble_eq_true rfl, Nat.le_of_ble_eq_true rfl⟩ (z_spl_of [0, 1] rfl rfl) rfl rfl rfl rfl (Nat.le_of_ble_eq_true rfl) rfl (fun rv w9 hq => ?_)
  obtain ⟨rfl, rfl⟩ := hq
  refine z_ws [(a_t_now, zI J 243 f_t_now), (a_t, .inr (8, [.int (zi c_t_refusal), .int (zi c_t_high), .int (zi c_t_wide), .ref a_t_now, .ref a_t_trial, .ref a_t_diary, .int (zi c_t_acts), .int (zi c_t_next), .ref a_t_kept, .ref a_t_isKept, .ref a_t_script, .int (zi c_t_scriptSize), .int (zi c_t_spot), .ref a_t_read, .int (zi c_t_readHigh), .int (zi c_t_readWide), .ref a_t_wanted, .ref a_t_level, .ref a_t_chosen, .ref a_t_best]))] rfl ?_
  have g3 := zkr_p hsh
  replace hsh := zkr_k hsh
  refine z_if_eq (pc' := 9) (tgt := 13) dX9_blockers_6 (by decide) g3 rfl (fun q => ?_) (fun q => ?_)
  · replace hsh := zif_t q hsh
    refine z_iconst (pc' := 14) dX9_blockers_13 rfl ?_
    obtain ⟨q4, h5, hsh⟩ := zbind hsh
    refine z_callV (pc' := 17) (C := RX9) (As := [.int (zi (1 : Int))]) (rest := []) (wr := [(a_t_now, zI J 243 f_t_now)]) 1 (zc_X9_refused l D J F (a_t := a_t) (a_t_now := a_t_now) (a_t_trial := a_t_trial) (a_t_diary := a_t_diary) (a_t_kept := a_t_kept) (a_t_isKept := a_t_isKept) (a_t_script := a_t_script) (a_t_read := a_t_read) (a_t_wanted := a_t_wanted) (a_t_level := a_t_level) (a_t_chosen := a_t_chosen) (a_t_best := a_t_best) (c_t_refusal := c_t_refusal) (c_t_high := c_t_high) (c_t_wide := c_t_wide) (c_t_acts := c_t_acts) (c_t_next := c_t_next) (c_t_scriptSize := c_t_scriptSize) (c_t_spot := c_t_spot) (c_t_readHigh := c_t_readHigh) (c_t_readWide := c_t_readWide) (p0 := (1 : Int))  q4 h5) dX9_blockers_14 gX9_blockers_X9_refused rfl rfl rfl (by decide +kernel) ⟨Nat.le_of_ble_eq_true rfl, Nat.le_of_ble_eq_true rfl⟩ ⟨Nat.le_of_ble_eq_true rfl, Nat.le_of_ble_eq_true rfl⟩ (z_spl_of [1, 0] rfl rfl) rfl rfl rfl rfl (Nat.le_of_ble_eq_true rfl) rfl (fun rv w9 hq => ?_)
    obtain ⟨rfl, rfl⟩ := hq
    refine z_ws [(a_t_now, zI J 243 f_t_now), (a_t, .inr (8, [.int (zi q4.2), .int (zi c_t_high), .int (zi c_t_wide), .ref a_t_now, .ref a_t_trial, .ref a_t_diary, .int (zi c_t_acts), .int (zi c_t_next), .ref a_t_kept, .ref a_t_isKept, .ref a_t_script, .int (zi c_t_scriptSize), .int (zi c_t_spot), .ref a_t_read, .int (zi c_t_readHigh), .int (zi c_t_readWide), .ref a_t_wanted, .ref a_t_level, .ref a_t_chosen, .ref a_t_best]))] rfl ?_
    have g6 := zkr_p hsh
    replace hsh := zkr_k hsh
    refine z_if_eq (pc' := 20) (tgt := 22) dX9_blockers_17 (by decide) g6 rfl (fun q => ?_) (fun q => ?_)
    · replace hsh := zif_t q hsh
      refine z_iconst (pc' := 23) dX9_blockers_22 rfl ?_
      refine z_istore_n (pc' := 24) [(2, .int (zi (0 : Int))), (0, .ref a_t), (1, .int (zi p0))] dX9_blockers_23 rfl (by decide) rfl rfl ?_
      refine z_iconst (pc' := 25) dX9_blockers_24 rfl ?_
      refine z_istore_n (pc' := 26) [(3, .int (zi (0 : Int))), (2, .int (zi (0 : Int))), (0, .ref a_t), (1, .int (zi p0))] dX9_blockers_25 rfl (by decide) rfl rfl ?_
      refine z_perm [(a_t, .inr (8, [.int (zi q4.2), .int (zi c_t_high), .int (zi c_t_wide), .ref a_t_now, .ref a_t_trial, .ref a_t_diary, .int (zi c_t_acts), .int (zi c_t_next), .ref a_t_kept, .ref a_t_isKept, .ref a_t_script, .int (zi c_t_scriptSize), .int (zi c_t_spot), .ref a_t_read, .int (zi c_t_readHigh), .int (zi c_t_readWide), .ref a_t_wanted, .ref a_t_level, .ref a_t_chosen, .ref a_t_best])), (a_t_now, zI J 243 f_t_now)] [(0, .ref a_t), (1, .int (zi p0)), (2, .int (zi (0 : Int))), (3, .int (zi (0 : Int)))] [1, 0] [2, 3, 1, 0] rfl rfl rfl ?_
      refine zl_X9_blockers_L26 (F := F) (hk := fun v22 v23 hsh => ?_) _ _ _ hsh
      refine z_iload_n (pc' := 108) 0 dX9_blockers_107 rfl rfl rfl ?_
      cases hsh
      exact z_iret rfl dX9_blockers_108 ⟨rfl, rfl⟩
    · replace hsh := zif_f q hsh
      refine z_iconst (pc' := 21) dX9_blockers_20 rfl ?_
      refine z_perm [(a_t, .inr (8, [.int (zi q4.2), .int (zi c_t_high), .int (zi c_t_wide), .ref a_t_now, .ref a_t_trial, .ref a_t_diary, .int (zi c_t_acts), .int (zi c_t_next), .ref a_t_kept, .ref a_t_isKept, .ref a_t_script, .int (zi c_t_scriptSize), .int (zi c_t_spot), .ref a_t_read, .int (zi c_t_readHigh), .int (zi c_t_readWide), .ref a_t_wanted, .ref a_t_level, .ref a_t_chosen, .ref a_t_best])), (a_t_now, zI J 243 f_t_now)] [(0, .ref a_t), (1, .int (zi p0))] [1, 0] [0, 1] rfl rfl rfl ?_
      cases hsh
      exact z_iret rfl dX9_blockers_21 ⟨rfl, rfl⟩
  · replace hsh := zif_f q hsh
    refine z_iconst (pc' := 10) dX9_blockers_9 rfl ?_
    refine z_goto (tgt := 14) dX9_blockers_10 (by decide) ?_
    obtain ⟨q24, h25, hsh⟩ := zbind hsh
    refine z_callV (pc' := 17) (C := RX9) (As := [.int (zi (0 : Int))]) (rest := []) (wr := [(a_t_now, zI J 243 f_t_now)]) 1 (zc_X9_refused l D J F (a_t := a_t) (a_t_now := a_t_now) (a_t_trial := a_t_trial) (a_t_diary := a_t_diary) (a_t_kept := a_t_kept) (a_t_isKept := a_t_isKept) (a_t_script := a_t_script) (a_t_read := a_t_read) (a_t_wanted := a_t_wanted) (a_t_level := a_t_level) (a_t_chosen := a_t_chosen) (a_t_best := a_t_best) (c_t_refusal := c_t_refusal) (c_t_high := c_t_high) (c_t_wide := c_t_wide) (c_t_acts := c_t_acts) (c_t_next := c_t_next) (c_t_scriptSize := c_t_scriptSize) (c_t_spot := c_t_spot) (c_t_readHigh := c_t_readHigh) (c_t_readWide := c_t_readWide) (p0 := (0 : Int))  q24 h25) dX9_blockers_14 gX9_blockers_X9_refused rfl rfl rfl (by decide +kernel) ⟨Nat.le_of_ble_eq_true rfl, Nat.le_of_ble_eq_true rfl⟩ ⟨Nat.le_of_ble_eq_true rfl, Nat.le_of_ble_eq_true rfl⟩ (z_spl_of [1, 0] rfl rfl) rfl rfl rfl rfl (Nat.le_of_ble_eq_true rfl) rfl (fun rv w9 hq => ?_)
    obtain ⟨rfl, rfl⟩ := hq
    refine z_ws [(a_t_now, zI J 243 f_t_now), (a_t, .inr (8, [.int (zi q24.2), .int (zi c_t_high), .int (zi c_t_wide), .ref a_t_now, .ref a_t_trial, .ref a_t_diary, .int (zi c_t_acts), .int (zi c_t_next), .ref a_t_kept, .ref a_t_isKept, .ref a_t_script, .int (zi c_t_scriptSize), .int (zi c_t_spot), .ref a_t_read, .int (zi c_t_readHigh), .int (zi c_t_readWide), .ref a_t_wanted, .ref a_t_level, .ref a_t_chosen, .ref a_t_best]))] rfl ?_
    have g26 := zkr_p hsh
    replace hsh := zkr_k hsh
    refine z_if_eq (pc' := 20) (tgt := 22) dX9_blockers_17 (by decide) g26 rfl (fun q => ?_) (fun q => ?_)
    · replace hsh := zif_t q hsh
      refine z_iconst (pc' := 23) dX9_blockers_22 rfl ?_
      refine z_istore_n (pc' := 24) [(2, .int (zi (0 : Int))), (0, .ref a_t), (1, .int (zi p0))] dX9_blockers_23 rfl (by decide) rfl rfl ?_
      refine z_iconst (pc' := 25) dX9_blockers_24 rfl ?_
      refine z_istore_n (pc' := 26) [(3, .int (zi (0 : Int))), (2, .int (zi (0 : Int))), (0, .ref a_t), (1, .int (zi p0))] dX9_blockers_25 rfl (by decide) rfl rfl ?_
      refine z_perm [(a_t, .inr (8, [.int (zi q24.2), .int (zi c_t_high), .int (zi c_t_wide), .ref a_t_now, .ref a_t_trial, .ref a_t_diary, .int (zi c_t_acts), .int (zi c_t_next), .ref a_t_kept, .ref a_t_isKept, .ref a_t_script, .int (zi c_t_scriptSize), .int (zi c_t_spot), .ref a_t_read, .int (zi c_t_readHigh), .int (zi c_t_readWide), .ref a_t_wanted, .ref a_t_level, .ref a_t_chosen, .ref a_t_best])), (a_t_now, zI J 243 f_t_now)] [(0, .ref a_t), (1, .int (zi p0)), (2, .int (zi (0 : Int))), (3, .int (zi (0 : Int)))] [1, 0] [2, 3, 1, 0] rfl rfl rfl ?_
      refine zl_X9_blockers_L26_2 (F := F) (hk := fun v42 v43 hsh => ?_) _ _ _ hsh
      refine z_iload_n (pc' := 108) 0 dX9_blockers_107 rfl rfl rfl ?_
      cases hsh
      exact z_iret rfl dX9_blockers_108 ⟨rfl, rfl⟩
    · replace hsh := zif_f q hsh
      refine z_iconst (pc' := 21) dX9_blockers_20 rfl ?_
      refine z_perm [(a_t, .inr (8, [.int (zi q24.2), .int (zi c_t_high), .int (zi c_t_wide), .ref a_t_now, .ref a_t_trial, .ref a_t_diary, .int (zi c_t_acts), .int (zi c_t_next), .ref a_t_kept, .ref a_t_isKept, .ref a_t_script, .int (zi c_t_scriptSize), .int (zi c_t_spot), .ref a_t_read, .int (zi c_t_readHigh), .int (zi c_t_readWide), .ref a_t_wanted, .ref a_t_level, .ref a_t_chosen, .ref a_t_best])), (a_t_now, zI J 243 f_t_now)] [(0, .ref a_t), (1, .int (zi p0))] [1, 0] [0, 1] rfl rfl rfl ?_
      cases hsh
      exact z_iret rfl dX9_blockers_21 ⟨rfl, rfl⟩
def sh_X9_slack (F : Nat) (c_t_high : Int) (c_t_wide : Int) (f_t_now : Nat → Int) (p0 : Int) : Option (Int × Int) := (sh_X9_isPoint F c_t_high c_t_wide p0).bind (fun (q1 : Int) => zkr q1 (if q1 = (0 : Int) then (sh_X9_refused F (1 : Int)).bind (fun (q4 : Int × Int) => zkr q4.1 (if q4.1 = (0 : Int) then (sh_X9_slackOf F c_t_high c_t_wide f_t_now 243 (0 : Int) p0).bind (fun (q7 : Int) => some (q7, q4.2)) else some ((0 : Int), q4.2))) else (sh_X9_refused F (0 : Int)).bind (fun (q9 : Int × Int) => zkr q9.1 (if q9.1 = (0 : Int) then (sh_X9_slackOf F c_t_high c_t_wide f_t_now 243 (0 : Int) p0).bind (fun (q12 : Int) => some (q12, q9.2)) else some ((0 : Int), q9.2)))))
theorem mX9_slack_f16 : Cond.fieldLink RX9 16 (TX9 3).1 (TX9 3).2.1 (TX9 3).2.2.1 ∈ wsX9_slack := List.mem_of_getElem? (i := 1) rfl
theorem iX9_slack_X9 : ∀ w ∈ wsX90, w ∈ wsX9_slack := fun _ h => (List.mem_cons_of_mem _ (List.mem_append_right _ h))
set_option maxRecDepth 100000 in
set_option maxHeartbeats 4000000 in
theorem zc_X9_slack (l : Launch) (D : va_G) (J : Nat → ClassId) (F : Nat) (a_t : Nat) (a_t_now : Nat) (a_t_trial : Nat) (a_t_diary : Nat) (a_t_kept : Nat) (a_t_isKept : Nat) (a_t_script : Nat) (a_t_read : Nat) (a_t_wanted : Nat) (a_t_level : Nat) (a_t_chosen : Nat) (a_t_best : Nat) (c_t_refusal : Int) (c_t_high : Int) (c_t_wide : Int) (c_t_acts : Int) (c_t_next : Int) (c_t_scriptSize : Int) (c_t_spot : Int) (c_t_readHigh : Int) (c_t_readWide : Int) (f_t_now : Nat → Int) (p0 : Int) (res : Int × Int) (hsh : sh_X9_slack F c_t_high c_t_wide f_t_now p0 = some res) : ZM l D J yX9_slack wsX9_slack ({ frames := 3, cells := 0, slots := 0, locals := 75 } : Room) 0 0 [.ref a_t, .int (zi p0)] [(a_t, .inr (8, [.int (zi c_t_refusal), .int (zi c_t_high), .int (zi c_t_wide), .ref a_t_now, .ref a_t_trial, .ref a_t_diary, .int (zi c_t_acts), .int (zi c_t_next), .ref a_t_kept, .ref a_t_isKept, .ref a_t_script, .int (zi c_t_scriptSize), .int (zi c_t_spot), .ref a_t_read, .int (zi c_t_readHigh), .int (zi c_t_readWide), .ref a_t_wanted, .ref a_t_level, .ref a_t_chosen, .ref a_t_best])), (a_t_now, zI J 243 f_t_now)] (fun rv w9 => rv = some (.int (zi res.1)) ∧ w9 = [(a_t, .inr (8, [.int (zi res.2), .int (zi c_t_high), .int (zi c_t_wide), .ref a_t_now, .ref a_t_trial, .ref a_t_diary, .int (zi c_t_acts), .int (zi c_t_next), .ref a_t_kept, .ref a_t_isKept, .ref a_t_script, .int (zi c_t_scriptSize), .int (zi c_t_spot), .ref a_t_read, .int (zi c_t_readHigh), .int (zi c_t_readWide), .ref a_t_wanted, .ref a_t_level, .ref a_t_chosen, .ref a_t_best])), (a_t_now, zI J 243 f_t_now)]) := by
  refine z_ofZ (cc := cX9_slack) (maxL := 2) (ret := (some .int)) 0 0 (by decide) rfl (Nat.le_of_ble_eq_true rfl) [(0, .ref a_t), (1, .int (zi p0))] rfl ?_
  intro p e s m args below meth c A
  unfold sh_X9_slack at hsh
  refine z_aload_n (pc' := 1) 0 dX9_slack_0 rfl rfl rfl ?_
  refine z_aload_n (pc' := 2) 0 dX9_slack_1 rfl rfl rfl ?_
  refine z_iload_n (pc' := 3) 1 dX9_slack_2 rfl rfl rfl ?_
  obtain ⟨q1, h2, hsh⟩ := zbind hsh
  refine z_callV (pc' := 6) (C := RX9) (As := [.int (zi p0)]) (rest := [.ref a_t]) (wr := [(a_t_now, zI J 243 f_t_now)]) 1 (zc_X9_isPoint l D J F (a_t := a_t) (a_t_now := a_t_now) (a_t_trial := a_t_trial) (a_t_diary := a_t_diary) (a_t_kept := a_t_kept) (a_t_isKept := a_t_isKept) (a_t_script := a_t_script) (a_t_read := a_t_read) (a_t_wanted := a_t_wanted) (a_t_level := a_t_level) (a_t_chosen := a_t_chosen) (a_t_best := a_t_best) (c_t_refusal := c_t_refusal) (c_t_high := c_t_high) (c_t_wide := c_t_wide) (c_t_acts := c_t_acts) (c_t_next := c_t_next) (c_t_scriptSize := c_t_scriptSize) (c_t_spot := c_t_spot) (c_t_readHigh := c_t_readHigh) (c_t_readWide := c_t_readWide) (p0 := p0)  q1 h2) dX9_slack_3 gX9_slack_X9_isPoint rfl rfl rfl (by decide +kernel) ⟨Nat.le_of_ble_eq_true rfl, Nat.le_of_ble_eq_true rfl⟩ ⟨Nat.le_of_ble_eq_true rfl, Nat.le_of_ble_eq_true rfl⟩ (z_spl_of [0, 1] rfl rfl) rfl rfl rfl rfl (Nat.le_of_ble_eq_true rfl) rfl (fun rv w9 hq => ?_)
  obtain ⟨rfl, rfl⟩ := hq
  refine z_ws [(a_t_now, zI J 243 f_t_now), (a_t, .inr (8, [.int (zi c_t_refusal), .int (zi c_t_high), .int (zi c_t_wide), .ref a_t_now, .ref a_t_trial, .ref a_t_diary, .int (zi c_t_acts), .int (zi c_t_next), .ref a_t_kept, .ref a_t_isKept, .ref a_t_script, .int (zi c_t_scriptSize), .int (zi c_t_spot), .ref a_t_read, .int (zi c_t_readHigh), .int (zi c_t_readWide), .ref a_t_wanted, .ref a_t_level, .ref a_t_chosen, .ref a_t_best]))] rfl ?_
  have g3 := zkr_p hsh
  replace hsh := zkr_k hsh
  refine z_if_eq (pc' := 9) (tgt := 13) dX9_slack_6 (by decide) g3 rfl (fun q => ?_) (fun q => ?_)
  · replace hsh := zif_t q hsh
    refine z_iconst (pc' := 14) dX9_slack_13 rfl ?_
    obtain ⟨q4, h5, hsh⟩ := zbind hsh
    refine z_callV (pc' := 17) (C := RX9) (As := [.int (zi (1 : Int))]) (rest := []) (wr := [(a_t_now, zI J 243 f_t_now)]) 1 (zc_X9_refused l D J F (a_t := a_t) (a_t_now := a_t_now) (a_t_trial := a_t_trial) (a_t_diary := a_t_diary) (a_t_kept := a_t_kept) (a_t_isKept := a_t_isKept) (a_t_script := a_t_script) (a_t_read := a_t_read) (a_t_wanted := a_t_wanted) (a_t_level := a_t_level) (a_t_chosen := a_t_chosen) (a_t_best := a_t_best) (c_t_refusal := c_t_refusal) (c_t_high := c_t_high) (c_t_wide := c_t_wide) (c_t_acts := c_t_acts) (c_t_next := c_t_next) (c_t_scriptSize := c_t_scriptSize) (c_t_spot := c_t_spot) (c_t_readHigh := c_t_readHigh) (c_t_readWide := c_t_readWide) (p0 := (1 : Int))  q4 h5) dX9_slack_14 gX9_slack_X9_refused rfl rfl rfl (by decide +kernel) ⟨Nat.le_of_ble_eq_true rfl, Nat.le_of_ble_eq_true rfl⟩ ⟨Nat.le_of_ble_eq_true rfl, Nat.le_of_ble_eq_true rfl⟩ (z_spl_of [1, 0] rfl rfl) rfl rfl rfl rfl (Nat.le_of_ble_eq_true rfl) rfl (fun rv w9 hq => ?_)
    obtain ⟨rfl, rfl⟩ := hq
    refine z_ws [(a_t_now, zI J 243 f_t_now), (a_t, .inr (8, [.int (zi q4.2), .int (zi c_t_high), .int (zi c_t_wide), .ref a_t_now, .ref a_t_trial, .ref a_t_diary, .int (zi c_t_acts), .int (zi c_t_next), .ref a_t_kept, .ref a_t_isKept, .ref a_t_script, .int (zi c_t_scriptSize), .int (zi c_t_spot), .ref a_t_read, .int (zi c_t_readHigh), .int (zi c_t_readWide), .ref a_t_wanted, .ref a_t_level, .ref a_t_chosen, .ref a_t_best]))] rfl ?_
    have g6 := zkr_p hsh
    replace hsh := zkr_k hsh
    refine z_if_eq (pc' := 20) (tgt := 22) dX9_slack_17 (by decide) g6 rfl (fun q => ?_) (fun q => ?_)
    · replace hsh := zif_t q hsh
      refine z_aload_n (pc' := 23) 0 dX9_slack_22 rfl rfl rfl ?_
      refine z_aload_n (pc' := 24) 0 dX9_slack_23 rfl rfl rfl ?_
      refine z_getfield (pc' := 27) (C := RX9) (T := TX9) (N := 20) 1 3 dX9_slack_24 iX9_slack_X9 rfl rfl (by decide) mX9_slack_f16 rfl rfl ?_
      refine z_iconst (pc' := 28) dX9_slack_27 rfl ?_
      refine z_iload_n (pc' := 29) 1 dX9_slack_28 rfl rfl rfl ?_
      obtain ⟨q7, h8, hsh⟩ := zbind hsh
      refine z_callV (pc' := 32) (C := RX9) (As := [.ref a_t_now, .int (zi (0 : Int)), .int (zi p0)]) (rest := []) (wr := []) 3 (zc_X9_slackOf l D J F (a_t := a_t) (a_p0 := a_t_now) (a_t_now := a_t_now) (a_t_trial := a_t_trial) (a_t_diary := a_t_diary) (a_t_kept := a_t_kept) (a_t_isKept := a_t_isKept) (a_t_script := a_t_script) (a_t_read := a_t_read) (a_t_wanted := a_t_wanted) (a_t_level := a_t_level) (a_t_chosen := a_t_chosen) (a_t_best := a_t_best) (c_t_refusal := q4.2) (c_t_high := c_t_high) (c_t_wide := c_t_wide) (c_t_acts := c_t_acts) (c_t_next := c_t_next) (c_t_scriptSize := c_t_scriptSize) (c_t_spot := c_t_spot) (c_t_readHigh := c_t_readHigh) (c_t_readWide := c_t_readWide) (f_p0 := f_t_now) (n_p0 := 243) (p1 := (0 : Int)) (p2 := p0) (hn_p0 := (by decide)) q7 h8) dX9_slack_29 gX9_slack_X9_slackOf rfl rfl rfl (by decide +kernel) ⟨Nat.le_of_ble_eq_true rfl, Nat.le_of_ble_eq_true rfl⟩ ⟨Nat.le_of_ble_eq_true rfl, Nat.le_of_ble_eq_true rfl⟩ (z_spl_of [1, 0] rfl rfl) rfl rfl rfl rfl (Nat.le_of_ble_eq_true rfl) rfl (fun rv w9 hq => ?_)
      obtain ⟨rfl, rfl⟩ := hq
      refine z_ws [(a_t, .inr (8, [.int (zi q4.2), .int (zi c_t_high), .int (zi c_t_wide), .ref a_t_now, .ref a_t_trial, .ref a_t_diary, .int (zi c_t_acts), .int (zi c_t_next), .ref a_t_kept, .ref a_t_isKept, .ref a_t_script, .int (zi c_t_scriptSize), .int (zi c_t_spot), .ref a_t_read, .int (zi c_t_readHigh), .int (zi c_t_readWide), .ref a_t_wanted, .ref a_t_level, .ref a_t_chosen, .ref a_t_best])), (a_t_now, zI J 243 f_t_now)] rfl ?_
      cases hsh
      exact z_iret rfl dX9_slack_32 ⟨rfl, rfl⟩
    · replace hsh := zif_f q hsh
      refine z_iconst (pc' := 21) dX9_slack_20 rfl ?_
      refine z_perm [(a_t, .inr (8, [.int (zi q4.2), .int (zi c_t_high), .int (zi c_t_wide), .ref a_t_now, .ref a_t_trial, .ref a_t_diary, .int (zi c_t_acts), .int (zi c_t_next), .ref a_t_kept, .ref a_t_isKept, .ref a_t_script, .int (zi c_t_scriptSize), .int (zi c_t_spot), .ref a_t_read, .int (zi c_t_readHigh), .int (zi c_t_readWide), .ref a_t_wanted, .ref a_t_level, .ref a_t_chosen, .ref a_t_best])), (a_t_now, zI J 243 f_t_now)] [(0, .ref a_t), (1, .int (zi p0))] [1, 0] [0, 1] rfl rfl rfl ?_
      cases hsh
      exact z_iret rfl dX9_slack_21 ⟨rfl, rfl⟩
  · replace hsh := zif_f q hsh
    refine z_iconst (pc' := 10) dX9_slack_9 rfl ?_
    refine z_goto (tgt := 14) dX9_slack_10 (by decide) ?_
    obtain ⟨q9, h10, hsh⟩ := zbind hsh
    refine z_callV (pc' := 17) (C := RX9) (As := [.int (zi (0 : Int))]) (rest := []) (wr := [(a_t_now, zI J 243 f_t_now)]) 1 (zc_X9_refused l D J F (a_t := a_t) (a_t_now := a_t_now) (a_t_trial := a_t_trial) (a_t_diary := a_t_diary) (a_t_kept := a_t_kept) (a_t_isKept := a_t_isKept) (a_t_script := a_t_script) (a_t_read := a_t_read) (a_t_wanted := a_t_wanted) (a_t_level := a_t_level) (a_t_chosen := a_t_chosen) (a_t_best := a_t_best) (c_t_refusal := c_t_refusal) (c_t_high := c_t_high) (c_t_wide := c_t_wide) (c_t_acts := c_t_acts) (c_t_next := c_t_next) (c_t_scriptSize := c_t_scriptSize) (c_t_spot := c_t_spot) (c_t_readHigh := c_t_readHigh) (c_t_readWide := c_t_readWide) (p0 := (0 : Int))  q9 h10) dX9_slack_14 gX9_slack_X9_refused rfl rfl rfl (by decide +kernel) ⟨Nat.le_of_ble_eq_true rfl, Nat.le_of_ble_eq_true rfl⟩ ⟨Nat.le_of_ble_eq_true rfl, Nat.le_of_ble_eq_true rfl⟩ (z_spl_of [1, 0] rfl rfl) rfl rfl rfl rfl (Nat.le_of_ble_eq_true rfl) rfl (fun rv w9 hq => ?_)
    obtain ⟨rfl, rfl⟩ := hq
    refine z_ws [(a_t_now, zI J 243 f_t_now), (a_t, .inr (8, [.int (zi q9.2), .int (zi c_t_high), .int (zi c_t_wide), .ref a_t_now, .ref a_t_trial, .ref a_t_diary, .int (zi c_t_acts), .int (zi c_t_next), .ref a_t_kept, .ref a_t_isKept, .ref a_t_script, .int (zi c_t_scriptSize), .int (zi c_t_spot), .ref a_t_read, .int (zi c_t_readHigh), .int (zi c_t_readWide), .ref a_t_wanted, .ref a_t_level, .ref a_t_chosen, .ref a_t_best]))] rfl ?_
    have g11 := zkr_p hsh
    replace hsh := zkr_k hsh
    refine z_if_eq (pc' := 20) (tgt := 22) dX9_slack_17 (by decide) g11 rfl (fun q => ?_) (fun q => ?_)
    · replace hsh := zif_t q hsh
      refine z_aload_n (pc' := 23) 0 dX9_slack_22 rfl rfl rfl ?_
      refine z_aload_n (pc' := 24) 0 dX9_slack_23 rfl rfl rfl ?_
      refine z_getfield (pc' := 27) (C := RX9) (T := TX9) (N := 20) 1 3 dX9_slack_24 iX9_slack_X9 rfl rfl (by decide) mX9_slack_f16 rfl rfl ?_
      refine z_iconst (pc' := 28) dX9_slack_27 rfl ?_
      refine z_iload_n (pc' := 29) 1 dX9_slack_28 rfl rfl rfl ?_
      obtain ⟨q12, h13, hsh⟩ := zbind hsh
      refine z_callV (pc' := 32) (C := RX9) (As := [.ref a_t_now, .int (zi (0 : Int)), .int (zi p0)]) (rest := []) (wr := []) 3 (zc_X9_slackOf l D J F (a_t := a_t) (a_p0 := a_t_now) (a_t_now := a_t_now) (a_t_trial := a_t_trial) (a_t_diary := a_t_diary) (a_t_kept := a_t_kept) (a_t_isKept := a_t_isKept) (a_t_script := a_t_script) (a_t_read := a_t_read) (a_t_wanted := a_t_wanted) (a_t_level := a_t_level) (a_t_chosen := a_t_chosen) (a_t_best := a_t_best) (c_t_refusal := q9.2) (c_t_high := c_t_high) (c_t_wide := c_t_wide) (c_t_acts := c_t_acts) (c_t_next := c_t_next) (c_t_scriptSize := c_t_scriptSize) (c_t_spot := c_t_spot) (c_t_readHigh := c_t_readHigh) (c_t_readWide := c_t_readWide) (f_p0 := f_t_now) (n_p0 := 243) (p1 := (0 : Int)) (p2 := p0) (hn_p0 := (by decide)) q12 h13) dX9_slack_29 gX9_slack_X9_slackOf rfl rfl rfl (by decide +kernel) ⟨Nat.le_of_ble_eq_true rfl, Nat.le_of_ble_eq_true rfl⟩ ⟨Nat.le_of_ble_eq_true rfl, Nat.le_of_ble_eq_true rfl⟩ (z_spl_of [1, 0] rfl rfl) rfl rfl rfl rfl (Nat.le_of_ble_eq_true rfl) rfl (fun rv w9 hq => ?_)
      obtain ⟨rfl, rfl⟩ := hq
      refine z_ws [(a_t, .inr (8, [.int (zi q9.2), .int (zi c_t_high), .int (zi c_t_wide), .ref a_t_now, .ref a_t_trial, .ref a_t_diary, .int (zi c_t_acts), .int (zi c_t_next), .ref a_t_kept, .ref a_t_isKept, .ref a_t_script, .int (zi c_t_scriptSize), .int (zi c_t_spot), .ref a_t_read, .int (zi c_t_readHigh), .int (zi c_t_readWide), .ref a_t_wanted, .ref a_t_level, .ref a_t_chosen, .ref a_t_best])), (a_t_now, zI J 243 f_t_now)] rfl ?_
      cases hsh
      exact z_iret rfl dX9_slack_32 ⟨rfl, rfl⟩
    · replace hsh := zif_f q hsh
      refine z_iconst (pc' := 21) dX9_slack_20 rfl ?_
      refine z_perm [(a_t, .inr (8, [.int (zi q9.2), .int (zi c_t_high), .int (zi c_t_wide), .ref a_t_now, .ref a_t_trial, .ref a_t_diary, .int (zi c_t_acts), .int (zi c_t_next), .ref a_t_kept, .ref a_t_isKept, .ref a_t_script, .int (zi c_t_scriptSize), .int (zi c_t_spot), .ref a_t_read, .int (zi c_t_readHigh), .int (zi c_t_readWide), .ref a_t_wanted, .ref a_t_level, .ref a_t_chosen, .ref a_t_best])), (a_t_now, zI J 243 f_t_now)] [(0, .ref a_t), (1, .int (zi p0))] [1, 0] [0, 1] rfl rfl rfl ?_
      cases hsh
      exact z_iret rfl dX9_slack_21 ⟨rfl, rfl⟩
def sh_X9_nextByOrder (F : Nat) (c_t_high : Int) (c_t_wide : Int) (f_t_now : Nat → Int) : Option (Int × Int) := (sh_X9_nextOf F c_t_high c_t_wide f_t_now 243).bind (fun (q1 : Int) => some (q1, (0 : Int)))
theorem mX9_nextByOrder_f51 : Cond.fieldLink RX9 51 (TX9 0).1 (TX9 0).2.1 (TX9 0).2.2.1 ∈ wsX9_nextByOrder := List.mem_of_getElem? (i := 1) rfl
theorem iX9_nextByOrder_X9 : ∀ w ∈ wsX90, w ∈ wsX9_nextByOrder := fun _ h => (List.mem_cons_of_mem _ (List.mem_append_right _ h))
theorem mX9_nextByOrder_f16 : Cond.fieldLink RX9 16 (TX9 3).1 (TX9 3).2.1 (TX9 3).2.2.1 ∈ wsX9_nextByOrder := List.mem_of_getElem? (i := 2) rfl
set_option maxRecDepth 100000 in
set_option maxHeartbeats 4000000 in
theorem zc_X9_nextByOrder (l : Launch) (D : va_G) (J : Nat → ClassId) (F : Nat) (a_t : Nat) (a_t_now : Nat) (a_t_trial : Nat) (a_t_diary : Nat) (a_t_kept : Nat) (a_t_isKept : Nat) (a_t_script : Nat) (a_t_read : Nat) (a_t_wanted : Nat) (a_t_level : Nat) (a_t_chosen : Nat) (a_t_best : Nat) (c_t_refusal : Int) (c_t_high : Int) (c_t_wide : Int) (c_t_acts : Int) (c_t_next : Int) (c_t_scriptSize : Int) (c_t_spot : Int) (c_t_readHigh : Int) (c_t_readWide : Int) (f_t_now : Nat → Int) (res : Int × Int) (hsh : sh_X9_nextByOrder F c_t_high c_t_wide f_t_now = some res) : ZM l D J yX9_nextByOrder wsX9_nextByOrder ({ frames := 4, cells := 0, slots := 0, locals := 102 } : Room) 0 0 [.ref a_t] [(a_t, .inr (8, [.int (zi c_t_refusal), .int (zi c_t_high), .int (zi c_t_wide), .ref a_t_now, .ref a_t_trial, .ref a_t_diary, .int (zi c_t_acts), .int (zi c_t_next), .ref a_t_kept, .ref a_t_isKept, .ref a_t_script, .int (zi c_t_scriptSize), .int (zi c_t_spot), .ref a_t_read, .int (zi c_t_readHigh), .int (zi c_t_readWide), .ref a_t_wanted, .ref a_t_level, .ref a_t_chosen, .ref a_t_best])), (a_t_now, zI J 243 f_t_now)] (fun rv w9 => rv = some (.int (zi res.1)) ∧ w9 = [(a_t, .inr (8, [.int (zi res.2), .int (zi c_t_high), .int (zi c_t_wide), .ref a_t_now, .ref a_t_trial, .ref a_t_diary, .int (zi c_t_acts), .int (zi c_t_next), .ref a_t_kept, .ref a_t_isKept, .ref a_t_script, .int (zi c_t_scriptSize), .int (zi c_t_spot), .ref a_t_read, .int (zi c_t_readHigh), .int (zi c_t_readWide), .ref a_t_wanted, .ref a_t_level, .ref a_t_chosen, .ref a_t_best])), (a_t_now, zI J 243 f_t_now)]) := by
  refine z_ofZ (cc := cX9_nextByOrder) (maxL := 1) (ret := (some .int)) 0 0 (by decide) rfl (Nat.le_of_ble_eq_true rfl) [(0, .ref a_t)] rfl ?_
  intro p e s m args below meth c A
  unfold sh_X9_nextByOrder at hsh
  refine z_aload_n (pc' := 1) 0 dX9_nextByOrder_0 rfl rfl rfl ?_
  refine z_iconst (pc' := 2) dX9_nextByOrder_1 rfl ?_
  refine z_putfield (pc' := 5) (C := RX9) (T := TX9) (N := 20) (ty := .int) 0 0 [(a_t, .inr (8, [.int (zi (0 : Int)), .int (zi c_t_high), .int (zi c_t_wide), .ref a_t_now, .ref a_t_trial, .ref a_t_diary, .int (zi c_t_acts), .int (zi c_t_next), .ref a_t_kept, .ref a_t_isKept, .ref a_t_script, .int (zi c_t_scriptSize), .int (zi c_t_spot), .ref a_t_read, .int (zi c_t_readHigh), .int (zi c_t_readWide), .ref a_t_wanted, .ref a_t_level, .ref a_t_chosen, .ref a_t_best])), (a_t_now, zI J 243 f_t_now)] tyX9 tyX9_ok nmX9 dX9_nextByOrder_2 iX9_nextByOrder_X9 rfl rfl (by decide) mX9_nextByOrder_f51 rfl (by decide +kernel) rfl rfl (Nat.le_of_ble_eq_true rfl) rfl rfl rfl ?_
  refine z_aload_n (pc' := 6) 0 dX9_nextByOrder_5 rfl rfl rfl ?_
  refine z_aload_n (pc' := 7) 0 dX9_nextByOrder_6 rfl rfl rfl ?_
  refine z_getfield (pc' := 10) (C := RX9) (T := TX9) (N := 20) 0 3 dX9_nextByOrder_7 iX9_nextByOrder_X9 rfl rfl (by decide) mX9_nextByOrder_f16 rfl rfl ?_
  obtain ⟨q1, h2, hsh⟩ := zbind hsh
  refine z_callV (pc' := 13) (C := RX9) (As := [.ref a_t_now]) (rest := []) (wr := []) 1 (zc_X9_nextOf l D J F (a_t := a_t) (a_p0 := a_t_now) (a_t_now := a_t_now) (a_t_trial := a_t_trial) (a_t_diary := a_t_diary) (a_t_kept := a_t_kept) (a_t_isKept := a_t_isKept) (a_t_script := a_t_script) (a_t_read := a_t_read) (a_t_wanted := a_t_wanted) (a_t_level := a_t_level) (a_t_chosen := a_t_chosen) (a_t_best := a_t_best) (c_t_refusal := (0 : Int)) (c_t_high := c_t_high) (c_t_wide := c_t_wide) (c_t_acts := c_t_acts) (c_t_next := c_t_next) (c_t_scriptSize := c_t_scriptSize) (c_t_spot := c_t_spot) (c_t_readHigh := c_t_readHigh) (c_t_readWide := c_t_readWide) (f_p0 := f_t_now) (n_p0 := 243) (hn_p0 := (by decide)) q1 h2) dX9_nextByOrder_10 gX9_nextByOrder_X9_nextOf rfl rfl rfl (by decide +kernel) ⟨Nat.le_of_ble_eq_true rfl, Nat.le_of_ble_eq_true rfl⟩ ⟨Nat.le_of_ble_eq_true rfl, Nat.le_of_ble_eq_true rfl⟩ (z_spl_of [0, 1] rfl rfl) rfl rfl rfl rfl (Nat.le_of_ble_eq_true rfl) rfl (fun rv w9 hq => ?_)
  obtain ⟨rfl, rfl⟩ := hq
  refine z_ws [(a_t, .inr (8, [.int (zi (0 : Int)), .int (zi c_t_high), .int (zi c_t_wide), .ref a_t_now, .ref a_t_trial, .ref a_t_diary, .int (zi c_t_acts), .int (zi c_t_next), .ref a_t_kept, .ref a_t_isKept, .ref a_t_script, .int (zi c_t_scriptSize), .int (zi c_t_spot), .ref a_t_read, .int (zi c_t_readHigh), .int (zi c_t_readWide), .ref a_t_wanted, .ref a_t_level, .ref a_t_chosen, .ref a_t_best])), (a_t_now, zI J 243 f_t_now)] rfl ?_
  cases hsh
  exact z_iret rfl dX9_nextByOrder_13 ⟨rfl, rfl⟩
def sh_X9_orderAhead (F : Nat) (c_t_high : Int) (c_t_wide : Int) (f_t_now : Nat → Int) (f_t_trial : Nat → Int) (p0 : Int) : Option (Int × Int × (Nat → Int)) := zkr p0 ((sh_X9_in F p0 (0 : Int) (99 : Int)).bind (fun (q2 : Int) => zkr q2 (if q2 = (0 : Int) then (sh_X9_refused F (1 : Int)).bind (fun (q5 : Int × Int) => zkr q5.1 (if q5.1 = (0 : Int) then (sh_X9_copy F f_t_now f_t_trial 243 243 (0 : Int) (0 : Int)).bind (fun (q8 : (Nat → Int)) => (sh_X9_goByOrder F c_t_high c_t_wide q8 243 p0).bind (fun (q10 : Int × (Nat → Int)) => zkr q10.1 (if q10.1 = p0 then (sh_X9_nextOf F c_t_high c_t_wide q10.2 243).bind (fun (q13 : Int) => some (q13, q5.2, q10.2)) else some ((-9 : Int), q5.2, q10.2)))) else some ((0 : Int), q5.2, f_t_trial))) else (sh_X9_refused F (0 : Int)).bind (fun (q15 : Int × Int) => zkr q15.1 (if q15.1 = (0 : Int) then (sh_X9_copy F f_t_now f_t_trial 243 243 (0 : Int) (0 : Int)).bind (fun (q18 : (Nat → Int)) => (sh_X9_goByOrder F c_t_high c_t_wide q18 243 p0).bind (fun (q20 : Int × (Nat → Int)) => zkr q20.1 (if q20.1 = p0 then (sh_X9_nextOf F c_t_high c_t_wide q20.2 243).bind (fun (q23 : Int) => some (q23, q15.2, q20.2)) else some ((-9 : Int), q15.2, q20.2)))) else some ((0 : Int), q15.2, f_t_trial))))))
theorem mX9_orderAhead_k128 : Cond.constantLong RX9 128 (99) ∈ wsX9_orderAhead := List.mem_of_getElem? (i := 1) rfl
theorem mX9_orderAhead_f16 : Cond.fieldLink RX9 16 (TX9 3).1 (TX9 3).2.1 (TX9 3).2.2.1 ∈ wsX9_orderAhead := List.mem_of_getElem? (i := 2) rfl
theorem iX9_orderAhead_X9 : ∀ w ∈ wsX90, w ∈ wsX9_orderAhead := fun _ h => (List.mem_cons_of_mem _ (List.mem_append_right _ h))
theorem mX9_orderAhead_f20 : Cond.fieldLink RX9 20 (TX9 4).1 (TX9 4).2.1 (TX9 4).2.2.1 ∈ wsX9_orderAhead := List.mem_of_getElem? (i := 3) rfl
set_option maxRecDepth 100000 in
set_option maxHeartbeats 4000000 in
theorem zc_X9_orderAhead (l : Launch) (D : va_G) (J : Nat → ClassId) (F : Nat) (a_t : Nat) (a_t_now : Nat) (a_t_trial : Nat) (a_t_diary : Nat) (a_t_kept : Nat) (a_t_isKept : Nat) (a_t_script : Nat) (a_t_read : Nat) (a_t_wanted : Nat) (a_t_level : Nat) (a_t_chosen : Nat) (a_t_best : Nat) (c_t_refusal : Int) (c_t_high : Int) (c_t_wide : Int) (c_t_acts : Int) (c_t_next : Int) (c_t_scriptSize : Int) (c_t_spot : Int) (c_t_readHigh : Int) (c_t_readWide : Int) (f_t_now : Nat → Int) (f_t_trial : Nat → Int) (p0 : Int) (res : Int × Int × (Nat → Int)) (hsh : sh_X9_orderAhead F c_t_high c_t_wide f_t_now f_t_trial p0 = some res) : ZM l D J yX9_orderAhead wsX9_orderAhead ({ frames := 5, cells := 0, slots := 0, locals := 126 } : Room) 0 0 [.ref a_t, .int (zi p0)] [(a_t, .inr (8, [.int (zi c_t_refusal), .int (zi c_t_high), .int (zi c_t_wide), .ref a_t_now, .ref a_t_trial, .ref a_t_diary, .int (zi c_t_acts), .int (zi c_t_next), .ref a_t_kept, .ref a_t_isKept, .ref a_t_script, .int (zi c_t_scriptSize), .int (zi c_t_spot), .ref a_t_read, .int (zi c_t_readHigh), .int (zi c_t_readWide), .ref a_t_wanted, .ref a_t_level, .ref a_t_chosen, .ref a_t_best])), (a_t_now, zI J 243 f_t_now), (a_t_trial, zI J 243 f_t_trial)] (fun rv w9 => rv = some (.int (zi res.1)) ∧ w9 = [(a_t, .inr (8, [.int (zi res.2.1), .int (zi c_t_high), .int (zi c_t_wide), .ref a_t_now, .ref a_t_trial, .ref a_t_diary, .int (zi c_t_acts), .int (zi c_t_next), .ref a_t_kept, .ref a_t_isKept, .ref a_t_script, .int (zi c_t_scriptSize), .int (zi c_t_spot), .ref a_t_read, .int (zi c_t_readHigh), .int (zi c_t_readWide), .ref a_t_wanted, .ref a_t_level, .ref a_t_chosen, .ref a_t_best])), (a_t_now, zI J 243 f_t_now), (a_t_trial, zI J 243 res.2.2)]) := by
  refine z_ofZ (cc := cX9_orderAhead) (maxL := 2) (ret := (some .int)) 0 0 (by decide) rfl (Nat.le_of_ble_eq_true rfl) [(0, .ref a_t), (1, .int (zi p0))] rfl ?_
  intro p e s m args below meth c A
  unfold sh_X9_orderAhead at hsh
  refine z_aload_n (pc' := 1) 0 dX9_orderAhead_0 rfl rfl rfl ?_
  refine z_iload_n (pc' := 2) 1 dX9_orderAhead_1 rfl rfl rfl ?_
  have g1 := zkr_p hsh
  replace hsh := zkr_k hsh
  refine z_i2l (pc' := 3) dX9_orderAhead_2 g1 rfl ?_
  refine z_lconst (pc' := 4) 0 dX9_orderAhead_3 (by decide) rfl ?_
  refine z_ldc2 (pc' := 7) (99 : Int) dX9_orderAhead_4 mX9_orderAhead_k128 (by decide) rfl ?_
  obtain ⟨q2, h3, hsh⟩ := zbind hsh
  refine z_callS (pc' := 10) (As := [.long (zl p0), .long (zl (0 : Int)), .long (zl (99 : Int))]) (rest := [.ref a_t]) (wr := [(a_t, .inr (8, [.int (zi c_t_refusal), .int (zi c_t_high), .int (zi c_t_wide), .ref a_t_now, .ref a_t_trial, .ref a_t_diary, .int (zi c_t_acts), .int (zi c_t_next), .ref a_t_kept, .ref a_t_isKept, .ref a_t_script, .int (zi c_t_scriptSize), .int (zi c_t_spot), .ref a_t_read, .int (zi c_t_readHigh), .int (zi c_t_readWide), .ref a_t_wanted, .ref a_t_level, .ref a_t_chosen, .ref a_t_best])), (a_t_now, zI J 243 f_t_now), (a_t_trial, zI J 243 f_t_trial)]) 3 (zc_X9_in l D J F (p0 := p0) (p1 := (0 : Int)) (p2 := (99 : Int))  q2 h3) dX9_orderAhead_7 gX9_orderAhead_X9_in rfl rfl rfl (by decide +kernel) ⟨Nat.le_of_ble_eq_true rfl, Nat.le_of_ble_eq_true rfl⟩ ⟨Nat.le_of_ble_eq_true rfl, Nat.le_of_ble_eq_true rfl⟩ (z_spl_of [0, 1, 2] rfl rfl) rfl rfl (Nat.le_of_ble_eq_true rfl) rfl (fun rv w9 hq => ?_)
  obtain ⟨rfl, rfl⟩ := hq
  refine z_ws [(a_t, .inr (8, [.int (zi c_t_refusal), .int (zi c_t_high), .int (zi c_t_wide), .ref a_t_now, .ref a_t_trial, .ref a_t_diary, .int (zi c_t_acts), .int (zi c_t_next), .ref a_t_kept, .ref a_t_isKept, .ref a_t_script, .int (zi c_t_scriptSize), .int (zi c_t_spot), .ref a_t_read, .int (zi c_t_readHigh), .int (zi c_t_readWide), .ref a_t_wanted, .ref a_t_level, .ref a_t_chosen, .ref a_t_best])), (a_t_now, zI J 243 f_t_now), (a_t_trial, zI J 243 f_t_trial)] rfl ?_
  have g4 := zkr_p hsh
  replace hsh := zkr_k hsh
  refine z_if_eq (pc' := 13) (tgt := 17) dX9_orderAhead_10 (by decide) g4 rfl (fun q => ?_) (fun q => ?_)
  · replace hsh := zif_t q hsh
    refine z_iconst (pc' := 18) dX9_orderAhead_17 rfl ?_
    obtain ⟨q5, h6, hsh⟩ := zbind hsh
    refine z_callV (pc' := 21) (C := RX9) (As := [.int (zi (1 : Int))]) (rest := []) (wr := [(a_t_now, zI J 243 f_t_now), (a_t_trial, zI J 243 f_t_trial)]) 1 (zc_X9_refused l D J F (a_t := a_t) (a_t_now := a_t_now) (a_t_trial := a_t_trial) (a_t_diary := a_t_diary) (a_t_kept := a_t_kept) (a_t_isKept := a_t_isKept) (a_t_script := a_t_script) (a_t_read := a_t_read) (a_t_wanted := a_t_wanted) (a_t_level := a_t_level) (a_t_chosen := a_t_chosen) (a_t_best := a_t_best) (c_t_refusal := c_t_refusal) (c_t_high := c_t_high) (c_t_wide := c_t_wide) (c_t_acts := c_t_acts) (c_t_next := c_t_next) (c_t_scriptSize := c_t_scriptSize) (c_t_spot := c_t_spot) (c_t_readHigh := c_t_readHigh) (c_t_readWide := c_t_readWide) (p0 := (1 : Int))  q5 h6) dX9_orderAhead_18 gX9_orderAhead_X9_refused rfl rfl rfl (by decide +kernel) ⟨Nat.le_of_ble_eq_true rfl, Nat.le_of_ble_eq_true rfl⟩ ⟨Nat.le_of_ble_eq_true rfl, Nat.le_of_ble_eq_true rfl⟩ (z_spl_of [0, 1, 2] rfl rfl) rfl rfl rfl rfl (Nat.le_of_ble_eq_true rfl) rfl (fun rv w9 hq => ?_)
    obtain ⟨rfl, rfl⟩ := hq
    refine z_ws [(a_t_now, zI J 243 f_t_now), (a_t_trial, zI J 243 f_t_trial), (a_t, .inr (8, [.int (zi q5.2), .int (zi c_t_high), .int (zi c_t_wide), .ref a_t_now, .ref a_t_trial, .ref a_t_diary, .int (zi c_t_acts), .int (zi c_t_next), .ref a_t_kept, .ref a_t_isKept, .ref a_t_script, .int (zi c_t_scriptSize), .int (zi c_t_spot), .ref a_t_read, .int (zi c_t_readHigh), .int (zi c_t_readWide), .ref a_t_wanted, .ref a_t_level, .ref a_t_chosen, .ref a_t_best]))] rfl ?_
    have g7 := zkr_p hsh
    replace hsh := zkr_k hsh
    refine z_if_eq (pc' := 24) (tgt := 26) dX9_orderAhead_21 (by decide) g7 rfl (fun q => ?_) (fun q => ?_)
    · replace hsh := zif_t q hsh
      refine z_aload_n (pc' := 27) 0 dX9_orderAhead_26 rfl rfl rfl ?_
      refine z_getfield (pc' := 30) (C := RX9) (T := TX9) (N := 20) 2 3 dX9_orderAhead_27 iX9_orderAhead_X9 rfl rfl (by decide) mX9_orderAhead_f16 rfl rfl ?_
      refine z_iconst (pc' := 31) dX9_orderAhead_30 rfl ?_
      refine z_aload_n (pc' := 32) 0 dX9_orderAhead_31 rfl rfl rfl ?_
      refine z_getfield (pc' := 35) (C := RX9) (T := TX9) (N := 20) 2 4 dX9_orderAhead_32 iX9_orderAhead_X9 rfl rfl (by decide) mX9_orderAhead_f20 rfl rfl ?_
      refine z_iconst (pc' := 36) dX9_orderAhead_35 rfl ?_
      obtain ⟨q8, h9, hsh⟩ := zbind hsh
      refine z_callS (pc' := 39) (As := [.ref a_t_now, .int (zi (0 : Int)), .ref a_t_trial, .int (zi (0 : Int))]) (rest := []) (wr := [(a_t, .inr (8, [.int (zi q5.2), .int (zi c_t_high), .int (zi c_t_wide), .ref a_t_now, .ref a_t_trial, .ref a_t_diary, .int (zi c_t_acts), .int (zi c_t_next), .ref a_t_kept, .ref a_t_isKept, .ref a_t_script, .int (zi c_t_scriptSize), .int (zi c_t_spot), .ref a_t_read, .int (zi c_t_readHigh), .int (zi c_t_readWide), .ref a_t_wanted, .ref a_t_level, .ref a_t_chosen, .ref a_t_best]))]) 4 (zc_X9_copy l D J F (a_p0 := a_t_now) (a_p2 := a_t_trial) (f_p0 := f_t_now) (f_p2 := f_t_trial) (n_p0 := 243) (n_p2 := 243) (p1 := (0 : Int)) (p3 := (0 : Int)) (hn_p0 := (by decide)) (hn_p2 := (by decide)) q8 h9) dX9_orderAhead_36 gX9_orderAhead_X9_copy rfl rfl rfl (by decide +kernel) ⟨Nat.le_of_ble_eq_true rfl, Nat.le_of_ble_eq_true rfl⟩ ⟨Nat.le_of_ble_eq_true rfl, Nat.le_of_ble_eq_true rfl⟩ (z_spl_of [0, 1, 2] rfl rfl) rfl rfl (Nat.le_of_ble_eq_true rfl) rfl (fun rv w9 hq => ?_)
      obtain ⟨rfl, rfl⟩ := hq
      refine z_ws [(a_t, .inr (8, [.int (zi q5.2), .int (zi c_t_high), .int (zi c_t_wide), .ref a_t_now, .ref a_t_trial, .ref a_t_diary, .int (zi c_t_acts), .int (zi c_t_next), .ref a_t_kept, .ref a_t_isKept, .ref a_t_script, .int (zi c_t_scriptSize), .int (zi c_t_spot), .ref a_t_read, .int (zi c_t_readHigh), .int (zi c_t_readWide), .ref a_t_wanted, .ref a_t_level, .ref a_t_chosen, .ref a_t_best])), (a_t_now, zI J 243 f_t_now), (a_t_trial, zI J 243 q8)] rfl ?_
      refine z_aload_n (pc' := 40) 0 dX9_orderAhead_39 rfl rfl rfl ?_
      refine z_aload_n (pc' := 41) 0 dX9_orderAhead_40 rfl rfl rfl ?_
      refine z_getfield (pc' := 44) (C := RX9) (T := TX9) (N := 20) 0 4 dX9_orderAhead_41 iX9_orderAhead_X9 rfl rfl (by decide) mX9_orderAhead_f20 rfl rfl ?_
      refine z_iload_n (pc' := 45) 1 dX9_orderAhead_44 rfl rfl rfl ?_
      obtain ⟨q10, h11, hsh⟩ := zbind hsh
      refine z_callV (pc' := 48) (C := RX9) (As := [.ref a_t_trial, .int (zi p0)]) (rest := []) (wr := [(a_t_now, zI J 243 f_t_now)]) 2 (zc_X9_goByOrder l D J F (a_t := a_t) (a_p0 := a_t_trial) (a_t_now := a_t_now) (a_t_trial := a_t_trial) (a_t_diary := a_t_diary) (a_t_kept := a_t_kept) (a_t_isKept := a_t_isKept) (a_t_script := a_t_script) (a_t_read := a_t_read) (a_t_wanted := a_t_wanted) (a_t_level := a_t_level) (a_t_chosen := a_t_chosen) (a_t_best := a_t_best) (c_t_refusal := q5.2) (c_t_high := c_t_high) (c_t_wide := c_t_wide) (c_t_acts := c_t_acts) (c_t_next := c_t_next) (c_t_scriptSize := c_t_scriptSize) (c_t_spot := c_t_spot) (c_t_readHigh := c_t_readHigh) (c_t_readWide := c_t_readWide) (f_p0 := q8) (n_p0 := 243) (p1 := p0) (hn_p0 := (by decide)) q10 h11) dX9_orderAhead_45 gX9_orderAhead_X9_goByOrder rfl rfl rfl (by decide +kernel) ⟨Nat.le_of_ble_eq_true rfl, Nat.le_of_ble_eq_true rfl⟩ ⟨Nat.le_of_ble_eq_true rfl, Nat.le_of_ble_eq_true rfl⟩ (z_spl_of [0, 2, 1] rfl rfl) rfl rfl rfl rfl (Nat.le_of_ble_eq_true rfl) rfl (fun rv w9 hq => ?_)
      obtain ⟨rfl, rfl⟩ := hq
      refine z_ws [(a_t_now, zI J 243 f_t_now), (a_t, .inr (8, [.int (zi q5.2), .int (zi c_t_high), .int (zi c_t_wide), .ref a_t_now, .ref a_t_trial, .ref a_t_diary, .int (zi c_t_acts), .int (zi c_t_next), .ref a_t_kept, .ref a_t_isKept, .ref a_t_script, .int (zi c_t_scriptSize), .int (zi c_t_spot), .ref a_t_read, .int (zi c_t_readHigh), .int (zi c_t_readWide), .ref a_t_wanted, .ref a_t_level, .ref a_t_chosen, .ref a_t_best])), (a_t_trial, zI J 243 q10.2)] rfl ?_
      refine z_iload_n (pc' := 49) 1 dX9_orderAhead_48 rfl rfl rfl ?_
      have g12 := zkr_p hsh
      replace hsh := zkr_k hsh
      refine z_icmp_ne (pc' := 52) (tgt := 63) dX9_orderAhead_49 (by decide) g12 g1 rfl (fun q => ?_) (fun q => ?_)
      · replace hsh := zif_f q hsh
        refine z_bipush (pc' := 65) dX9_orderAhead_63 (by decide) rfl ?_
        refine z_perm [(a_t, .inr (8, [.int (zi q5.2), .int (zi c_t_high), .int (zi c_t_wide), .ref a_t_now, .ref a_t_trial, .ref a_t_diary, .int (zi c_t_acts), .int (zi c_t_next), .ref a_t_kept, .ref a_t_isKept, .ref a_t_script, .int (zi c_t_scriptSize), .int (zi c_t_spot), .ref a_t_read, .int (zi c_t_readHigh), .int (zi c_t_readWide), .ref a_t_wanted, .ref a_t_level, .ref a_t_chosen, .ref a_t_best])), (a_t_now, zI J 243 f_t_now), (a_t_trial, zI J 243 q10.2)] [(0, .ref a_t), (1, .int (zi p0))] [1, 0, 2] [0, 1] rfl rfl rfl ?_
        cases hsh
        exact z_iret rfl dX9_orderAhead_65 ⟨rfl, rfl⟩
      · replace hsh := zif_t q hsh
        refine z_aload_n (pc' := 53) 0 dX9_orderAhead_52 rfl rfl rfl ?_
        refine z_aload_n (pc' := 54) 0 dX9_orderAhead_53 rfl rfl rfl ?_
        refine z_getfield (pc' := 57) (C := RX9) (T := TX9) (N := 20) 1 4 dX9_orderAhead_54 iX9_orderAhead_X9 rfl rfl (by decide) mX9_orderAhead_f20 rfl rfl ?_
        obtain ⟨q13, h14, hsh⟩ := zbind hsh
        refine z_callV (pc' := 60) (C := RX9) (As := [.ref a_t_trial]) (rest := []) (wr := [(a_t_now, zI J 243 f_t_now)]) 1 (zc_X9_nextOf l D J F (a_t := a_t) (a_p0 := a_t_trial) (a_t_now := a_t_now) (a_t_trial := a_t_trial) (a_t_diary := a_t_diary) (a_t_kept := a_t_kept) (a_t_isKept := a_t_isKept) (a_t_script := a_t_script) (a_t_read := a_t_read) (a_t_wanted := a_t_wanted) (a_t_level := a_t_level) (a_t_chosen := a_t_chosen) (a_t_best := a_t_best) (c_t_refusal := q5.2) (c_t_high := c_t_high) (c_t_wide := c_t_wide) (c_t_acts := c_t_acts) (c_t_next := c_t_next) (c_t_scriptSize := c_t_scriptSize) (c_t_spot := c_t_spot) (c_t_readHigh := c_t_readHigh) (c_t_readWide := c_t_readWide) (f_p0 := q10.2) (n_p0 := 243) (hn_p0 := (by decide)) q13 h14) dX9_orderAhead_57 gX9_orderAhead_X9_nextOf rfl rfl rfl (by decide +kernel) ⟨Nat.le_of_ble_eq_true rfl, Nat.le_of_ble_eq_true rfl⟩ ⟨Nat.le_of_ble_eq_true rfl, Nat.le_of_ble_eq_true rfl⟩ (z_spl_of [1, 2, 0] rfl rfl) rfl rfl rfl rfl (Nat.le_of_ble_eq_true rfl) rfl (fun rv w9 hq => ?_)
        obtain ⟨rfl, rfl⟩ := hq
        refine z_ws [(a_t_now, zI J 243 f_t_now), (a_t, .inr (8, [.int (zi q5.2), .int (zi c_t_high), .int (zi c_t_wide), .ref a_t_now, .ref a_t_trial, .ref a_t_diary, .int (zi c_t_acts), .int (zi c_t_next), .ref a_t_kept, .ref a_t_isKept, .ref a_t_script, .int (zi c_t_scriptSize), .int (zi c_t_spot), .ref a_t_read, .int (zi c_t_readHigh), .int (zi c_t_readWide), .ref a_t_wanted, .ref a_t_level, .ref a_t_chosen, .ref a_t_best])), (a_t_trial, zI J 243 q10.2)] rfl ?_
        refine z_goto (tgt := 65) dX9_orderAhead_60 (by decide) ?_
        refine z_perm [(a_t, .inr (8, [.int (zi q5.2), .int (zi c_t_high), .int (zi c_t_wide), .ref a_t_now, .ref a_t_trial, .ref a_t_diary, .int (zi c_t_acts), .int (zi c_t_next), .ref a_t_kept, .ref a_t_isKept, .ref a_t_script, .int (zi c_t_scriptSize), .int (zi c_t_spot), .ref a_t_read, .int (zi c_t_readHigh), .int (zi c_t_readWide), .ref a_t_wanted, .ref a_t_level, .ref a_t_chosen, .ref a_t_best])), (a_t_now, zI J 243 f_t_now), (a_t_trial, zI J 243 q10.2)] [(0, .ref a_t), (1, .int (zi p0))] [1, 0, 2] [0, 1] rfl rfl rfl ?_
        cases hsh
        exact z_iret rfl dX9_orderAhead_65 ⟨rfl, rfl⟩
    · replace hsh := zif_f q hsh
      refine z_iconst (pc' := 25) dX9_orderAhead_24 rfl ?_
      refine z_perm [(a_t, .inr (8, [.int (zi q5.2), .int (zi c_t_high), .int (zi c_t_wide), .ref a_t_now, .ref a_t_trial, .ref a_t_diary, .int (zi c_t_acts), .int (zi c_t_next), .ref a_t_kept, .ref a_t_isKept, .ref a_t_script, .int (zi c_t_scriptSize), .int (zi c_t_spot), .ref a_t_read, .int (zi c_t_readHigh), .int (zi c_t_readWide), .ref a_t_wanted, .ref a_t_level, .ref a_t_chosen, .ref a_t_best])), (a_t_now, zI J 243 f_t_now), (a_t_trial, zI J 243 f_t_trial)] [(0, .ref a_t), (1, .int (zi p0))] [2, 0, 1] [0, 1] rfl rfl rfl ?_
      cases hsh
      exact z_iret rfl dX9_orderAhead_25 ⟨rfl, rfl⟩
  · replace hsh := zif_f q hsh
    refine z_iconst (pc' := 14) dX9_orderAhead_13 rfl ?_
    refine z_goto (tgt := 18) dX9_orderAhead_14 (by decide) ?_
    obtain ⟨q15, h16, hsh⟩ := zbind hsh
    refine z_callV (pc' := 21) (C := RX9) (As := [.int (zi (0 : Int))]) (rest := []) (wr := [(a_t_now, zI J 243 f_t_now), (a_t_trial, zI J 243 f_t_trial)]) 1 (zc_X9_refused l D J F (a_t := a_t) (a_t_now := a_t_now) (a_t_trial := a_t_trial) (a_t_diary := a_t_diary) (a_t_kept := a_t_kept) (a_t_isKept := a_t_isKept) (a_t_script := a_t_script) (a_t_read := a_t_read) (a_t_wanted := a_t_wanted) (a_t_level := a_t_level) (a_t_chosen := a_t_chosen) (a_t_best := a_t_best) (c_t_refusal := c_t_refusal) (c_t_high := c_t_high) (c_t_wide := c_t_wide) (c_t_acts := c_t_acts) (c_t_next := c_t_next) (c_t_scriptSize := c_t_scriptSize) (c_t_spot := c_t_spot) (c_t_readHigh := c_t_readHigh) (c_t_readWide := c_t_readWide) (p0 := (0 : Int))  q15 h16) dX9_orderAhead_18 gX9_orderAhead_X9_refused rfl rfl rfl (by decide +kernel) ⟨Nat.le_of_ble_eq_true rfl, Nat.le_of_ble_eq_true rfl⟩ ⟨Nat.le_of_ble_eq_true rfl, Nat.le_of_ble_eq_true rfl⟩ (z_spl_of [0, 1, 2] rfl rfl) rfl rfl rfl rfl (Nat.le_of_ble_eq_true rfl) rfl (fun rv w9 hq => ?_)
    obtain ⟨rfl, rfl⟩ := hq
    refine z_ws [(a_t_now, zI J 243 f_t_now), (a_t_trial, zI J 243 f_t_trial), (a_t, .inr (8, [.int (zi q15.2), .int (zi c_t_high), .int (zi c_t_wide), .ref a_t_now, .ref a_t_trial, .ref a_t_diary, .int (zi c_t_acts), .int (zi c_t_next), .ref a_t_kept, .ref a_t_isKept, .ref a_t_script, .int (zi c_t_scriptSize), .int (zi c_t_spot), .ref a_t_read, .int (zi c_t_readHigh), .int (zi c_t_readWide), .ref a_t_wanted, .ref a_t_level, .ref a_t_chosen, .ref a_t_best]))] rfl ?_
    have g17 := zkr_p hsh
    replace hsh := zkr_k hsh
    refine z_if_eq (pc' := 24) (tgt := 26) dX9_orderAhead_21 (by decide) g17 rfl (fun q => ?_) (fun q => ?_)
    · replace hsh := zif_t q hsh
      refine z_aload_n (pc' := 27) 0 dX9_orderAhead_26 rfl rfl rfl ?_
      refine z_getfield (pc' := 30) (C := RX9) (T := TX9) (N := 20) 2 3 dX9_orderAhead_27 iX9_orderAhead_X9 rfl rfl (by decide) mX9_orderAhead_f16 rfl rfl ?_
      refine z_iconst (pc' := 31) dX9_orderAhead_30 rfl ?_
      refine z_aload_n (pc' := 32) 0 dX9_orderAhead_31 rfl rfl rfl ?_
      refine z_getfield (pc' := 35) (C := RX9) (T := TX9) (N := 20) 2 4 dX9_orderAhead_32 iX9_orderAhead_X9 rfl rfl (by decide) mX9_orderAhead_f20 rfl rfl ?_
      refine z_iconst (pc' := 36) dX9_orderAhead_35 rfl ?_
      obtain ⟨q18, h19, hsh⟩ := zbind hsh
      refine z_callS (pc' := 39) (As := [.ref a_t_now, .int (zi (0 : Int)), .ref a_t_trial, .int (zi (0 : Int))]) (rest := []) (wr := [(a_t, .inr (8, [.int (zi q15.2), .int (zi c_t_high), .int (zi c_t_wide), .ref a_t_now, .ref a_t_trial, .ref a_t_diary, .int (zi c_t_acts), .int (zi c_t_next), .ref a_t_kept, .ref a_t_isKept, .ref a_t_script, .int (zi c_t_scriptSize), .int (zi c_t_spot), .ref a_t_read, .int (zi c_t_readHigh), .int (zi c_t_readWide), .ref a_t_wanted, .ref a_t_level, .ref a_t_chosen, .ref a_t_best]))]) 4 (zc_X9_copy l D J F (a_p0 := a_t_now) (a_p2 := a_t_trial) (f_p0 := f_t_now) (f_p2 := f_t_trial) (n_p0 := 243) (n_p2 := 243) (p1 := (0 : Int)) (p3 := (0 : Int)) (hn_p0 := (by decide)) (hn_p2 := (by decide)) q18 h19) dX9_orderAhead_36 gX9_orderAhead_X9_copy rfl rfl rfl (by decide +kernel) ⟨Nat.le_of_ble_eq_true rfl, Nat.le_of_ble_eq_true rfl⟩ ⟨Nat.le_of_ble_eq_true rfl, Nat.le_of_ble_eq_true rfl⟩ (z_spl_of [0, 1, 2] rfl rfl) rfl rfl (Nat.le_of_ble_eq_true rfl) rfl (fun rv w9 hq => ?_)
      obtain ⟨rfl, rfl⟩ := hq
      refine z_ws [(a_t, .inr (8, [.int (zi q15.2), .int (zi c_t_high), .int (zi c_t_wide), .ref a_t_now, .ref a_t_trial, .ref a_t_diary, .int (zi c_t_acts), .int (zi c_t_next), .ref a_t_kept, .ref a_t_isKept, .ref a_t_script, .int (zi c_t_scriptSize), .int (zi c_t_spot), .ref a_t_read, .int (zi c_t_readHigh), .int (zi c_t_readWide), .ref a_t_wanted, .ref a_t_level, .ref a_t_chosen, .ref a_t_best])), (a_t_now, zI J 243 f_t_now), (a_t_trial, zI J 243 q18)] rfl ?_
      refine z_aload_n (pc' := 40) 0 dX9_orderAhead_39 rfl rfl rfl ?_
      refine z_aload_n (pc' := 41) 0 dX9_orderAhead_40 rfl rfl rfl ?_
      refine z_getfield (pc' := 44) (C := RX9) (T := TX9) (N := 20) 0 4 dX9_orderAhead_41 iX9_orderAhead_X9 rfl rfl (by decide) mX9_orderAhead_f20 rfl rfl ?_
      refine z_iload_n (pc' := 45) 1 dX9_orderAhead_44 rfl rfl rfl ?_
      obtain ⟨q20, h21, hsh⟩ := zbind hsh
      refine z_callV (pc' := 48) (C := RX9) (As := [.ref a_t_trial, .int (zi p0)]) (rest := []) (wr := [(a_t_now, zI J 243 f_t_now)]) 2 (zc_X9_goByOrder l D J F (a_t := a_t) (a_p0 := a_t_trial) (a_t_now := a_t_now) (a_t_trial := a_t_trial) (a_t_diary := a_t_diary) (a_t_kept := a_t_kept) (a_t_isKept := a_t_isKept) (a_t_script := a_t_script) (a_t_read := a_t_read) (a_t_wanted := a_t_wanted) (a_t_level := a_t_level) (a_t_chosen := a_t_chosen) (a_t_best := a_t_best) (c_t_refusal := q15.2) (c_t_high := c_t_high) (c_t_wide := c_t_wide) (c_t_acts := c_t_acts) (c_t_next := c_t_next) (c_t_scriptSize := c_t_scriptSize) (c_t_spot := c_t_spot) (c_t_readHigh := c_t_readHigh) (c_t_readWide := c_t_readWide) (f_p0 := q18) (n_p0 := 243) (p1 := p0) (hn_p0 := (by decide)) q20 h21) dX9_orderAhead_45 gX9_orderAhead_X9_goByOrder rfl rfl rfl (by decide +kernel) ⟨Nat.le_of_ble_eq_true rfl, Nat.le_of_ble_eq_true rfl⟩ ⟨Nat.le_of_ble_eq_true rfl, Nat.le_of_ble_eq_true rfl⟩ (z_spl_of [0, 2, 1] rfl rfl) rfl rfl rfl rfl (Nat.le_of_ble_eq_true rfl) rfl (fun rv w9 hq => ?_)
      obtain ⟨rfl, rfl⟩ := hq
      refine z_ws [(a_t_now, zI J 243 f_t_now), (a_t, .inr (8, [.int (zi q15.2), .int (zi c_t_high), .int (zi c_t_wide), .ref a_t_now, .ref a_t_trial, .ref a_t_diary, .int (zi c_t_acts), .int (zi c_t_next), .ref a_t_kept, .ref a_t_isKept, .ref a_t_script, .int (zi c_t_scriptSize), .int (zi c_t_spot), .ref a_t_read, .int (zi c_t_readHigh), .int (zi c_t_readWide), .ref a_t_wanted, .ref a_t_level, .ref a_t_chosen, .ref a_t_best])), (a_t_trial, zI J 243 q20.2)] rfl ?_
      refine z_iload_n (pc' := 49) 1 dX9_orderAhead_48 rfl rfl rfl ?_
      have g22 := zkr_p hsh
      replace hsh := zkr_k hsh
      refine z_icmp_ne (pc' := 52) (tgt := 63) dX9_orderAhead_49 (by decide) g22 g1 rfl (fun q => ?_) (fun q => ?_)
      · replace hsh := zif_f q hsh
        refine z_bipush (pc' := 65) dX9_orderAhead_63 (by decide) rfl ?_
        refine z_perm [(a_t, .inr (8, [.int (zi q15.2), .int (zi c_t_high), .int (zi c_t_wide), .ref a_t_now, .ref a_t_trial, .ref a_t_diary, .int (zi c_t_acts), .int (zi c_t_next), .ref a_t_kept, .ref a_t_isKept, .ref a_t_script, .int (zi c_t_scriptSize), .int (zi c_t_spot), .ref a_t_read, .int (zi c_t_readHigh), .int (zi c_t_readWide), .ref a_t_wanted, .ref a_t_level, .ref a_t_chosen, .ref a_t_best])), (a_t_now, zI J 243 f_t_now), (a_t_trial, zI J 243 q20.2)] [(0, .ref a_t), (1, .int (zi p0))] [1, 0, 2] [0, 1] rfl rfl rfl ?_
        cases hsh
        exact z_iret rfl dX9_orderAhead_65 ⟨rfl, rfl⟩
      · replace hsh := zif_t q hsh
        refine z_aload_n (pc' := 53) 0 dX9_orderAhead_52 rfl rfl rfl ?_
        refine z_aload_n (pc' := 54) 0 dX9_orderAhead_53 rfl rfl rfl ?_
        refine z_getfield (pc' := 57) (C := RX9) (T := TX9) (N := 20) 1 4 dX9_orderAhead_54 iX9_orderAhead_X9 rfl rfl (by decide) mX9_orderAhead_f20 rfl rfl ?_
        obtain ⟨q23, h24, hsh⟩ := zbind hsh
        refine z_callV (pc' := 60) (C := RX9) (As := [.ref a_t_trial]) (rest := []) (wr := [(a_t_now, zI J 243 f_t_now)]) 1 (zc_X9_nextOf l D J F (a_t := a_t) (a_p0 := a_t_trial) (a_t_now := a_t_now) (a_t_trial := a_t_trial) (a_t_diary := a_t_diary) (a_t_kept := a_t_kept) (a_t_isKept := a_t_isKept) (a_t_script := a_t_script) (a_t_read := a_t_read) (a_t_wanted := a_t_wanted) (a_t_level := a_t_level) (a_t_chosen := a_t_chosen) (a_t_best := a_t_best) (c_t_refusal := q15.2) (c_t_high := c_t_high) (c_t_wide := c_t_wide) (c_t_acts := c_t_acts) (c_t_next := c_t_next) (c_t_scriptSize := c_t_scriptSize) (c_t_spot := c_t_spot) (c_t_readHigh := c_t_readHigh) (c_t_readWide := c_t_readWide) (f_p0 := q20.2) (n_p0 := 243) (hn_p0 := (by decide)) q23 h24) dX9_orderAhead_57 gX9_orderAhead_X9_nextOf rfl rfl rfl (by decide +kernel) ⟨Nat.le_of_ble_eq_true rfl, Nat.le_of_ble_eq_true rfl⟩ ⟨Nat.le_of_ble_eq_true rfl, Nat.le_of_ble_eq_true rfl⟩ (z_spl_of [1, 2, 0] rfl rfl) rfl rfl rfl rfl (Nat.le_of_ble_eq_true rfl) rfl (fun rv w9 hq => ?_)
        obtain ⟨rfl, rfl⟩ := hq
        refine z_ws [(a_t_now, zI J 243 f_t_now), (a_t, .inr (8, [.int (zi q15.2), .int (zi c_t_high), .int (zi c_t_wide), .ref a_t_now, .ref a_t_trial, .ref a_t_diary, .int (zi c_t_acts), .int (zi c_t_next), .ref a_t_kept, .ref a_t_isKept, .ref a_t_script, .int (zi c_t_scriptSize), .int (zi c_t_spot), .ref a_t_read, .int (zi c_t_readHigh), .int (zi c_t_readWide), .ref a_t_wanted, .ref a_t_level, .ref a_t_chosen, .ref a_t_best])), (a_t_trial, zI J 243 q20.2)] rfl ?_
        refine z_goto (tgt := 65) dX9_orderAhead_60 (by decide) ?_
        refine z_perm [(a_t, .inr (8, [.int (zi q15.2), .int (zi c_t_high), .int (zi c_t_wide), .ref a_t_now, .ref a_t_trial, .ref a_t_diary, .int (zi c_t_acts), .int (zi c_t_next), .ref a_t_kept, .ref a_t_isKept, .ref a_t_script, .int (zi c_t_scriptSize), .int (zi c_t_spot), .ref a_t_read, .int (zi c_t_readHigh), .int (zi c_t_readWide), .ref a_t_wanted, .ref a_t_level, .ref a_t_chosen, .ref a_t_best])), (a_t_now, zI J 243 f_t_now), (a_t_trial, zI J 243 q20.2)] [(0, .ref a_t), (1, .int (zi p0))] [1, 0, 2] [0, 1] rfl rfl rfl ?_
        cases hsh
        exact z_iret rfl dX9_orderAhead_65 ⟨rfl, rfl⟩
    · replace hsh := zif_f q hsh
      refine z_iconst (pc' := 25) dX9_orderAhead_24 rfl ?_
      refine z_perm [(a_t, .inr (8, [.int (zi q15.2), .int (zi c_t_high), .int (zi c_t_wide), .ref a_t_now, .ref a_t_trial, .ref a_t_diary, .int (zi c_t_acts), .int (zi c_t_next), .ref a_t_kept, .ref a_t_isKept, .ref a_t_script, .int (zi c_t_scriptSize), .int (zi c_t_spot), .ref a_t_read, .int (zi c_t_readHigh), .int (zi c_t_readWide), .ref a_t_wanted, .ref a_t_level, .ref a_t_chosen, .ref a_t_best])), (a_t_now, zI J 243 f_t_now), (a_t_trial, zI J 243 f_t_trial)] [(0, .ref a_t), (1, .int (zi p0))] [2, 0, 1] [0, 1] rfl rfl rfl ?_
      cases hsh
      exact z_iret rfl dX9_orderAhead_25 ⟨rfl, rfl⟩
def sh_X9_bucketsToWaste_L51 (F : Nat) (p0 : Int) (p1 : Int) (f_t_now : Nat → Int) (q8 : Int × Int) (q11 : Int) (k : Int → Option (Int × Int)) : Nat → Int → Option (Int × Int)
  | 0, _ => none
  | N + 1, v14 => zkr v14 (zkr q11 (if v14 < q11 then (sh_X9_gradeOf F f_t_now 243 (0 : Int) p0 v14).bind (fun (q17 : Int) => zkr q17 (zkr p1 (if q17 < p1 then some (v14, q8.2) else sh_X9_bucketsToWaste_L51 F p0 p1 f_t_now q8 q11 k N (v14 + (1 : Int))))) else k v14))
def sh_X9_bucketsToWaste_L51_2 (F : Nat) (p0 : Int) (p1 : Int) (f_t_now : Nat → Int) (q22 : Int × Int) (q25 : Int) (k : Int → Option (Int × Int)) : Nat → Int → Option (Int × Int)
  | 0, _ => none
  | N + 1, v28 => zkr v28 (zkr q25 (if v28 < q25 then (sh_X9_gradeOf F f_t_now 243 (0 : Int) p0 v28).bind (fun (q31 : Int) => zkr q31 (zkr p1 (if q31 < p1 then some (v28, q22.2) else sh_X9_bucketsToWaste_L51_2 F p0 p1 f_t_now q22 q25 k N (v28 + (1 : Int))))) else k v28))
def sh_X9_bucketsToWaste_L51_3 (F : Nat) (p0 : Int) (p1 : Int) (f_t_now : Nat → Int) (q36 : Int × Int) (q39 : Int) (k : Int → Option (Int × Int)) : Nat → Int → Option (Int × Int)
  | 0, _ => none
  | N + 1, v42 => zkr v42 (zkr q39 (if v42 < q39 then (sh_X9_gradeOf F f_t_now 243 (0 : Int) p0 v42).bind (fun (q45 : Int) => zkr q45 (zkr p1 (if q45 < p1 then some (v42, q36.2) else sh_X9_bucketsToWaste_L51_3 F p0 p1 f_t_now q36 q39 k N (v42 + (1 : Int))))) else k v42))
def sh_X9_bucketsToWaste (F : Nat) (c_t_high : Int) (c_t_wide : Int) (f_t_now : Nat → Int) (p0 : Int) (p1 : Int) : Option (Int × Int) := (sh_X9_isPoint F c_t_high c_t_wide p0).bind (fun (q1 : Int) => zkr q1 (if q1 = (0 : Int) then (sh_X9_refused F (1 : Int)).bind (fun (q36 : Int × Int) => zkr q36.1 (if q36.1 = (0 : Int) then (sh_X9_remainingOf F f_t_now 243 (0 : Int) p0).bind (fun (q39 : Int) => sh_X9_bucketsToWaste_L51_3 F p0 p1 f_t_now q36 q39 (fun (v49 : Int) => some ((-9 : Int), q36.2)) F (0 : Int)) else some ((0 : Int), q36.2))) else zkr p1 ((sh_X9_in F p1 (1 : Int) (9 : Int)).bind (fun (q5 : Int) => zkr q5 (if q5 = (0 : Int) then (sh_X9_refused F (2 : Int)).bind (fun (q22 : Int × Int) => zkr q22.1 (if q22.1 = (0 : Int) then (sh_X9_remainingOf F f_t_now 243 (0 : Int) p0).bind (fun (q25 : Int) => sh_X9_bucketsToWaste_L51_2 F p0 p1 f_t_now q22 q25 (fun (v35 : Int) => some ((-9 : Int), q22.2)) F (0 : Int)) else some ((0 : Int), q22.2))) else (sh_X9_refused F (0 : Int)).bind (fun (q8 : Int × Int) => zkr q8.1 (if q8.1 = (0 : Int) then (sh_X9_remainingOf F f_t_now 243 (0 : Int) p0).bind (fun (q11 : Int) => sh_X9_bucketsToWaste_L51 F p0 p1 f_t_now q8 q11 (fun (v21 : Int) => some ((-9 : Int), q8.2)) F (0 : Int)) else some ((0 : Int), q8.2))))))))
theorem mX9_bucketsToWaste_k151 : Cond.constantLong RX9 151 (9) ∈ wsX9_bucketsToWaste := List.mem_of_getElem? (i := 1) rfl
theorem mX9_bucketsToWaste_f16 : Cond.fieldLink RX9 16 (TX9 3).1 (TX9 3).2.1 (TX9 3).2.2.1 ∈ wsX9_bucketsToWaste := List.mem_of_getElem? (i := 2) rfl
theorem iX9_bucketsToWaste_X9 : ∀ w ∈ wsX90, w ∈ wsX9_bucketsToWaste := fun _ h => (List.mem_cons_of_mem _ (List.mem_append_right _ h))
set_option maxRecDepth 100000 in
set_option maxHeartbeats 4000000 in
theorem zl_X9_bucketsToWaste_L51 {p : Program} {l : Launch} {e : Env} {s : State} {m : MethodId} {args : Array Value} {below : List Frame} {meth : Method} {c : Code} {A : Nat → Prop} {D : va_G} {J : Nat → ClassId} {F : Nat} {p0 : Int} {p1 : Int} {f_t_now : Nat → Int} {q8 : Int × Int} {q11 : Int} {a_t : Nat} {c_t_high : Int} {c_t_wide : Int} {a_t_now : Nat} {a_t_trial : Nat} {a_t_diary : Nat} {c_t_acts : Int} {c_t_next : Int} {a_t_kept : Nat} {a_t_isKept : Nat} {a_t_script : Nat} {c_t_scriptSize : Int} {c_t_spot : Int} {a_t_read : Nat} {c_t_readHigh : Int} {c_t_readWide : Int} {a_t_wanted : Nat} {a_t_level : Nat} {a_t_chosen : Nat} {a_t_best : Nat} {res : Int × Int} {k : Int → Option (Int × Int)} (hk : ∀ (v14' : Int), k v14' = some res → Z p l e ({ frames := 2, cells := 0, slots := 0, locals := 46 } : Room) s m args below meth c (MQ below (zQ D J A (fun rv w9 => rv = some (.int (zi res.1)) ∧ w9 = [(a_t, .inr (8, [.int (zi res.2), .int (zi c_t_high), .int (zi c_t_wide), .ref a_t_now, .ref a_t_trial, .ref a_t_diary, .int (zi c_t_acts), .int (zi c_t_next), .ref a_t_kept, .ref a_t_isKept, .ref a_t_script, .int (zi c_t_scriptSize), .int (zi c_t_spot), .ref a_t_read, .int (zi c_t_readHigh), .int (zi c_t_readWide), .ref a_t_wanted, .ref a_t_level, .ref a_t_chosen, .ref a_t_best])), (a_t_now, zI J 243 f_t_now)])) args s 0 0 A) cX9_bucketsToWaste 5 wsX9_bucketsToWaste RX9 D J A (some .int) (yX9_bucketsToWaste.name, []) 0 0 [(a_t, .inr (8, [.int (zi q8.2), .int (zi c_t_high), .int (zi c_t_wide), .ref a_t_now, .ref a_t_trial, .ref a_t_diary, .int (zi c_t_acts), .int (zi c_t_next), .ref a_t_kept, .ref a_t_isKept, .ref a_t_script, .int (zi c_t_scriptSize), .int (zi c_t_spot), .ref a_t_read, .int (zi c_t_readHigh), .int (zi c_t_readWide), .ref a_t_wanted, .ref a_t_level, .ref a_t_chosen, .ref a_t_best])), (a_t_now, zI J 243 f_t_now)] [] 81 []) : ∀ (N : Nat) (v14 : Int), sh_X9_bucketsToWaste_L51 F p0 p1 f_t_now q8 q11 k N v14 = some res → Z p l e ({ frames := 2, cells := 0, slots := 0, locals := 46 } : Room) s m args below meth c (MQ below (zQ D J A (fun rv w9 => rv = some (.int (zi res.1)) ∧ w9 = [(a_t, .inr (8, [.int (zi res.2), .int (zi c_t_high), .int (zi c_t_wide), .ref a_t_now, .ref a_t_trial, .ref a_t_diary, .int (zi c_t_acts), .int (zi c_t_next), .ref a_t_kept, .ref a_t_isKept, .ref a_t_script, .int (zi c_t_scriptSize), .int (zi c_t_spot), .ref a_t_read, .int (zi c_t_readHigh), .int (zi c_t_readWide), .ref a_t_wanted, .ref a_t_level, .ref a_t_chosen, .ref a_t_best])), (a_t_now, zI J 243 f_t_now)])) args s 0 0 A) cX9_bucketsToWaste 5 wsX9_bucketsToWaste RX9 D J A (some .int) (yX9_bucketsToWaste.name, []) 0 0 [(a_t, .inr (8, [.int (zi q8.2), .int (zi c_t_high), .int (zi c_t_wide), .ref a_t_now, .ref a_t_trial, .ref a_t_diary, .int (zi c_t_acts), .int (zi c_t_next), .ref a_t_kept, .ref a_t_isKept, .ref a_t_script, .int (zi c_t_scriptSize), .int (zi c_t_spot), .ref a_t_read, .int (zi c_t_readHigh), .int (zi c_t_readWide), .ref a_t_wanted, .ref a_t_level, .ref a_t_chosen, .ref a_t_best])), (a_t_now, zI J 243 f_t_now)] [(0, .ref a_t), (1, .int (zi p0)), (2, .int (zi p1)), (3, .int (zi q11)), (4, .int (zi v14))] 51 [] := by
  intro N
  induction N with
  | zero =>
    intro v14 hsh
    exact absurd hsh (by simp [sh_X9_bucketsToWaste_L51])
  | succ N ih =>
    intro v14 hsh
    rw [sh_X9_bucketsToWaste_L51] at hsh
    refine z_iload (pc' := 53) 4 dX9_bucketsToWaste_51 rfl rfl ?_
    refine z_iload_n (pc' := 54) 3 dX9_bucketsToWaste_53 rfl rfl rfl ?_
    have g15 := zkr_p hsh
    replace hsh := zkr_k hsh
    have g16 := zkr_p hsh
    replace hsh := zkr_k hsh
    refine z_icmp_ge (pc' := 57) (tgt := 81) dX9_bucketsToWaste_54 (by decide) g15 g16 rfl (fun q => ?_) (fun q => ?_)
    · replace hsh := zif_f q hsh
      refine z_perm [(a_t, .inr (8, [.int (zi q8.2), .int (zi c_t_high), .int (zi c_t_wide), .ref a_t_now, .ref a_t_trial, .ref a_t_diary, .int (zi c_t_acts), .int (zi c_t_next), .ref a_t_kept, .ref a_t_isKept, .ref a_t_script, .int (zi c_t_scriptSize), .int (zi c_t_spot), .ref a_t_read, .int (zi c_t_readHigh), .int (zi c_t_readWide), .ref a_t_wanted, .ref a_t_level, .ref a_t_chosen, .ref a_t_best])), (a_t_now, zI J 243 f_t_now)] [] [0, 1] [] rfl rfl rfl ?_
      exact hk _ hsh
    · replace hsh := zif_t q hsh
      refine z_aload_n (pc' := 58) 0 dX9_bucketsToWaste_57 rfl rfl rfl ?_
      refine z_getfield (pc' := 61) (C := RX9) (T := TX9) (N := 20) 0 3 dX9_bucketsToWaste_58 iX9_bucketsToWaste_X9 rfl rfl (by decide) mX9_bucketsToWaste_f16 rfl rfl ?_
      refine z_iconst (pc' := 62) dX9_bucketsToWaste_61 rfl ?_
      refine z_iload_n (pc' := 63) 1 dX9_bucketsToWaste_62 rfl rfl rfl ?_
      refine z_iload (pc' := 65) 4 dX9_bucketsToWaste_63 rfl rfl ?_
      obtain ⟨q17, h18, hsh⟩ := zbind hsh
      refine z_callS (pc' := 68) (As := [.ref a_t_now, .int (zi (0 : Int)), .int (zi p0), .int (zi v14)]) (rest := []) (wr := [(a_t, .inr (8, [.int (zi q8.2), .int (zi c_t_high), .int (zi c_t_wide), .ref a_t_now, .ref a_t_trial, .ref a_t_diary, .int (zi c_t_acts), .int (zi c_t_next), .ref a_t_kept, .ref a_t_isKept, .ref a_t_script, .int (zi c_t_scriptSize), .int (zi c_t_spot), .ref a_t_read, .int (zi c_t_readHigh), .int (zi c_t_readWide), .ref a_t_wanted, .ref a_t_level, .ref a_t_chosen, .ref a_t_best]))]) 4 (zc_X9_gradeOf l D J F (a_p0 := a_t_now) (f_p0 := f_t_now) (n_p0 := 243) (p1 := (0 : Int)) (p2 := p0) (p3 := v14) (hn_p0 := (by decide)) q17 h18) dX9_bucketsToWaste_65 gX9_bucketsToWaste_X9_gradeOf rfl rfl rfl (by decide +kernel) ⟨Nat.le_of_ble_eq_true rfl, Nat.le_of_ble_eq_true rfl⟩ ⟨Nat.le_of_ble_eq_true rfl, Nat.le_of_ble_eq_true rfl⟩ (z_spl_of [1, 0] rfl rfl) rfl rfl (Nat.le_of_ble_eq_true rfl) rfl (fun rv w9 hq => ?_)
      obtain ⟨rfl, rfl⟩ := hq
      refine z_ws [(a_t, .inr (8, [.int (zi q8.2), .int (zi c_t_high), .int (zi c_t_wide), .ref a_t_now, .ref a_t_trial, .ref a_t_diary, .int (zi c_t_acts), .int (zi c_t_next), .ref a_t_kept, .ref a_t_isKept, .ref a_t_script, .int (zi c_t_scriptSize), .int (zi c_t_spot), .ref a_t_read, .int (zi c_t_readHigh), .int (zi c_t_readWide), .ref a_t_wanted, .ref a_t_level, .ref a_t_chosen, .ref a_t_best])), (a_t_now, zI J 243 f_t_now)] rfl ?_
      refine z_iload_n (pc' := 69) 2 dX9_bucketsToWaste_68 rfl rfl rfl ?_
      have g19 := zkr_p hsh
      replace hsh := zkr_k hsh
      have g20 := zkr_p hsh
      replace hsh := zkr_k hsh
      refine z_icmp_ge (pc' := 72) (tgt := 75) dX9_bucketsToWaste_69 (by decide) g19 g20 rfl (fun q => ?_) (fun q => ?_)
      · replace hsh := zif_f q hsh
        refine z_iinc (pc' := 78) [(4, .int (zi (v14 + (1 : Int)))), (0, .ref a_t), (1, .int (zi p0)), (2, .int (zi p1)), (3, .int (zi q11))] 4 dX9_bucketsToWaste_75 rfl (by decide) rfl rfl ?_
        refine z_goto (tgt := 51) dX9_bucketsToWaste_78 (by decide) ?_
        refine z_perm [(a_t, .inr (8, [.int (zi q8.2), .int (zi c_t_high), .int (zi c_t_wide), .ref a_t_now, .ref a_t_trial, .ref a_t_diary, .int (zi c_t_acts), .int (zi c_t_next), .ref a_t_kept, .ref a_t_isKept, .ref a_t_script, .int (zi c_t_scriptSize), .int (zi c_t_spot), .ref a_t_read, .int (zi c_t_readHigh), .int (zi c_t_readWide), .ref a_t_wanted, .ref a_t_level, .ref a_t_chosen, .ref a_t_best])), (a_t_now, zI J 243 f_t_now)] [(0, .ref a_t), (1, .int (zi p0)), (2, .int (zi p1)), (3, .int (zi q11)), (4, .int (zi (v14 + (1 : Int))))] [0, 1] [1, 2, 3, 4, 0] rfl rfl rfl ?_
        exact ih _ hsh
      · replace hsh := zif_t q hsh
        refine z_iload (pc' := 74) 4 dX9_bucketsToWaste_72 rfl rfl ?_
        cases hsh
        exact z_iret rfl dX9_bucketsToWaste_74 ⟨rfl, rfl⟩
set_option maxRecDepth 100000 in
set_option maxHeartbeats 4000000 in
theorem zl_X9_bucketsToWaste_L51_2 {p : Program} {l : Launch} {e : Env} {s : State} {m : MethodId} {args : Array Value} {below : List Frame} {meth : Method} {c : Code} {A : Nat → Prop} {D : va_G} {J : Nat → ClassId} {F : Nat} {p0 : Int} {p1 : Int} {f_t_now : Nat → Int} {q22 : Int × Int} {q25 : Int} {a_t : Nat} {c_t_high : Int} {c_t_wide : Int} {a_t_now : Nat} {a_t_trial : Nat} {a_t_diary : Nat} {c_t_acts : Int} {c_t_next : Int} {a_t_kept : Nat} {a_t_isKept : Nat} {a_t_script : Nat} {c_t_scriptSize : Int} {c_t_spot : Int} {a_t_read : Nat} {c_t_readHigh : Int} {c_t_readWide : Int} {a_t_wanted : Nat} {a_t_level : Nat} {a_t_chosen : Nat} {a_t_best : Nat} {res : Int × Int} {k : Int → Option (Int × Int)} (hk : ∀ (v28' : Int), k v28' = some res → Z p l e ({ frames := 2, cells := 0, slots := 0, locals := 46 } : Room) s m args below meth c (MQ below (zQ D J A (fun rv w9 => rv = some (.int (zi res.1)) ∧ w9 = [(a_t, .inr (8, [.int (zi res.2), .int (zi c_t_high), .int (zi c_t_wide), .ref a_t_now, .ref a_t_trial, .ref a_t_diary, .int (zi c_t_acts), .int (zi c_t_next), .ref a_t_kept, .ref a_t_isKept, .ref a_t_script, .int (zi c_t_scriptSize), .int (zi c_t_spot), .ref a_t_read, .int (zi c_t_readHigh), .int (zi c_t_readWide), .ref a_t_wanted, .ref a_t_level, .ref a_t_chosen, .ref a_t_best])), (a_t_now, zI J 243 f_t_now)])) args s 0 0 A) cX9_bucketsToWaste 5 wsX9_bucketsToWaste RX9 D J A (some .int) (yX9_bucketsToWaste.name, []) 0 0 [(a_t, .inr (8, [.int (zi q22.2), .int (zi c_t_high), .int (zi c_t_wide), .ref a_t_now, .ref a_t_trial, .ref a_t_diary, .int (zi c_t_acts), .int (zi c_t_next), .ref a_t_kept, .ref a_t_isKept, .ref a_t_script, .int (zi c_t_scriptSize), .int (zi c_t_spot), .ref a_t_read, .int (zi c_t_readHigh), .int (zi c_t_readWide), .ref a_t_wanted, .ref a_t_level, .ref a_t_chosen, .ref a_t_best])), (a_t_now, zI J 243 f_t_now)] [] 81 []) : ∀ (N : Nat) (v28 : Int), sh_X9_bucketsToWaste_L51_2 F p0 p1 f_t_now q22 q25 k N v28 = some res → Z p l e ({ frames := 2, cells := 0, slots := 0, locals := 46 } : Room) s m args below meth c (MQ below (zQ D J A (fun rv w9 => rv = some (.int (zi res.1)) ∧ w9 = [(a_t, .inr (8, [.int (zi res.2), .int (zi c_t_high), .int (zi c_t_wide), .ref a_t_now, .ref a_t_trial, .ref a_t_diary, .int (zi c_t_acts), .int (zi c_t_next), .ref a_t_kept, .ref a_t_isKept, .ref a_t_script, .int (zi c_t_scriptSize), .int (zi c_t_spot), .ref a_t_read, .int (zi c_t_readHigh), .int (zi c_t_readWide), .ref a_t_wanted, .ref a_t_level, .ref a_t_chosen, .ref a_t_best])), (a_t_now, zI J 243 f_t_now)])) args s 0 0 A) cX9_bucketsToWaste 5 wsX9_bucketsToWaste RX9 D J A (some .int) (yX9_bucketsToWaste.name, []) 0 0 [(a_t, .inr (8, [.int (zi q22.2), .int (zi c_t_high), .int (zi c_t_wide), .ref a_t_now, .ref a_t_trial, .ref a_t_diary, .int (zi c_t_acts), .int (zi c_t_next), .ref a_t_kept, .ref a_t_isKept, .ref a_t_script, .int (zi c_t_scriptSize), .int (zi c_t_spot), .ref a_t_read, .int (zi c_t_readHigh), .int (zi c_t_readWide), .ref a_t_wanted, .ref a_t_level, .ref a_t_chosen, .ref a_t_best])), (a_t_now, zI J 243 f_t_now)] [(0, .ref a_t), (1, .int (zi p0)), (2, .int (zi p1)), (3, .int (zi q25)), (4, .int (zi v28))] 51 [] := by
  intro N
  induction N with
  | zero =>
    intro v28 hsh
    exact absurd hsh (by simp [sh_X9_bucketsToWaste_L51_2])
  | succ N ih =>
    intro v28 hsh
    rw [sh_X9_bucketsToWaste_L51_2] at hsh
    refine z_iload (pc' := 53) 4 dX9_bucketsToWaste_51 rfl rfl ?_
    refine z_iload_n (pc' := 54) 3 dX9_bucketsToWaste_53 rfl rfl rfl ?_
    have g29 := zkr_p hsh
    replace hsh := zkr_k hsh
    have g30 := zkr_p hsh
    replace hsh := zkr_k hsh
    refine z_icmp_ge (pc' := 57) (tgt := 81) dX9_bucketsToWaste_54 (by decide) g29 g30 rfl (fun q => ?_) (fun q => ?_)
    · replace hsh := zif_f q hsh
      refine z_perm [(a_t, .inr (8, [.int (zi q22.2), .int (zi c_t_high), .int (zi c_t_wide), .ref a_t_now, .ref a_t_trial, .ref a_t_diary, .int (zi c_t_acts), .int (zi c_t_next), .ref a_t_kept, .ref a_t_isKept, .ref a_t_script, .int (zi c_t_scriptSize), .int (zi c_t_spot), .ref a_t_read, .int (zi c_t_readHigh), .int (zi c_t_readWide), .ref a_t_wanted, .ref a_t_level, .ref a_t_chosen, .ref a_t_best])), (a_t_now, zI J 243 f_t_now)] [] [0, 1] [] rfl rfl rfl ?_
      exact hk _ hsh
    · replace hsh := zif_t q hsh
      refine z_aload_n (pc' := 58) 0 dX9_bucketsToWaste_57 rfl rfl rfl ?_
      refine z_getfield (pc' := 61) (C := RX9) (T := TX9) (N := 20) 0 3 dX9_bucketsToWaste_58 iX9_bucketsToWaste_X9 rfl rfl (by decide) mX9_bucketsToWaste_f16 rfl rfl ?_
      refine z_iconst (pc' := 62) dX9_bucketsToWaste_61 rfl ?_
      refine z_iload_n (pc' := 63) 1 dX9_bucketsToWaste_62 rfl rfl rfl ?_
      refine z_iload (pc' := 65) 4 dX9_bucketsToWaste_63 rfl rfl ?_
      obtain ⟨q31, h32, hsh⟩ := zbind hsh
      refine z_callS (pc' := 68) (As := [.ref a_t_now, .int (zi (0 : Int)), .int (zi p0), .int (zi v28)]) (rest := []) (wr := [(a_t, .inr (8, [.int (zi q22.2), .int (zi c_t_high), .int (zi c_t_wide), .ref a_t_now, .ref a_t_trial, .ref a_t_diary, .int (zi c_t_acts), .int (zi c_t_next), .ref a_t_kept, .ref a_t_isKept, .ref a_t_script, .int (zi c_t_scriptSize), .int (zi c_t_spot), .ref a_t_read, .int (zi c_t_readHigh), .int (zi c_t_readWide), .ref a_t_wanted, .ref a_t_level, .ref a_t_chosen, .ref a_t_best]))]) 4 (zc_X9_gradeOf l D J F (a_p0 := a_t_now) (f_p0 := f_t_now) (n_p0 := 243) (p1 := (0 : Int)) (p2 := p0) (p3 := v28) (hn_p0 := (by decide)) q31 h32) dX9_bucketsToWaste_65 gX9_bucketsToWaste_X9_gradeOf rfl rfl rfl (by decide +kernel) ⟨Nat.le_of_ble_eq_true rfl, Nat.le_of_ble_eq_true rfl⟩ ⟨Nat.le_of_ble_eq_true rfl, Nat.le_of_ble_eq_true rfl⟩ (z_spl_of [1, 0] rfl rfl) rfl rfl (Nat.le_of_ble_eq_true rfl) rfl (fun rv w9 hq => ?_)
      obtain ⟨rfl, rfl⟩ := hq
      refine z_ws [(a_t, .inr (8, [.int (zi q22.2), .int (zi c_t_high), .int (zi c_t_wide), .ref a_t_now, .ref a_t_trial, .ref a_t_diary, .int (zi c_t_acts), .int (zi c_t_next), .ref a_t_kept, .ref a_t_isKept, .ref a_t_script, .int (zi c_t_scriptSize), .int (zi c_t_spot), .ref a_t_read, .int (zi c_t_readHigh), .int (zi c_t_readWide), .ref a_t_wanted, .ref a_t_level, .ref a_t_chosen, .ref a_t_best])), (a_t_now, zI J 243 f_t_now)] rfl ?_
      refine z_iload_n (pc' := 69) 2 dX9_bucketsToWaste_68 rfl rfl rfl ?_
      have g33 := zkr_p hsh
      replace hsh := zkr_k hsh
      have g34 := zkr_p hsh
      replace hsh := zkr_k hsh
      refine z_icmp_ge (pc' := 72) (tgt := 75) dX9_bucketsToWaste_69 (by decide) g33 g34 rfl (fun q => ?_) (fun q => ?_)
      · replace hsh := zif_f q hsh
        refine z_iinc (pc' := 78) [(4, .int (zi (v28 + (1 : Int)))), (0, .ref a_t), (1, .int (zi p0)), (2, .int (zi p1)), (3, .int (zi q25))] 4 dX9_bucketsToWaste_75 rfl (by decide) rfl rfl ?_
        refine z_goto (tgt := 51) dX9_bucketsToWaste_78 (by decide) ?_
        refine z_perm [(a_t, .inr (8, [.int (zi q22.2), .int (zi c_t_high), .int (zi c_t_wide), .ref a_t_now, .ref a_t_trial, .ref a_t_diary, .int (zi c_t_acts), .int (zi c_t_next), .ref a_t_kept, .ref a_t_isKept, .ref a_t_script, .int (zi c_t_scriptSize), .int (zi c_t_spot), .ref a_t_read, .int (zi c_t_readHigh), .int (zi c_t_readWide), .ref a_t_wanted, .ref a_t_level, .ref a_t_chosen, .ref a_t_best])), (a_t_now, zI J 243 f_t_now)] [(0, .ref a_t), (1, .int (zi p0)), (2, .int (zi p1)), (3, .int (zi q25)), (4, .int (zi (v28 + (1 : Int))))] [0, 1] [1, 2, 3, 4, 0] rfl rfl rfl ?_
        exact ih _ hsh
      · replace hsh := zif_t q hsh
        refine z_iload (pc' := 74) 4 dX9_bucketsToWaste_72 rfl rfl ?_
        cases hsh
        exact z_iret rfl dX9_bucketsToWaste_74 ⟨rfl, rfl⟩
set_option maxRecDepth 100000 in
set_option maxHeartbeats 4000000 in
theorem zl_X9_bucketsToWaste_L51_3 {p : Program} {l : Launch} {e : Env} {s : State} {m : MethodId} {args : Array Value} {below : List Frame} {meth : Method} {c : Code} {A : Nat → Prop} {D : va_G} {J : Nat → ClassId} {F : Nat} {p0 : Int} {p1 : Int} {f_t_now : Nat → Int} {q36 : Int × Int} {q39 : Int} {a_t : Nat} {c_t_high : Int} {c_t_wide : Int} {a_t_now : Nat} {a_t_trial : Nat} {a_t_diary : Nat} {c_t_acts : Int} {c_t_next : Int} {a_t_kept : Nat} {a_t_isKept : Nat} {a_t_script : Nat} {c_t_scriptSize : Int} {c_t_spot : Int} {a_t_read : Nat} {c_t_readHigh : Int} {c_t_readWide : Int} {a_t_wanted : Nat} {a_t_level : Nat} {a_t_chosen : Nat} {a_t_best : Nat} {res : Int × Int} {k : Int → Option (Int × Int)} (hk : ∀ (v42' : Int), k v42' = some res → Z p l e ({ frames := 2, cells := 0, slots := 0, locals := 46 } : Room) s m args below meth c (MQ below (zQ D J A (fun rv w9 => rv = some (.int (zi res.1)) ∧ w9 = [(a_t, .inr (8, [.int (zi res.2), .int (zi c_t_high), .int (zi c_t_wide), .ref a_t_now, .ref a_t_trial, .ref a_t_diary, .int (zi c_t_acts), .int (zi c_t_next), .ref a_t_kept, .ref a_t_isKept, .ref a_t_script, .int (zi c_t_scriptSize), .int (zi c_t_spot), .ref a_t_read, .int (zi c_t_readHigh), .int (zi c_t_readWide), .ref a_t_wanted, .ref a_t_level, .ref a_t_chosen, .ref a_t_best])), (a_t_now, zI J 243 f_t_now)])) args s 0 0 A) cX9_bucketsToWaste 5 wsX9_bucketsToWaste RX9 D J A (some .int) (yX9_bucketsToWaste.name, []) 0 0 [(a_t, .inr (8, [.int (zi q36.2), .int (zi c_t_high), .int (zi c_t_wide), .ref a_t_now, .ref a_t_trial, .ref a_t_diary, .int (zi c_t_acts), .int (zi c_t_next), .ref a_t_kept, .ref a_t_isKept, .ref a_t_script, .int (zi c_t_scriptSize), .int (zi c_t_spot), .ref a_t_read, .int (zi c_t_readHigh), .int (zi c_t_readWide), .ref a_t_wanted, .ref a_t_level, .ref a_t_chosen, .ref a_t_best])), (a_t_now, zI J 243 f_t_now)] [] 81 []) : ∀ (N : Nat) (v42 : Int), sh_X9_bucketsToWaste_L51_3 F p0 p1 f_t_now q36 q39 k N v42 = some res → Z p l e ({ frames := 2, cells := 0, slots := 0, locals := 46 } : Room) s m args below meth c (MQ below (zQ D J A (fun rv w9 => rv = some (.int (zi res.1)) ∧ w9 = [(a_t, .inr (8, [.int (zi res.2), .int (zi c_t_high), .int (zi c_t_wide), .ref a_t_now, .ref a_t_trial, .ref a_t_diary, .int (zi c_t_acts), .int (zi c_t_next), .ref a_t_kept, .ref a_t_isKept, .ref a_t_script, .int (zi c_t_scriptSize), .int (zi c_t_spot), .ref a_t_read, .int (zi c_t_readHigh), .int (zi c_t_readWide), .ref a_t_wanted, .ref a_t_level, .ref a_t_chosen, .ref a_t_best])), (a_t_now, zI J 243 f_t_now)])) args s 0 0 A) cX9_bucketsToWaste 5 wsX9_bucketsToWaste RX9 D J A (some .int) (yX9_bucketsToWaste.name, []) 0 0 [(a_t, .inr (8, [.int (zi q36.2), .int (zi c_t_high), .int (zi c_t_wide), .ref a_t_now, .ref a_t_trial, .ref a_t_diary, .int (zi c_t_acts), .int (zi c_t_next), .ref a_t_kept, .ref a_t_isKept, .ref a_t_script, .int (zi c_t_scriptSize), .int (zi c_t_spot), .ref a_t_read, .int (zi c_t_readHigh), .int (zi c_t_readWide), .ref a_t_wanted, .ref a_t_level, .ref a_t_chosen, .ref a_t_best])), (a_t_now, zI J 243 f_t_now)] [(0, .ref a_t), (1, .int (zi p0)), (2, .int (zi p1)), (3, .int (zi q39)), (4, .int (zi v42))] 51 [] := by
  intro N
  induction N with
  | zero =>
    intro v42 hsh
    exact absurd hsh (by simp [sh_X9_bucketsToWaste_L51_3])
  | succ N ih =>
    intro v42 hsh
    rw [sh_X9_bucketsToWaste_L51_3] at hsh
    refine z_iload (pc' := 53) 4 dX9_bucketsToWaste_51 rfl rfl ?_
    refine z_iload_n (pc' := 54) 3 dX9_bucketsToWaste_53 rfl rfl rfl ?_
    have g43 := zkr_p hsh
    replace hsh := zkr_k hsh
    have g44 := zkr_p hsh
    replace hsh := zkr_k hsh
    refine z_icmp_ge (pc' := 57) (tgt := 81) dX9_bucketsToWaste_54 (by decide) g43 g44 rfl (fun q => ?_) (fun q => ?_)
    · replace hsh := zif_f q hsh
      refine z_perm [(a_t, .inr (8, [.int (zi q36.2), .int (zi c_t_high), .int (zi c_t_wide), .ref a_t_now, .ref a_t_trial, .ref a_t_diary, .int (zi c_t_acts), .int (zi c_t_next), .ref a_t_kept, .ref a_t_isKept, .ref a_t_script, .int (zi c_t_scriptSize), .int (zi c_t_spot), .ref a_t_read, .int (zi c_t_readHigh), .int (zi c_t_readWide), .ref a_t_wanted, .ref a_t_level, .ref a_t_chosen, .ref a_t_best])), (a_t_now, zI J 243 f_t_now)] [] [0, 1] [] rfl rfl rfl ?_
      exact hk _ hsh
    · replace hsh := zif_t q hsh
      refine z_aload_n (pc' := 58) 0 dX9_bucketsToWaste_57 rfl rfl rfl ?_
      refine z_getfield (pc' := 61) (C := RX9) (T := TX9) (N := 20) 0 3 dX9_bucketsToWaste_58 iX9_bucketsToWaste_X9 rfl rfl (by decide) mX9_bucketsToWaste_f16 rfl rfl ?_
      refine z_iconst (pc' := 62) dX9_bucketsToWaste_61 rfl ?_
      refine z_iload_n (pc' := 63) 1 dX9_bucketsToWaste_62 rfl rfl rfl ?_
      refine z_iload (pc' := 65) 4 dX9_bucketsToWaste_63 rfl rfl ?_
      obtain ⟨q45, h46, hsh⟩ := zbind hsh
      refine z_callS (pc' := 68) (As := [.ref a_t_now, .int (zi (0 : Int)), .int (zi p0), .int (zi v42)]) (rest := []) (wr := [(a_t, .inr (8, [.int (zi q36.2), .int (zi c_t_high), .int (zi c_t_wide), .ref a_t_now, .ref a_t_trial, .ref a_t_diary, .int (zi c_t_acts), .int (zi c_t_next), .ref a_t_kept, .ref a_t_isKept, .ref a_t_script, .int (zi c_t_scriptSize), .int (zi c_t_spot), .ref a_t_read, .int (zi c_t_readHigh), .int (zi c_t_readWide), .ref a_t_wanted, .ref a_t_level, .ref a_t_chosen, .ref a_t_best]))]) 4 (zc_X9_gradeOf l D J F (a_p0 := a_t_now) (f_p0 := f_t_now) (n_p0 := 243) (p1 := (0 : Int)) (p2 := p0) (p3 := v42) (hn_p0 := (by decide)) q45 h46) dX9_bucketsToWaste_65 gX9_bucketsToWaste_X9_gradeOf rfl rfl rfl (by decide +kernel) ⟨Nat.le_of_ble_eq_true rfl, Nat.le_of_ble_eq_true rfl⟩ ⟨Nat.le_of_ble_eq_true rfl, Nat.le_of_ble_eq_true rfl⟩ (z_spl_of [1, 0] rfl rfl) rfl rfl (Nat.le_of_ble_eq_true rfl) rfl (fun rv w9 hq => ?_)
      obtain ⟨rfl, rfl⟩ := hq
      refine z_ws [(a_t, .inr (8, [.int (zi q36.2), .int (zi c_t_high), .int (zi c_t_wide), .ref a_t_now, .ref a_t_trial, .ref a_t_diary, .int (zi c_t_acts), .int (zi c_t_next), .ref a_t_kept, .ref a_t_isKept, .ref a_t_script, .int (zi c_t_scriptSize), .int (zi c_t_spot), .ref a_t_read, .int (zi c_t_readHigh), .int (zi c_t_readWide), .ref a_t_wanted, .ref a_t_level, .ref a_t_chosen, .ref a_t_best])), (a_t_now, zI J 243 f_t_now)] rfl ?_
      refine z_iload_n (pc' := 69) 2 dX9_bucketsToWaste_68 rfl rfl rfl ?_
      have g47 := zkr_p hsh
      replace hsh := zkr_k hsh
      have g48 := zkr_p hsh
      replace hsh := zkr_k hsh
      refine z_icmp_ge (pc' := 72) (tgt := 75) dX9_bucketsToWaste_69 (by decide) g47 g48 rfl (fun q => ?_) (fun q => ?_)
      · replace hsh := zif_f q hsh
        refine z_iinc (pc' := 78) [(4, .int (zi (v42 + (1 : Int)))), (0, .ref a_t), (1, .int (zi p0)), (2, .int (zi p1)), (3, .int (zi q39))] 4 dX9_bucketsToWaste_75 rfl (by decide) rfl rfl ?_
        refine z_goto (tgt := 51) dX9_bucketsToWaste_78 (by decide) ?_
        refine z_perm [(a_t, .inr (8, [.int (zi q36.2), .int (zi c_t_high), .int (zi c_t_wide), .ref a_t_now, .ref a_t_trial, .ref a_t_diary, .int (zi c_t_acts), .int (zi c_t_next), .ref a_t_kept, .ref a_t_isKept, .ref a_t_script, .int (zi c_t_scriptSize), .int (zi c_t_spot), .ref a_t_read, .int (zi c_t_readHigh), .int (zi c_t_readWide), .ref a_t_wanted, .ref a_t_level, .ref a_t_chosen, .ref a_t_best])), (a_t_now, zI J 243 f_t_now)] [(0, .ref a_t), (1, .int (zi p0)), (2, .int (zi p1)), (3, .int (zi q39)), (4, .int (zi (v42 + (1 : Int))))] [0, 1] [1, 2, 3, 4, 0] rfl rfl rfl ?_
        exact ih _ hsh
      · replace hsh := zif_t q hsh
        refine z_iload (pc' := 74) 4 dX9_bucketsToWaste_72 rfl rfl ?_
        cases hsh
        exact z_iret rfl dX9_bucketsToWaste_74 ⟨rfl, rfl⟩
set_option maxRecDepth 100000 in
set_option maxHeartbeats 4000000 in
theorem zc_X9_bucketsToWaste (l : Launch) (D : va_G) (J : Nat → ClassId) (F : Nat) (a_t : Nat) (a_t_now : Nat) (a_t_trial : Nat) (a_t_diary : Nat) (a_t_kept : Nat) (a_t_isKept : Nat) (a_t_script : Nat) (a_t_read : Nat) (a_t_wanted : Nat) (a_t_level : Nat) (a_t_chosen : Nat) (a_t_best : Nat) (c_t_refusal : Int) (c_t_high : Int) (c_t_wide : Int) (c_t_acts : Int) (c_t_next : Int) (c_t_scriptSize : Int) (c_t_spot : Int) (c_t_readHigh : Int) (c_t_readWide : Int) (f_t_now : Nat → Int) (p0 : Int) (p1 : Int) (res : Int × Int) (hsh : sh_X9_bucketsToWaste F c_t_high c_t_wide f_t_now p0 p1 = some res) : ZM l D J yX9_bucketsToWaste wsX9_bucketsToWaste ({ frames := 2, cells := 0, slots := 0, locals := 46 } : Room) 0 0 [.ref a_t, .int (zi p0), .int (zi p1)] [(a_t, .inr (8, [.int (zi c_t_refusal), .int (zi c_t_high), .int (zi c_t_wide), .ref a_t_now, .ref a_t_trial, .ref a_t_diary, .int (zi c_t_acts), .int (zi c_t_next), .ref a_t_kept, .ref a_t_isKept, .ref a_t_script, .int (zi c_t_scriptSize), .int (zi c_t_spot), .ref a_t_read, .int (zi c_t_readHigh), .int (zi c_t_readWide), .ref a_t_wanted, .ref a_t_level, .ref a_t_chosen, .ref a_t_best])), (a_t_now, zI J 243 f_t_now)] (fun rv w9 => rv = some (.int (zi res.1)) ∧ w9 = [(a_t, .inr (8, [.int (zi res.2), .int (zi c_t_high), .int (zi c_t_wide), .ref a_t_now, .ref a_t_trial, .ref a_t_diary, .int (zi c_t_acts), .int (zi c_t_next), .ref a_t_kept, .ref a_t_isKept, .ref a_t_script, .int (zi c_t_scriptSize), .int (zi c_t_spot), .ref a_t_read, .int (zi c_t_readHigh), .int (zi c_t_readWide), .ref a_t_wanted, .ref a_t_level, .ref a_t_chosen, .ref a_t_best])), (a_t_now, zI J 243 f_t_now)]) := by
  refine z_ofZ (cc := cX9_bucketsToWaste) (maxL := 5) (ret := (some .int)) 0 0 (by decide) rfl (Nat.le_of_ble_eq_true rfl) [(0, .ref a_t), (1, .int (zi p0)), (2, .int (zi p1))] rfl ?_
  intro p e s m args below meth c A
  unfold sh_X9_bucketsToWaste at hsh
  refine z_aload_n (pc' := 1) 0 dX9_bucketsToWaste_0 rfl rfl rfl ?_
  refine z_aload_n (pc' := 2) 0 dX9_bucketsToWaste_1 rfl rfl rfl ?_
  refine z_iload_n (pc' := 3) 1 dX9_bucketsToWaste_2 rfl rfl rfl ?_
  obtain ⟨q1, h2, hsh⟩ := zbind hsh
  refine z_callV (pc' := 6) (C := RX9) (As := [.int (zi p0)]) (rest := [.ref a_t]) (wr := [(a_t_now, zI J 243 f_t_now)]) 1 (zc_X9_isPoint l D J F (a_t := a_t) (a_t_now := a_t_now) (a_t_trial := a_t_trial) (a_t_diary := a_t_diary) (a_t_kept := a_t_kept) (a_t_isKept := a_t_isKept) (a_t_script := a_t_script) (a_t_read := a_t_read) (a_t_wanted := a_t_wanted) (a_t_level := a_t_level) (a_t_chosen := a_t_chosen) (a_t_best := a_t_best) (c_t_refusal := c_t_refusal) (c_t_high := c_t_high) (c_t_wide := c_t_wide) (c_t_acts := c_t_acts) (c_t_next := c_t_next) (c_t_scriptSize := c_t_scriptSize) (c_t_spot := c_t_spot) (c_t_readHigh := c_t_readHigh) (c_t_readWide := c_t_readWide) (p0 := p0)  q1 h2) dX9_bucketsToWaste_3 gX9_bucketsToWaste_X9_isPoint rfl rfl rfl (by decide +kernel) ⟨Nat.le_of_ble_eq_true rfl, Nat.le_of_ble_eq_true rfl⟩ ⟨Nat.le_of_ble_eq_true rfl, Nat.le_of_ble_eq_true rfl⟩ (z_spl_of [0, 1] rfl rfl) rfl rfl rfl rfl (Nat.le_of_ble_eq_true rfl) rfl (fun rv w9 hq => ?_)
  obtain ⟨rfl, rfl⟩ := hq
  refine z_ws [(a_t_now, zI J 243 f_t_now), (a_t, .inr (8, [.int (zi c_t_refusal), .int (zi c_t_high), .int (zi c_t_wide), .ref a_t_now, .ref a_t_trial, .ref a_t_diary, .int (zi c_t_acts), .int (zi c_t_next), .ref a_t_kept, .ref a_t_isKept, .ref a_t_script, .int (zi c_t_scriptSize), .int (zi c_t_spot), .ref a_t_read, .int (zi c_t_readHigh), .int (zi c_t_readWide), .ref a_t_wanted, .ref a_t_level, .ref a_t_chosen, .ref a_t_best]))] rfl ?_
  have g3 := zkr_p hsh
  replace hsh := zkr_k hsh
  refine z_if_ne (pc' := 9) (tgt := 13) dX9_bucketsToWaste_6 (by decide) g3 rfl (fun q => ?_) (fun q => ?_)
  · replace hsh := zif_f q hsh
    refine z_iload_n (pc' := 14) 2 dX9_bucketsToWaste_13 rfl rfl rfl ?_
    have g4 := zkr_p hsh
    replace hsh := zkr_k hsh
    refine z_i2l (pc' := 15) dX9_bucketsToWaste_14 g4 rfl ?_
    refine z_lconst (pc' := 16) 1 dX9_bucketsToWaste_15 (by decide) rfl ?_
    refine z_ldc2 (pc' := 19) (9 : Int) dX9_bucketsToWaste_16 mX9_bucketsToWaste_k151 (by decide) rfl ?_
    obtain ⟨q5, h6, hsh⟩ := zbind hsh
    refine z_callS (pc' := 22) (As := [.long (zl p1), .long (zl (1 : Int)), .long (zl (9 : Int))]) (rest := [.ref a_t]) (wr := [(a_t_now, zI J 243 f_t_now), (a_t, .inr (8, [.int (zi c_t_refusal), .int (zi c_t_high), .int (zi c_t_wide), .ref a_t_now, .ref a_t_trial, .ref a_t_diary, .int (zi c_t_acts), .int (zi c_t_next), .ref a_t_kept, .ref a_t_isKept, .ref a_t_script, .int (zi c_t_scriptSize), .int (zi c_t_spot), .ref a_t_read, .int (zi c_t_readHigh), .int (zi c_t_readWide), .ref a_t_wanted, .ref a_t_level, .ref a_t_chosen, .ref a_t_best]))]) 3 (zc_X9_in l D J F (p0 := p1) (p1 := (1 : Int)) (p2 := (9 : Int))  q5 h6) dX9_bucketsToWaste_19 gX9_bucketsToWaste_X9_in rfl rfl rfl (by decide +kernel) ⟨Nat.le_of_ble_eq_true rfl, Nat.le_of_ble_eq_true rfl⟩ ⟨Nat.le_of_ble_eq_true rfl, Nat.le_of_ble_eq_true rfl⟩ (z_spl_of [0, 1] rfl rfl) rfl rfl (Nat.le_of_ble_eq_true rfl) rfl (fun rv w9 hq => ?_)
    obtain ⟨rfl, rfl⟩ := hq
    refine z_ws [(a_t_now, zI J 243 f_t_now), (a_t, .inr (8, [.int (zi c_t_refusal), .int (zi c_t_high), .int (zi c_t_wide), .ref a_t_now, .ref a_t_trial, .ref a_t_diary, .int (zi c_t_acts), .int (zi c_t_next), .ref a_t_kept, .ref a_t_isKept, .ref a_t_script, .int (zi c_t_scriptSize), .int (zi c_t_spot), .ref a_t_read, .int (zi c_t_readHigh), .int (zi c_t_readWide), .ref a_t_wanted, .ref a_t_level, .ref a_t_chosen, .ref a_t_best]))] rfl ?_
    have g7 := zkr_p hsh
    replace hsh := zkr_k hsh
    refine z_if_ne (pc' := 25) (tgt := 29) dX9_bucketsToWaste_22 (by decide) g7 rfl (fun q => ?_) (fun q => ?_)
    · replace hsh := zif_f q hsh
      refine z_iconst (pc' := 30) dX9_bucketsToWaste_29 rfl ?_
      obtain ⟨q8, h9, hsh⟩ := zbind hsh
      refine z_callV (pc' := 33) (C := RX9) (As := [.int (zi (0 : Int))]) (rest := []) (wr := [(a_t_now, zI J 243 f_t_now)]) 1 (zc_X9_refused l D J F (a_t := a_t) (a_t_now := a_t_now) (a_t_trial := a_t_trial) (a_t_diary := a_t_diary) (a_t_kept := a_t_kept) (a_t_isKept := a_t_isKept) (a_t_script := a_t_script) (a_t_read := a_t_read) (a_t_wanted := a_t_wanted) (a_t_level := a_t_level) (a_t_chosen := a_t_chosen) (a_t_best := a_t_best) (c_t_refusal := c_t_refusal) (c_t_high := c_t_high) (c_t_wide := c_t_wide) (c_t_acts := c_t_acts) (c_t_next := c_t_next) (c_t_scriptSize := c_t_scriptSize) (c_t_spot := c_t_spot) (c_t_readHigh := c_t_readHigh) (c_t_readWide := c_t_readWide) (p0 := (0 : Int))  q8 h9) dX9_bucketsToWaste_30 gX9_bucketsToWaste_X9_refused rfl rfl rfl (by decide +kernel) ⟨Nat.le_of_ble_eq_true rfl, Nat.le_of_ble_eq_true rfl⟩ ⟨Nat.le_of_ble_eq_true rfl, Nat.le_of_ble_eq_true rfl⟩ (z_spl_of [1, 0] rfl rfl) rfl rfl rfl rfl (Nat.le_of_ble_eq_true rfl) rfl (fun rv w9 hq => ?_)
      obtain ⟨rfl, rfl⟩ := hq
      refine z_ws [(a_t_now, zI J 243 f_t_now), (a_t, .inr (8, [.int (zi q8.2), .int (zi c_t_high), .int (zi c_t_wide), .ref a_t_now, .ref a_t_trial, .ref a_t_diary, .int (zi c_t_acts), .int (zi c_t_next), .ref a_t_kept, .ref a_t_isKept, .ref a_t_script, .int (zi c_t_scriptSize), .int (zi c_t_spot), .ref a_t_read, .int (zi c_t_readHigh), .int (zi c_t_readWide), .ref a_t_wanted, .ref a_t_level, .ref a_t_chosen, .ref a_t_best]))] rfl ?_
      have g10 := zkr_p hsh
      replace hsh := zkr_k hsh
      refine z_if_eq (pc' := 36) (tgt := 38) dX9_bucketsToWaste_33 (by decide) g10 rfl (fun q => ?_) (fun q => ?_)
      · replace hsh := zif_t q hsh
        refine z_aload_n (pc' := 39) 0 dX9_bucketsToWaste_38 rfl rfl rfl ?_
        refine z_getfield (pc' := 42) (C := RX9) (T := TX9) (N := 20) 1 3 dX9_bucketsToWaste_39 iX9_bucketsToWaste_X9 rfl rfl (by decide) mX9_bucketsToWaste_f16 rfl rfl ?_
        refine z_iconst (pc' := 43) dX9_bucketsToWaste_42 rfl ?_
        refine z_iload_n (pc' := 44) 1 dX9_bucketsToWaste_43 rfl rfl rfl ?_
        obtain ⟨q11, h12, hsh⟩ := zbind hsh
        refine z_callS (pc' := 47) (As := [.ref a_t_now, .int (zi (0 : Int)), .int (zi p0)]) (rest := []) (wr := [(a_t, .inr (8, [.int (zi q8.2), .int (zi c_t_high), .int (zi c_t_wide), .ref a_t_now, .ref a_t_trial, .ref a_t_diary, .int (zi c_t_acts), .int (zi c_t_next), .ref a_t_kept, .ref a_t_isKept, .ref a_t_script, .int (zi c_t_scriptSize), .int (zi c_t_spot), .ref a_t_read, .int (zi c_t_readHigh), .int (zi c_t_readWide), .ref a_t_wanted, .ref a_t_level, .ref a_t_chosen, .ref a_t_best]))]) 3 (zc_X9_remainingOf l D J F (a_p0 := a_t_now) (f_p0 := f_t_now) (n_p0 := 243) (p1 := (0 : Int)) (p2 := p0) (hn_p0 := (by decide)) q11 h12) dX9_bucketsToWaste_44 gX9_bucketsToWaste_X9_remainingOf rfl rfl rfl (by decide +kernel) ⟨Nat.le_of_ble_eq_true rfl, Nat.le_of_ble_eq_true rfl⟩ ⟨Nat.le_of_ble_eq_true rfl, Nat.le_of_ble_eq_true rfl⟩ (z_spl_of [0, 1] rfl rfl) rfl rfl (Nat.le_of_ble_eq_true rfl) rfl (fun rv w9 hq => ?_)
        obtain ⟨rfl, rfl⟩ := hq
        refine z_ws [(a_t, .inr (8, [.int (zi q8.2), .int (zi c_t_high), .int (zi c_t_wide), .ref a_t_now, .ref a_t_trial, .ref a_t_diary, .int (zi c_t_acts), .int (zi c_t_next), .ref a_t_kept, .ref a_t_isKept, .ref a_t_script, .int (zi c_t_scriptSize), .int (zi c_t_spot), .ref a_t_read, .int (zi c_t_readHigh), .int (zi c_t_readWide), .ref a_t_wanted, .ref a_t_level, .ref a_t_chosen, .ref a_t_best])), (a_t_now, zI J 243 f_t_now)] rfl ?_
        refine z_istore_n (pc' := 48) [(3, .int (zi q11)), (0, .ref a_t), (1, .int (zi p0)), (2, .int (zi p1))] dX9_bucketsToWaste_47 rfl (by decide) rfl rfl ?_
        refine z_iconst (pc' := 49) dX9_bucketsToWaste_48 rfl ?_
        refine z_istore (pc' := 51) [(4, .int (zi (0 : Int))), (3, .int (zi q11)), (0, .ref a_t), (1, .int (zi p0)), (2, .int (zi p1))] dX9_bucketsToWaste_49 (by decide) rfl rfl ?_
        refine z_perm [(a_t, .inr (8, [.int (zi q8.2), .int (zi c_t_high), .int (zi c_t_wide), .ref a_t_now, .ref a_t_trial, .ref a_t_diary, .int (zi c_t_acts), .int (zi c_t_next), .ref a_t_kept, .ref a_t_isKept, .ref a_t_script, .int (zi c_t_scriptSize), .int (zi c_t_spot), .ref a_t_read, .int (zi c_t_readHigh), .int (zi c_t_readWide), .ref a_t_wanted, .ref a_t_level, .ref a_t_chosen, .ref a_t_best])), (a_t_now, zI J 243 f_t_now)] [(0, .ref a_t), (1, .int (zi p0)), (2, .int (zi p1)), (3, .int (zi q11)), (4, .int (zi (0 : Int)))] [0, 1] [2, 3, 4, 1, 0] rfl rfl rfl ?_
        refine zl_X9_bucketsToWaste_L51 (F := F) (hk := fun v21 hsh => ?_) _ _ hsh
        refine z_bipush (pc' := 83) dX9_bucketsToWaste_81 (by decide) rfl ?_
        cases hsh
        exact z_iret rfl dX9_bucketsToWaste_83 ⟨rfl, rfl⟩
      · replace hsh := zif_f q hsh
        refine z_iconst (pc' := 37) dX9_bucketsToWaste_36 rfl ?_
        refine z_perm [(a_t, .inr (8, [.int (zi q8.2), .int (zi c_t_high), .int (zi c_t_wide), .ref a_t_now, .ref a_t_trial, .ref a_t_diary, .int (zi c_t_acts), .int (zi c_t_next), .ref a_t_kept, .ref a_t_isKept, .ref a_t_script, .int (zi c_t_scriptSize), .int (zi c_t_spot), .ref a_t_read, .int (zi c_t_readHigh), .int (zi c_t_readWide), .ref a_t_wanted, .ref a_t_level, .ref a_t_chosen, .ref a_t_best])), (a_t_now, zI J 243 f_t_now)] [(0, .ref a_t), (1, .int (zi p0)), (2, .int (zi p1))] [1, 0] [0, 1, 2] rfl rfl rfl ?_
        cases hsh
        exact z_iret rfl dX9_bucketsToWaste_37 ⟨rfl, rfl⟩
    · replace hsh := zif_t q hsh
      refine z_iconst (pc' := 26) dX9_bucketsToWaste_25 rfl ?_
      refine z_goto (tgt := 30) dX9_bucketsToWaste_26 (by decide) ?_
      obtain ⟨q22, h23, hsh⟩ := zbind hsh
      refine z_callV (pc' := 33) (C := RX9) (As := [.int (zi (2 : Int))]) (rest := []) (wr := [(a_t_now, zI J 243 f_t_now)]) 1 (zc_X9_refused l D J F (a_t := a_t) (a_t_now := a_t_now) (a_t_trial := a_t_trial) (a_t_diary := a_t_diary) (a_t_kept := a_t_kept) (a_t_isKept := a_t_isKept) (a_t_script := a_t_script) (a_t_read := a_t_read) (a_t_wanted := a_t_wanted) (a_t_level := a_t_level) (a_t_chosen := a_t_chosen) (a_t_best := a_t_best) (c_t_refusal := c_t_refusal) (c_t_high := c_t_high) (c_t_wide := c_t_wide) (c_t_acts := c_t_acts) (c_t_next := c_t_next) (c_t_scriptSize := c_t_scriptSize) (c_t_spot := c_t_spot) (c_t_readHigh := c_t_readHigh) (c_t_readWide := c_t_readWide) (p0 := (2 : Int))  q22 h23) dX9_bucketsToWaste_30 gX9_bucketsToWaste_X9_refused rfl rfl rfl (by decide +kernel) ⟨Nat.le_of_ble_eq_true rfl, Nat.le_of_ble_eq_true rfl⟩ ⟨Nat.le_of_ble_eq_true rfl, Nat.le_of_ble_eq_true rfl⟩ (z_spl_of [1, 0] rfl rfl) rfl rfl rfl rfl (Nat.le_of_ble_eq_true rfl) rfl (fun rv w9 hq => ?_)
      obtain ⟨rfl, rfl⟩ := hq
      refine z_ws [(a_t_now, zI J 243 f_t_now), (a_t, .inr (8, [.int (zi q22.2), .int (zi c_t_high), .int (zi c_t_wide), .ref a_t_now, .ref a_t_trial, .ref a_t_diary, .int (zi c_t_acts), .int (zi c_t_next), .ref a_t_kept, .ref a_t_isKept, .ref a_t_script, .int (zi c_t_scriptSize), .int (zi c_t_spot), .ref a_t_read, .int (zi c_t_readHigh), .int (zi c_t_readWide), .ref a_t_wanted, .ref a_t_level, .ref a_t_chosen, .ref a_t_best]))] rfl ?_
      have g24 := zkr_p hsh
      replace hsh := zkr_k hsh
      refine z_if_eq (pc' := 36) (tgt := 38) dX9_bucketsToWaste_33 (by decide) g24 rfl (fun q => ?_) (fun q => ?_)
      · replace hsh := zif_t q hsh
        refine z_aload_n (pc' := 39) 0 dX9_bucketsToWaste_38 rfl rfl rfl ?_
        refine z_getfield (pc' := 42) (C := RX9) (T := TX9) (N := 20) 1 3 dX9_bucketsToWaste_39 iX9_bucketsToWaste_X9 rfl rfl (by decide) mX9_bucketsToWaste_f16 rfl rfl ?_
        refine z_iconst (pc' := 43) dX9_bucketsToWaste_42 rfl ?_
        refine z_iload_n (pc' := 44) 1 dX9_bucketsToWaste_43 rfl rfl rfl ?_
        obtain ⟨q25, h26, hsh⟩ := zbind hsh
        refine z_callS (pc' := 47) (As := [.ref a_t_now, .int (zi (0 : Int)), .int (zi p0)]) (rest := []) (wr := [(a_t, .inr (8, [.int (zi q22.2), .int (zi c_t_high), .int (zi c_t_wide), .ref a_t_now, .ref a_t_trial, .ref a_t_diary, .int (zi c_t_acts), .int (zi c_t_next), .ref a_t_kept, .ref a_t_isKept, .ref a_t_script, .int (zi c_t_scriptSize), .int (zi c_t_spot), .ref a_t_read, .int (zi c_t_readHigh), .int (zi c_t_readWide), .ref a_t_wanted, .ref a_t_level, .ref a_t_chosen, .ref a_t_best]))]) 3 (zc_X9_remainingOf l D J F (a_p0 := a_t_now) (f_p0 := f_t_now) (n_p0 := 243) (p1 := (0 : Int)) (p2 := p0) (hn_p0 := (by decide)) q25 h26) dX9_bucketsToWaste_44 gX9_bucketsToWaste_X9_remainingOf rfl rfl rfl (by decide +kernel) ⟨Nat.le_of_ble_eq_true rfl, Nat.le_of_ble_eq_true rfl⟩ ⟨Nat.le_of_ble_eq_true rfl, Nat.le_of_ble_eq_true rfl⟩ (z_spl_of [0, 1] rfl rfl) rfl rfl (Nat.le_of_ble_eq_true rfl) rfl (fun rv w9 hq => ?_)
        obtain ⟨rfl, rfl⟩ := hq
        refine z_ws [(a_t, .inr (8, [.int (zi q22.2), .int (zi c_t_high), .int (zi c_t_wide), .ref a_t_now, .ref a_t_trial, .ref a_t_diary, .int (zi c_t_acts), .int (zi c_t_next), .ref a_t_kept, .ref a_t_isKept, .ref a_t_script, .int (zi c_t_scriptSize), .int (zi c_t_spot), .ref a_t_read, .int (zi c_t_readHigh), .int (zi c_t_readWide), .ref a_t_wanted, .ref a_t_level, .ref a_t_chosen, .ref a_t_best])), (a_t_now, zI J 243 f_t_now)] rfl ?_
        refine z_istore_n (pc' := 48) [(3, .int (zi q25)), (0, .ref a_t), (1, .int (zi p0)), (2, .int (zi p1))] dX9_bucketsToWaste_47 rfl (by decide) rfl rfl ?_
        refine z_iconst (pc' := 49) dX9_bucketsToWaste_48 rfl ?_
        refine z_istore (pc' := 51) [(4, .int (zi (0 : Int))), (3, .int (zi q25)), (0, .ref a_t), (1, .int (zi p0)), (2, .int (zi p1))] dX9_bucketsToWaste_49 (by decide) rfl rfl ?_
        refine z_perm [(a_t, .inr (8, [.int (zi q22.2), .int (zi c_t_high), .int (zi c_t_wide), .ref a_t_now, .ref a_t_trial, .ref a_t_diary, .int (zi c_t_acts), .int (zi c_t_next), .ref a_t_kept, .ref a_t_isKept, .ref a_t_script, .int (zi c_t_scriptSize), .int (zi c_t_spot), .ref a_t_read, .int (zi c_t_readHigh), .int (zi c_t_readWide), .ref a_t_wanted, .ref a_t_level, .ref a_t_chosen, .ref a_t_best])), (a_t_now, zI J 243 f_t_now)] [(0, .ref a_t), (1, .int (zi p0)), (2, .int (zi p1)), (3, .int (zi q25)), (4, .int (zi (0 : Int)))] [0, 1] [2, 3, 4, 1, 0] rfl rfl rfl ?_
        refine zl_X9_bucketsToWaste_L51_2 (F := F) (hk := fun v35 hsh => ?_) _ _ hsh
        refine z_bipush (pc' := 83) dX9_bucketsToWaste_81 (by decide) rfl ?_
        cases hsh
        exact z_iret rfl dX9_bucketsToWaste_83 ⟨rfl, rfl⟩
      · replace hsh := zif_f q hsh
        refine z_iconst (pc' := 37) dX9_bucketsToWaste_36 rfl ?_
        refine z_perm [(a_t, .inr (8, [.int (zi q22.2), .int (zi c_t_high), .int (zi c_t_wide), .ref a_t_now, .ref a_t_trial, .ref a_t_diary, .int (zi c_t_acts), .int (zi c_t_next), .ref a_t_kept, .ref a_t_isKept, .ref a_t_script, .int (zi c_t_scriptSize), .int (zi c_t_spot), .ref a_t_read, .int (zi c_t_readHigh), .int (zi c_t_readWide), .ref a_t_wanted, .ref a_t_level, .ref a_t_chosen, .ref a_t_best])), (a_t_now, zI J 243 f_t_now)] [(0, .ref a_t), (1, .int (zi p0)), (2, .int (zi p1))] [1, 0] [0, 1, 2] rfl rfl rfl ?_
        cases hsh
        exact z_iret rfl dX9_bucketsToWaste_37 ⟨rfl, rfl⟩
  · replace hsh := zif_t q hsh
    refine z_iconst (pc' := 10) dX9_bucketsToWaste_9 rfl ?_
    refine z_goto (tgt := 30) dX9_bucketsToWaste_10 (by decide) ?_
    obtain ⟨q36, h37, hsh⟩ := zbind hsh
    refine z_callV (pc' := 33) (C := RX9) (As := [.int (zi (1 : Int))]) (rest := []) (wr := [(a_t_now, zI J 243 f_t_now)]) 1 (zc_X9_refused l D J F (a_t := a_t) (a_t_now := a_t_now) (a_t_trial := a_t_trial) (a_t_diary := a_t_diary) (a_t_kept := a_t_kept) (a_t_isKept := a_t_isKept) (a_t_script := a_t_script) (a_t_read := a_t_read) (a_t_wanted := a_t_wanted) (a_t_level := a_t_level) (a_t_chosen := a_t_chosen) (a_t_best := a_t_best) (c_t_refusal := c_t_refusal) (c_t_high := c_t_high) (c_t_wide := c_t_wide) (c_t_acts := c_t_acts) (c_t_next := c_t_next) (c_t_scriptSize := c_t_scriptSize) (c_t_spot := c_t_spot) (c_t_readHigh := c_t_readHigh) (c_t_readWide := c_t_readWide) (p0 := (1 : Int))  q36 h37) dX9_bucketsToWaste_30 gX9_bucketsToWaste_X9_refused rfl rfl rfl (by decide +kernel) ⟨Nat.le_of_ble_eq_true rfl, Nat.le_of_ble_eq_true rfl⟩ ⟨Nat.le_of_ble_eq_true rfl, Nat.le_of_ble_eq_true rfl⟩ (z_spl_of [1, 0] rfl rfl) rfl rfl rfl rfl (Nat.le_of_ble_eq_true rfl) rfl (fun rv w9 hq => ?_)
    obtain ⟨rfl, rfl⟩ := hq
    refine z_ws [(a_t_now, zI J 243 f_t_now), (a_t, .inr (8, [.int (zi q36.2), .int (zi c_t_high), .int (zi c_t_wide), .ref a_t_now, .ref a_t_trial, .ref a_t_diary, .int (zi c_t_acts), .int (zi c_t_next), .ref a_t_kept, .ref a_t_isKept, .ref a_t_script, .int (zi c_t_scriptSize), .int (zi c_t_spot), .ref a_t_read, .int (zi c_t_readHigh), .int (zi c_t_readWide), .ref a_t_wanted, .ref a_t_level, .ref a_t_chosen, .ref a_t_best]))] rfl ?_
    have g38 := zkr_p hsh
    replace hsh := zkr_k hsh
    refine z_if_eq (pc' := 36) (tgt := 38) dX9_bucketsToWaste_33 (by decide) g38 rfl (fun q => ?_) (fun q => ?_)
    · replace hsh := zif_t q hsh
      refine z_aload_n (pc' := 39) 0 dX9_bucketsToWaste_38 rfl rfl rfl ?_
      refine z_getfield (pc' := 42) (C := RX9) (T := TX9) (N := 20) 1 3 dX9_bucketsToWaste_39 iX9_bucketsToWaste_X9 rfl rfl (by decide) mX9_bucketsToWaste_f16 rfl rfl ?_
      refine z_iconst (pc' := 43) dX9_bucketsToWaste_42 rfl ?_
      refine z_iload_n (pc' := 44) 1 dX9_bucketsToWaste_43 rfl rfl rfl ?_
      obtain ⟨q39, h40, hsh⟩ := zbind hsh
      refine z_callS (pc' := 47) (As := [.ref a_t_now, .int (zi (0 : Int)), .int (zi p0)]) (rest := []) (wr := [(a_t, .inr (8, [.int (zi q36.2), .int (zi c_t_high), .int (zi c_t_wide), .ref a_t_now, .ref a_t_trial, .ref a_t_diary, .int (zi c_t_acts), .int (zi c_t_next), .ref a_t_kept, .ref a_t_isKept, .ref a_t_script, .int (zi c_t_scriptSize), .int (zi c_t_spot), .ref a_t_read, .int (zi c_t_readHigh), .int (zi c_t_readWide), .ref a_t_wanted, .ref a_t_level, .ref a_t_chosen, .ref a_t_best]))]) 3 (zc_X9_remainingOf l D J F (a_p0 := a_t_now) (f_p0 := f_t_now) (n_p0 := 243) (p1 := (0 : Int)) (p2 := p0) (hn_p0 := (by decide)) q39 h40) dX9_bucketsToWaste_44 gX9_bucketsToWaste_X9_remainingOf rfl rfl rfl (by decide +kernel) ⟨Nat.le_of_ble_eq_true rfl, Nat.le_of_ble_eq_true rfl⟩ ⟨Nat.le_of_ble_eq_true rfl, Nat.le_of_ble_eq_true rfl⟩ (z_spl_of [0, 1] rfl rfl) rfl rfl (Nat.le_of_ble_eq_true rfl) rfl (fun rv w9 hq => ?_)
      obtain ⟨rfl, rfl⟩ := hq
      refine z_ws [(a_t, .inr (8, [.int (zi q36.2), .int (zi c_t_high), .int (zi c_t_wide), .ref a_t_now, .ref a_t_trial, .ref a_t_diary, .int (zi c_t_acts), .int (zi c_t_next), .ref a_t_kept, .ref a_t_isKept, .ref a_t_script, .int (zi c_t_scriptSize), .int (zi c_t_spot), .ref a_t_read, .int (zi c_t_readHigh), .int (zi c_t_readWide), .ref a_t_wanted, .ref a_t_level, .ref a_t_chosen, .ref a_t_best])), (a_t_now, zI J 243 f_t_now)] rfl ?_
      refine z_istore_n (pc' := 48) [(3, .int (zi q39)), (0, .ref a_t), (1, .int (zi p0)), (2, .int (zi p1))] dX9_bucketsToWaste_47 rfl (by decide) rfl rfl ?_
      refine z_iconst (pc' := 49) dX9_bucketsToWaste_48 rfl ?_
      refine z_istore (pc' := 51) [(4, .int (zi (0 : Int))), (3, .int (zi q39)), (0, .ref a_t), (1, .int (zi p0)), (2, .int (zi p1))] dX9_bucketsToWaste_49 (by decide) rfl rfl ?_
      refine z_perm [(a_t, .inr (8, [.int (zi q36.2), .int (zi c_t_high), .int (zi c_t_wide), .ref a_t_now, .ref a_t_trial, .ref a_t_diary, .int (zi c_t_acts), .int (zi c_t_next), .ref a_t_kept, .ref a_t_isKept, .ref a_t_script, .int (zi c_t_scriptSize), .int (zi c_t_spot), .ref a_t_read, .int (zi c_t_readHigh), .int (zi c_t_readWide), .ref a_t_wanted, .ref a_t_level, .ref a_t_chosen, .ref a_t_best])), (a_t_now, zI J 243 f_t_now)] [(0, .ref a_t), (1, .int (zi p0)), (2, .int (zi p1)), (3, .int (zi q39)), (4, .int (zi (0 : Int)))] [0, 1] [2, 3, 4, 1, 0] rfl rfl rfl ?_
      refine zl_X9_bucketsToWaste_L51_3 (F := F) (hk := fun v49 hsh => ?_) _ _ hsh
      refine z_bipush (pc' := 83) dX9_bucketsToWaste_81 (by decide) rfl ?_
      cases hsh
      exact z_iret rfl dX9_bucketsToWaste_83 ⟨rfl, rfl⟩
    · replace hsh := zif_f q hsh
      refine z_iconst (pc' := 37) dX9_bucketsToWaste_36 rfl ?_
      refine z_perm [(a_t, .inr (8, [.int (zi q36.2), .int (zi c_t_high), .int (zi c_t_wide), .ref a_t_now, .ref a_t_trial, .ref a_t_diary, .int (zi c_t_acts), .int (zi c_t_next), .ref a_t_kept, .ref a_t_isKept, .ref a_t_script, .int (zi c_t_scriptSize), .int (zi c_t_spot), .ref a_t_read, .int (zi c_t_readHigh), .int (zi c_t_readWide), .ref a_t_wanted, .ref a_t_level, .ref a_t_chosen, .ref a_t_best])), (a_t_now, zI J 243 f_t_now)] [(0, .ref a_t), (1, .int (zi p0)), (2, .int (zi p1))] [1, 0] [0, 1, 2] rfl rfl rfl ?_
      cases hsh
      exact z_iret rfl dX9_bucketsToWaste_37 ⟨rfl, rfl⟩
