def sh_X9_bestSequence (F : Nat) (c_t_high : Int) (c_t_wide : Int) (f_t_now : Nat → Int) (f_t_level : Nat → Int) (f_t_chosen : Nat → Int) (f_t_best : Nat → Int) (p0 : Int) (p1 : Int) : Option (Int × Int × (Nat → Int) × (Nat → Int) × (Nat → Int)) := zkr p0 ((sh_X9_in F p0 (1 : Int) (4 : Int)).bind (fun (q2 : Int) => zkr q2 (if q2 = (0 : Int) then (sh_X9_refused F (1 : Int)).bind (fun (q5 : Int × Int) => zkr q5.1 (if q5.1 = (0 : Int) then (sh_X9_findBest F c_t_high c_t_wide f_t_now f_t_level f_t_chosen f_t_best p0).bind (fun (q8 : (Nat → Int) × (Nat → Int) × (Nat → Int)) => zkr (q8.2.2 ((4 : Int)).toNat) (if (q8.2.2 ((4 : Int)).toNat) = (-9 : Int) then some ((-9 : Int), q5.2, q8.1, q8.2.1, q8.2.2) else zkr p1 (if p1 = p0 then some ((q8.2.2 ((4 : Int)).toNat), q5.2, q8.1, q8.2.1, q8.2.2) else zkx p1 5 (some ((q8.2.2 (p1).toNat), q5.2, q8.1, q8.2.1, q8.2.2))))) else some ((0 : Int), q5.2, f_t_level, f_t_chosen, f_t_best))) else zkr p1 ((sh_X9_in F p1 (0 : Int) p0).bind (fun (q14 : Int) => zkr q14 (if q14 = (0 : Int) then (sh_X9_refused F (1 : Int)).bind (fun (q17 : Int × Int) => zkr q17.1 (if q17.1 = (0 : Int) then (sh_X9_findBest F c_t_high c_t_wide f_t_now f_t_level f_t_chosen f_t_best p0).bind (fun (q20 : (Nat → Int) × (Nat → Int) × (Nat → Int)) => zkr (q20.2.2 ((4 : Int)).toNat) (if (q20.2.2 ((4 : Int)).toNat) = (-9 : Int) then some ((-9 : Int), q17.2, q20.1, q20.2.1, q20.2.2) else if p1 = p0 then some ((q20.2.2 ((4 : Int)).toNat), q17.2, q20.1, q20.2.1, q20.2.2) else zkx p1 5 (some ((q20.2.2 (p1).toNat), q17.2, q20.1, q20.2.1, q20.2.2)))) else some ((0 : Int), q17.2, f_t_level, f_t_chosen, f_t_best))) else (sh_X9_refused F (0 : Int)).bind (fun (q24 : Int × Int) => zkr q24.1 (if q24.1 = (0 : Int) then (sh_X9_findBest F c_t_high c_t_wide f_t_now f_t_level f_t_chosen f_t_best p0).bind (fun (q27 : (Nat → Int) × (Nat → Int) × (Nat → Int)) => zkr (q27.2.2 ((4 : Int)).toNat) (if (q27.2.2 ((4 : Int)).toNat) = (-9 : Int) then some ((-9 : Int), q24.2, q27.1, q27.2.1, q27.2.2) else if p1 = p0 then some ((q27.2.2 ((4 : Int)).toNat), q24.2, q27.1, q27.2.1, q27.2.2) else zkx p1 5 (some ((q27.2.2 (p1).toNat), q24.2, q27.1, q27.2.1, q27.2.2)))) else some ((0 : Int), q24.2, f_t_level, f_t_chosen, f_t_best)))))))))
theorem mX9_bestSequence_k165 : Cond.constantLong RX9 165 (4) ∈ wsX9_bestSequence := List.mem_of_getElem? (i := 1) rfl
theorem mX9_bestSequence_f48 : Cond.fieldLink RX9 48 (TX9 19).1 (TX9 19).2.1 (TX9 19).2.2.1 ∈ wsX9_bestSequence := List.mem_of_getElem? (i := 2) rfl
theorem iX9_bestSequence_X9 : ∀ w ∈ wsX90, w ∈ wsX9_bestSequence := fun _ h => (List.mem_cons_of_mem _ (List.mem_append_right _ h))
set_option maxRecDepth 100000 in
set_option maxHeartbeats 4000000 in
theorem zc_X9_bestSequence (l : Launch) (D : va_G) (J : Nat → ClassId) (F : Nat) (a_t : Nat) (a_t_now : Nat) (a_t_trial : Nat) (a_t_diary : Nat) (a_t_kept : Nat) (a_t_isKept : Nat) (a_t_script : Nat) (a_t_read : Nat) (a_t_wanted : Nat) (a_t_level : Nat) (a_t_chosen : Nat) (a_t_best : Nat) (c_t_refusal : Int) (c_t_high : Int) (c_t_wide : Int) (c_t_acts : Int) (c_t_next : Int) (c_t_scriptSize : Int) (c_t_spot : Int) (c_t_readHigh : Int) (c_t_readWide : Int) (f_t_now : Nat → Int) (f_t_level : Nat → Int) (f_t_chosen : Nat → Int) (f_t_best : Nat → Int) (p0 : Int) (p1 : Int) (res : Int × Int × (Nat → Int) × (Nat → Int) × (Nat → Int)) (hsh : sh_X9_bestSequence F c_t_high c_t_wide f_t_now f_t_level f_t_chosen f_t_best p0 p1 = some res) : ZM l D J yX9_bestSequence wsX9_bestSequence ({ frames := 6, cells := 0, slots := 0, locals := 146 } : Room) 0 0 [.ref a_t, .int (zi p0), .int (zi p1)] [(a_t, .inr (8, [.int (zi c_t_refusal), .int (zi c_t_high), .int (zi c_t_wide), .ref a_t_now, .ref a_t_trial, .ref a_t_diary, .int (zi c_t_acts), .int (zi c_t_next), .ref a_t_kept, .ref a_t_isKept, .ref a_t_script, .int (zi c_t_scriptSize), .int (zi c_t_spot), .ref a_t_read, .int (zi c_t_readHigh), .int (zi c_t_readWide), .ref a_t_wanted, .ref a_t_level, .ref a_t_chosen, .ref a_t_best])), (a_t_now, zI J 243 f_t_now), (a_t_level, zI J 972 f_t_level), (a_t_chosen, zI J 4 f_t_chosen), (a_t_best, zI J 5 f_t_best)] (fun rv w9 => rv = some (.int (zi res.1)) ∧ w9 = [(a_t, .inr (8, [.int (zi res.2.1), .int (zi c_t_high), .int (zi c_t_wide), .ref a_t_now, .ref a_t_trial, .ref a_t_diary, .int (zi c_t_acts), .int (zi c_t_next), .ref a_t_kept, .ref a_t_isKept, .ref a_t_script, .int (zi c_t_scriptSize), .int (zi c_t_spot), .ref a_t_read, .int (zi c_t_readHigh), .int (zi c_t_readWide), .ref a_t_wanted, .ref a_t_level, .ref a_t_chosen, .ref a_t_best])), (a_t_now, zI J 243 f_t_now), (a_t_level, zI J 972 res.2.2.1), (a_t_chosen, zI J 4 res.2.2.2.1), (a_t_best, zI J 5 res.2.2.2.2)]) := by
  refine z_ofZ (cc := cX9_bestSequence) (maxL := 3) (ret := (some .int)) 0 0 (by decide) rfl (Nat.le_of_ble_eq_true rfl) [(0, .ref a_t), (1, .int (zi p0)), (2, .int (zi p1))] rfl ?_
  intro p e s m args below meth c A
  unfold sh_X9_bestSequence at hsh
  refine z_aload_n (pc' := 1) 0 dX9_bestSequence_0 rfl rfl rfl ?_
  refine z_iload_n (pc' := 2) 1 dX9_bestSequence_1 rfl rfl rfl ?_
  have g1 := zkr_p hsh
  replace hsh := zkr_k hsh
  refine z_i2l (pc' := 3) dX9_bestSequence_2 g1 rfl ?_
  refine z_lconst (pc' := 4) 1 dX9_bestSequence_3 (by decide) rfl ?_
  refine z_ldc2 (pc' := 7) (4 : Int) dX9_bestSequence_4 mX9_bestSequence_k165 (by decide) rfl ?_
  obtain ⟨q2, h3, hsh⟩ := zbind hsh
  refine z_callS (pc' := 10) (As := [.long (zl p0), .long (zl (1 : Int)), .long (zl (4 : Int))]) (rest := [.ref a_t]) (wr := [(a_t, .inr (8, [.int (zi c_t_refusal), .int (zi c_t_high), .int (zi c_t_wide), .ref a_t_now, .ref a_t_trial, .ref a_t_diary, .int (zi c_t_acts), .int (zi c_t_next), .ref a_t_kept, .ref a_t_isKept, .ref a_t_script, .int (zi c_t_scriptSize), .int (zi c_t_spot), .ref a_t_read, .int (zi c_t_readHigh), .int (zi c_t_readWide), .ref a_t_wanted, .ref a_t_level, .ref a_t_chosen, .ref a_t_best])), (a_t_now, zI J 243 f_t_now), (a_t_level, zI J 972 f_t_level), (a_t_chosen, zI J 4 f_t_chosen), (a_t_best, zI J 5 f_t_best)]) 3 (zc_X9_in l D J F (p0 := p0) (p1 := (1 : Int)) (p2 := (4 : Int))  q2 h3) dX9_bestSequence_7 gX9_bestSequence_X9_in rfl rfl rfl (by decide +kernel) ⟨Nat.le_of_ble_eq_true rfl, Nat.le_of_ble_eq_true rfl⟩ ⟨Nat.le_of_ble_eq_true rfl, Nat.le_of_ble_eq_true rfl⟩ (z_spl_of [0, 1, 2, 3, 4] rfl rfl) rfl rfl (Nat.le_of_ble_eq_true rfl) rfl (fun rv w9 hq => ?_)
  obtain ⟨rfl, rfl⟩ := hq
  refine z_ws [(a_t, .inr (8, [.int (zi c_t_refusal), .int (zi c_t_high), .int (zi c_t_wide), .ref a_t_now, .ref a_t_trial, .ref a_t_diary, .int (zi c_t_acts), .int (zi c_t_next), .ref a_t_kept, .ref a_t_isKept, .ref a_t_script, .int (zi c_t_scriptSize), .int (zi c_t_spot), .ref a_t_read, .int (zi c_t_readHigh), .int (zi c_t_readWide), .ref a_t_wanted, .ref a_t_level, .ref a_t_chosen, .ref a_t_best])), (a_t_now, zI J 243 f_t_now), (a_t_level, zI J 972 f_t_level), (a_t_chosen, zI J 4 f_t_chosen), (a_t_best, zI J 5 f_t_best)] rfl ?_
  have g4 := zkr_p hsh
  replace hsh := zkr_k hsh
  refine z_if_eq (pc' := 13) (tgt := 28) dX9_bestSequence_10 (by decide) g4 rfl (fun q => ?_) (fun q => ?_)
  · replace hsh := zif_t q hsh
    refine z_iconst (pc' := 29) dX9_bestSequence_28 rfl ?_
    obtain ⟨q5, h6, hsh⟩ := zbind hsh
    refine z_callV (pc' := 32) (C := RX9) (As := [.int (zi (1 : Int))]) (rest := []) (wr := [(a_t_now, zI J 243 f_t_now), (a_t_level, zI J 972 f_t_level), (a_t_chosen, zI J 4 f_t_chosen), (a_t_best, zI J 5 f_t_best)]) 1 (zc_X9_refused l D J F (a_t := a_t) (a_t_now := a_t_now) (a_t_trial := a_t_trial) (a_t_diary := a_t_diary) (a_t_kept := a_t_kept) (a_t_isKept := a_t_isKept) (a_t_script := a_t_script) (a_t_read := a_t_read) (a_t_wanted := a_t_wanted) (a_t_level := a_t_level) (a_t_chosen := a_t_chosen) (a_t_best := a_t_best) (c_t_refusal := c_t_refusal) (c_t_high := c_t_high) (c_t_wide := c_t_wide) (c_t_acts := c_t_acts) (c_t_next := c_t_next) (c_t_scriptSize := c_t_scriptSize) (c_t_spot := c_t_spot) (c_t_readHigh := c_t_readHigh) (c_t_readWide := c_t_readWide) (p0 := (1 : Int))  q5 h6) dX9_bestSequence_29 gX9_bestSequence_X9_refused rfl rfl rfl (by decide +kernel) ⟨Nat.le_of_ble_eq_true rfl, Nat.le_of_ble_eq_true rfl⟩ ⟨Nat.le_of_ble_eq_true rfl, Nat.le_of_ble_eq_true rfl⟩ (z_spl_of [0, 1, 2, 3, 4] rfl rfl) rfl rfl rfl rfl (Nat.le_of_ble_eq_true rfl) rfl (fun rv w9 hq => ?_)
    obtain ⟨rfl, rfl⟩ := hq
    refine z_ws [(a_t_now, zI J 243 f_t_now), (a_t_level, zI J 972 f_t_level), (a_t_chosen, zI J 4 f_t_chosen), (a_t_best, zI J 5 f_t_best), (a_t, .inr (8, [.int (zi q5.2), .int (zi c_t_high), .int (zi c_t_wide), .ref a_t_now, .ref a_t_trial, .ref a_t_diary, .int (zi c_t_acts), .int (zi c_t_next), .ref a_t_kept, .ref a_t_isKept, .ref a_t_script, .int (zi c_t_scriptSize), .int (zi c_t_spot), .ref a_t_read, .int (zi c_t_readHigh), .int (zi c_t_readWide), .ref a_t_wanted, .ref a_t_level, .ref a_t_chosen, .ref a_t_best]))] rfl ?_
    have g7 := zkr_p hsh
    replace hsh := zkr_k hsh
    refine z_if_eq (pc' := 35) (tgt := 37) dX9_bestSequence_32 (by decide) g7 rfl (fun q => ?_) (fun q => ?_)
    · replace hsh := zif_t q hsh
      refine z_aload_n (pc' := 38) 0 dX9_bestSequence_37 rfl rfl rfl ?_
      refine z_iload_n (pc' := 39) 1 dX9_bestSequence_38 rfl rfl rfl ?_
      obtain ⟨q8, h9, hsh⟩ := zbind hsh
      refine z_callV (pc' := 42) (C := RX9) (As := [.int (zi p0)]) (rest := []) (wr := []) 1 (zc_X9_findBest l D J F (a_t := a_t) (a_t_now := a_t_now) (a_t_trial := a_t_trial) (a_t_diary := a_t_diary) (a_t_kept := a_t_kept) (a_t_isKept := a_t_isKept) (a_t_script := a_t_script) (a_t_read := a_t_read) (a_t_wanted := a_t_wanted) (a_t_level := a_t_level) (a_t_chosen := a_t_chosen) (a_t_best := a_t_best) (c_t_refusal := q5.2) (c_t_high := c_t_high) (c_t_wide := c_t_wide) (c_t_acts := c_t_acts) (c_t_next := c_t_next) (c_t_scriptSize := c_t_scriptSize) (c_t_spot := c_t_spot) (c_t_readHigh := c_t_readHigh) (c_t_readWide := c_t_readWide) (f_t_now := f_t_now) (f_t_level := f_t_level) (f_t_chosen := f_t_chosen) (f_t_best := f_t_best) (p0 := p0)  q8 h9) dX9_bestSequence_39 gX9_bestSequence_X9_findBest rfl rfl rfl (by decide +kernel) ⟨Nat.le_of_ble_eq_true rfl, Nat.le_of_ble_eq_true rfl⟩ ⟨Nat.le_of_ble_eq_true rfl, Nat.le_of_ble_eq_true rfl⟩ (z_spl_of [4, 0, 1, 2, 3] rfl rfl) rfl rfl rfl rfl (Nat.le_of_ble_eq_true rfl) rfl (fun rv w9 hq => ?_)
      obtain ⟨rfl, rfl⟩ := hq
      refine z_ws [(a_t, .inr (8, [.int (zi q5.2), .int (zi c_t_high), .int (zi c_t_wide), .ref a_t_now, .ref a_t_trial, .ref a_t_diary, .int (zi c_t_acts), .int (zi c_t_next), .ref a_t_kept, .ref a_t_isKept, .ref a_t_script, .int (zi c_t_scriptSize), .int (zi c_t_spot), .ref a_t_read, .int (zi c_t_readHigh), .int (zi c_t_readWide), .ref a_t_wanted, .ref a_t_level, .ref a_t_chosen, .ref a_t_best])), (a_t_now, zI J 243 f_t_now), (a_t_level, zI J 972 q8.1), (a_t_chosen, zI J 4 q8.2.1), (a_t_best, zI J 5 q8.2.2)] rfl ?_
      refine z_aload_n (pc' := 43) 0 dX9_bestSequence_42 rfl rfl rfl ?_
      refine z_getfield (pc' := 46) (C := RX9) (T := TX9) (N := 20) 0 19 dX9_bestSequence_43 iX9_bestSequence_X9 rfl rfl (by decide) mX9_bestSequence_f48 rfl rfl ?_
      refine z_iconst (pc' := 47) dX9_bestSequence_46 rfl ?_
      refine z_iaload (pc' := 48) 4 dX9_bestSequence_47 rfl (by decide) (by decide) rfl ?_
      refine z_bipush (pc' := 50) dX9_bestSequence_48 (by decide) rfl ?_
      have g10 := zkr_p hsh
      replace hsh := zkr_k hsh
      refine z_icmp_ne (pc' := 53) (tgt := 58) dX9_bestSequence_50 (by decide) g10 (by decide) rfl (fun q => ?_) (fun q => ?_)
      · replace hsh := zif_f q hsh
        refine z_iload_n (pc' := 59) 2 dX9_bestSequence_58 rfl rfl rfl ?_
        refine z_iload_n (pc' := 60) 1 dX9_bestSequence_59 rfl rfl rfl ?_
        have g11 := zkr_p hsh
        replace hsh := zkr_k hsh
        refine z_icmp_ne (pc' := 63) (tgt := 72) dX9_bestSequence_60 (by decide) g11 g1 rfl (fun q => ?_) (fun q => ?_)
        · replace hsh := zif_f q hsh
          refine z_aload_n (pc' := 73) 0 dX9_bestSequence_72 rfl rfl rfl ?_
          refine z_getfield (pc' := 76) (C := RX9) (T := TX9) (N := 20) 0 19 dX9_bestSequence_73 iX9_bestSequence_X9 rfl rfl (by decide) mX9_bestSequence_f48 rfl rfl ?_
          refine z_iload_n (pc' := 77) 2 dX9_bestSequence_76 rfl rfl rfl ?_
          have g12 := zkx_p hsh
          replace hsh := zkx_k hsh
          refine z_iaload (pc' := 78) 4 dX9_bestSequence_77 rfl (by decide) g12 rfl ?_
          cases hsh
          exact z_iret rfl dX9_bestSequence_78 ⟨rfl, rfl⟩
        · replace hsh := zif_t q hsh
          refine z_aload_n (pc' := 64) 0 dX9_bestSequence_63 rfl rfl rfl ?_
          refine z_getfield (pc' := 67) (C := RX9) (T := TX9) (N := 20) 0 19 dX9_bestSequence_64 iX9_bestSequence_X9 rfl rfl (by decide) mX9_bestSequence_f48 rfl rfl ?_
          refine z_iconst (pc' := 68) dX9_bestSequence_67 rfl ?_
          refine z_iaload (pc' := 69) 4 dX9_bestSequence_68 rfl (by decide) (by decide) rfl ?_
          refine z_goto (tgt := 78) dX9_bestSequence_69 (by decide) ?_
          cases hsh
          exact z_iret rfl dX9_bestSequence_78 ⟨rfl, rfl⟩
      · replace hsh := zif_t q hsh
        refine z_bipush (pc' := 55) dX9_bestSequence_53 (by decide) rfl ?_
        refine z_goto (tgt := 78) dX9_bestSequence_55 (by decide) ?_
        cases hsh
        exact z_iret rfl dX9_bestSequence_78 ⟨rfl, rfl⟩
    · replace hsh := zif_f q hsh
      refine z_iconst (pc' := 36) dX9_bestSequence_35 rfl ?_
      refine z_perm [(a_t, .inr (8, [.int (zi q5.2), .int (zi c_t_high), .int (zi c_t_wide), .ref a_t_now, .ref a_t_trial, .ref a_t_diary, .int (zi c_t_acts), .int (zi c_t_next), .ref a_t_kept, .ref a_t_isKept, .ref a_t_script, .int (zi c_t_scriptSize), .int (zi c_t_spot), .ref a_t_read, .int (zi c_t_readHigh), .int (zi c_t_readWide), .ref a_t_wanted, .ref a_t_level, .ref a_t_chosen, .ref a_t_best])), (a_t_now, zI J 243 f_t_now), (a_t_level, zI J 972 f_t_level), (a_t_chosen, zI J 4 f_t_chosen), (a_t_best, zI J 5 f_t_best)] [(0, .ref a_t), (1, .int (zi p0)), (2, .int (zi p1))] [4, 0, 1, 2, 3] [0, 1, 2] rfl rfl rfl ?_
      cases hsh
      exact z_iret rfl dX9_bestSequence_36 ⟨rfl, rfl⟩
  · replace hsh := zif_f q hsh
    refine z_iload_n (pc' := 14) 2 dX9_bestSequence_13 rfl rfl rfl ?_
    have g13 := zkr_p hsh
    replace hsh := zkr_k hsh
    refine z_i2l (pc' := 15) dX9_bestSequence_14 g13 rfl ?_
    refine z_lconst (pc' := 16) 0 dX9_bestSequence_15 (by decide) rfl ?_
    refine z_iload_n (pc' := 17) 1 dX9_bestSequence_16 rfl rfl rfl ?_
    refine z_i2l (pc' := 18) dX9_bestSequence_17 g1 rfl ?_
    obtain ⟨q14, h15, hsh⟩ := zbind hsh
    refine z_callS (pc' := 21) (As := [.long (zl p1), .long (zl (0 : Int)), .long (zl p0)]) (rest := [.ref a_t]) (wr := [(a_t, .inr (8, [.int (zi c_t_refusal), .int (zi c_t_high), .int (zi c_t_wide), .ref a_t_now, .ref a_t_trial, .ref a_t_diary, .int (zi c_t_acts), .int (zi c_t_next), .ref a_t_kept, .ref a_t_isKept, .ref a_t_script, .int (zi c_t_scriptSize), .int (zi c_t_spot), .ref a_t_read, .int (zi c_t_readHigh), .int (zi c_t_readWide), .ref a_t_wanted, .ref a_t_level, .ref a_t_chosen, .ref a_t_best])), (a_t_now, zI J 243 f_t_now), (a_t_level, zI J 972 f_t_level), (a_t_chosen, zI J 4 f_t_chosen), (a_t_best, zI J 5 f_t_best)]) 3 (zc_X9_in l D J F (p0 := p1) (p1 := (0 : Int)) (p2 := p0)  q14 h15) dX9_bestSequence_18 gX9_bestSequence_X9_in rfl rfl rfl (by decide +kernel) ⟨Nat.le_of_ble_eq_true rfl, Nat.le_of_ble_eq_true rfl⟩ ⟨Nat.le_of_ble_eq_true rfl, Nat.le_of_ble_eq_true rfl⟩ (z_spl_of [0, 1, 2, 3, 4] rfl rfl) rfl rfl (Nat.le_of_ble_eq_true rfl) rfl (fun rv w9 hq => ?_)
    obtain ⟨rfl, rfl⟩ := hq
    refine z_ws [(a_t, .inr (8, [.int (zi c_t_refusal), .int (zi c_t_high), .int (zi c_t_wide), .ref a_t_now, .ref a_t_trial, .ref a_t_diary, .int (zi c_t_acts), .int (zi c_t_next), .ref a_t_kept, .ref a_t_isKept, .ref a_t_script, .int (zi c_t_scriptSize), .int (zi c_t_spot), .ref a_t_read, .int (zi c_t_readHigh), .int (zi c_t_readWide), .ref a_t_wanted, .ref a_t_level, .ref a_t_chosen, .ref a_t_best])), (a_t_now, zI J 243 f_t_now), (a_t_level, zI J 972 f_t_level), (a_t_chosen, zI J 4 f_t_chosen), (a_t_best, zI J 5 f_t_best)] rfl ?_
    have g16 := zkr_p hsh
    replace hsh := zkr_k hsh
    refine z_if_eq (pc' := 24) (tgt := 28) dX9_bestSequence_21 (by decide) g16 rfl (fun q => ?_) (fun q => ?_)
    · replace hsh := zif_t q hsh
      refine z_iconst (pc' := 29) dX9_bestSequence_28 rfl ?_
      obtain ⟨q17, h18, hsh⟩ := zbind hsh
      refine z_callV (pc' := 32) (C := RX9) (As := [.int (zi (1 : Int))]) (rest := []) (wr := [(a_t_now, zI J 243 f_t_now), (a_t_level, zI J 972 f_t_level), (a_t_chosen, zI J 4 f_t_chosen), (a_t_best, zI J 5 f_t_best)]) 1 (zc_X9_refused l D J F (a_t := a_t) (a_t_now := a_t_now) (a_t_trial := a_t_trial) (a_t_diary := a_t_diary) (a_t_kept := a_t_kept) (a_t_isKept := a_t_isKept) (a_t_script := a_t_script) (a_t_read := a_t_read) (a_t_wanted := a_t_wanted) (a_t_level := a_t_level) (a_t_chosen := a_t_chosen) (a_t_best := a_t_best) (c_t_refusal := c_t_refusal) (c_t_high := c_t_high) (c_t_wide := c_t_wide) (c_t_acts := c_t_acts) (c_t_next := c_t_next) (c_t_scriptSize := c_t_scriptSize) (c_t_spot := c_t_spot) (c_t_readHigh := c_t_readHigh) (c_t_readWide := c_t_readWide) (p0 := (1 : Int))  q17 h18) dX9_bestSequence_29 gX9_bestSequence_X9_refused rfl rfl rfl (by decide +kernel) ⟨Nat.le_of_ble_eq_true rfl, Nat.le_of_ble_eq_true rfl⟩ ⟨Nat.le_of_ble_eq_true rfl, Nat.le_of_ble_eq_true rfl⟩ (z_spl_of [0, 1, 2, 3, 4] rfl rfl) rfl rfl rfl rfl (Nat.le_of_ble_eq_true rfl) rfl (fun rv w9 hq => ?_)
      obtain ⟨rfl, rfl⟩ := hq
      refine z_ws [(a_t_now, zI J 243 f_t_now), (a_t_level, zI J 972 f_t_level), (a_t_chosen, zI J 4 f_t_chosen), (a_t_best, zI J 5 f_t_best), (a_t, .inr (8, [.int (zi q17.2), .int (zi c_t_high), .int (zi c_t_wide), .ref a_t_now, .ref a_t_trial, .ref a_t_diary, .int (zi c_t_acts), .int (zi c_t_next), .ref a_t_kept, .ref a_t_isKept, .ref a_t_script, .int (zi c_t_scriptSize), .int (zi c_t_spot), .ref a_t_read, .int (zi c_t_readHigh), .int (zi c_t_readWide), .ref a_t_wanted, .ref a_t_level, .ref a_t_chosen, .ref a_t_best]))] rfl ?_
      have g19 := zkr_p hsh
      replace hsh := zkr_k hsh
      refine z_if_eq (pc' := 35) (tgt := 37) dX9_bestSequence_32 (by decide) g19 rfl (fun q => ?_) (fun q => ?_)
      · replace hsh := zif_t q hsh
        refine z_aload_n (pc' := 38) 0 dX9_bestSequence_37 rfl rfl rfl ?_
        refine z_iload_n (pc' := 39) 1 dX9_bestSequence_38 rfl rfl rfl ?_
        obtain ⟨q20, h21, hsh⟩ := zbind hsh
        refine z_callV (pc' := 42) (C := RX9) (As := [.int (zi p0)]) (rest := []) (wr := []) 1 (zc_X9_findBest l D J F (a_t := a_t) (a_t_now := a_t_now) (a_t_trial := a_t_trial) (a_t_diary := a_t_diary) (a_t_kept := a_t_kept) (a_t_isKept := a_t_isKept) (a_t_script := a_t_script) (a_t_read := a_t_read) (a_t_wanted := a_t_wanted) (a_t_level := a_t_level) (a_t_chosen := a_t_chosen) (a_t_best := a_t_best) (c_t_refusal := q17.2) (c_t_high := c_t_high) (c_t_wide := c_t_wide) (c_t_acts := c_t_acts) (c_t_next := c_t_next) (c_t_scriptSize := c_t_scriptSize) (c_t_spot := c_t_spot) (c_t_readHigh := c_t_readHigh) (c_t_readWide := c_t_readWide) (f_t_now := f_t_now) (f_t_level := f_t_level) (f_t_chosen := f_t_chosen) (f_t_best := f_t_best) (p0 := p0)  q20 h21) dX9_bestSequence_39 gX9_bestSequence_X9_findBest rfl rfl rfl (by decide +kernel) ⟨Nat.le_of_ble_eq_true rfl, Nat.le_of_ble_eq_true rfl⟩ ⟨Nat.le_of_ble_eq_true rfl, Nat.le_of_ble_eq_true rfl⟩ (z_spl_of [4, 0, 1, 2, 3] rfl rfl) rfl rfl rfl rfl (Nat.le_of_ble_eq_true rfl) rfl (fun rv w9 hq => ?_)
        obtain ⟨rfl, rfl⟩ := hq
        refine z_ws [(a_t, .inr (8, [.int (zi q17.2), .int (zi c_t_high), .int (zi c_t_wide), .ref a_t_now, .ref a_t_trial, .ref a_t_diary, .int (zi c_t_acts), .int (zi c_t_next), .ref a_t_kept, .ref a_t_isKept, .ref a_t_script, .int (zi c_t_scriptSize), .int (zi c_t_spot), .ref a_t_read, .int (zi c_t_readHigh), .int (zi c_t_readWide), .ref a_t_wanted, .ref a_t_level, .ref a_t_chosen, .ref a_t_best])), (a_t_now, zI J 243 f_t_now), (a_t_level, zI J 972 q20.1), (a_t_chosen, zI J 4 q20.2.1), (a_t_best, zI J 5 q20.2.2)] rfl ?_
        refine z_aload_n (pc' := 43) 0 dX9_bestSequence_42 rfl rfl rfl ?_
        refine z_getfield (pc' := 46) (C := RX9) (T := TX9) (N := 20) 0 19 dX9_bestSequence_43 iX9_bestSequence_X9 rfl rfl (by decide) mX9_bestSequence_f48 rfl rfl ?_
        refine z_iconst (pc' := 47) dX9_bestSequence_46 rfl ?_
        refine z_iaload (pc' := 48) 4 dX9_bestSequence_47 rfl (by decide) (by decide) rfl ?_
        refine z_bipush (pc' := 50) dX9_bestSequence_48 (by decide) rfl ?_
        have g22 := zkr_p hsh
        replace hsh := zkr_k hsh
        refine z_icmp_ne (pc' := 53) (tgt := 58) dX9_bestSequence_50 (by decide) g22 (by decide) rfl (fun q => ?_) (fun q => ?_)
        · replace hsh := zif_f q hsh
          refine z_iload_n (pc' := 59) 2 dX9_bestSequence_58 rfl rfl rfl ?_
          refine z_iload_n (pc' := 60) 1 dX9_bestSequence_59 rfl rfl rfl ?_
          refine z_icmp_ne (pc' := 63) (tgt := 72) dX9_bestSequence_60 (by decide) g13 g1 rfl (fun q => ?_) (fun q => ?_)
          · replace hsh := zif_f q hsh
            refine z_aload_n (pc' := 73) 0 dX9_bestSequence_72 rfl rfl rfl ?_
            refine z_getfield (pc' := 76) (C := RX9) (T := TX9) (N := 20) 0 19 dX9_bestSequence_73 iX9_bestSequence_X9 rfl rfl (by decide) mX9_bestSequence_f48 rfl rfl ?_
            refine z_iload_n (pc' := 77) 2 dX9_bestSequence_76 rfl rfl rfl ?_
            have g23 := zkx_p hsh
            replace hsh := zkx_k hsh
            refine z_iaload (pc' := 78) 4 dX9_bestSequence_77 rfl (by decide) g23 rfl ?_
            cases hsh
            exact z_iret rfl dX9_bestSequence_78 ⟨rfl, rfl⟩
          · replace hsh := zif_t q hsh
            refine z_aload_n (pc' := 64) 0 dX9_bestSequence_63 rfl rfl rfl ?_
            refine z_getfield (pc' := 67) (C := RX9) (T := TX9) (N := 20) 0 19 dX9_bestSequence_64 iX9_bestSequence_X9 rfl rfl (by decide) mX9_bestSequence_f48 rfl rfl ?_
            refine z_iconst (pc' := 68) dX9_bestSequence_67 rfl ?_
            refine z_iaload (pc' := 69) 4 dX9_bestSequence_68 rfl (by decide) (by decide) rfl ?_
            refine z_goto (tgt := 78) dX9_bestSequence_69 (by decide) ?_
            cases hsh
            exact z_iret rfl dX9_bestSequence_78 ⟨rfl, rfl⟩
        · replace hsh := zif_t q hsh
          refine z_bipush (pc' := 55) dX9_bestSequence_53 (by decide) rfl ?_
          refine z_goto (tgt := 78) dX9_bestSequence_55 (by decide) ?_
          cases hsh
          exact z_iret rfl dX9_bestSequence_78 ⟨rfl, rfl⟩
      · replace hsh := zif_f q hsh
        refine z_iconst (pc' := 36) dX9_bestSequence_35 rfl ?_
        refine z_perm [(a_t, .inr (8, [.int (zi q17.2), .int (zi c_t_high), .int (zi c_t_wide), .ref a_t_now, .ref a_t_trial, .ref a_t_diary, .int (zi c_t_acts), .int (zi c_t_next), .ref a_t_kept, .ref a_t_isKept, .ref a_t_script, .int (zi c_t_scriptSize), .int (zi c_t_spot), .ref a_t_read, .int (zi c_t_readHigh), .int (zi c_t_readWide), .ref a_t_wanted, .ref a_t_level, .ref a_t_chosen, .ref a_t_best])), (a_t_now, zI J 243 f_t_now), (a_t_level, zI J 972 f_t_level), (a_t_chosen, zI J 4 f_t_chosen), (a_t_best, zI J 5 f_t_best)] [(0, .ref a_t), (1, .int (zi p0)), (2, .int (zi p1))] [4, 0, 1, 2, 3] [0, 1, 2] rfl rfl rfl ?_
        cases hsh
        exact z_iret rfl dX9_bestSequence_36 ⟨rfl, rfl⟩
    · replace hsh := zif_f q hsh
      refine z_iconst (pc' := 25) dX9_bestSequence_24 rfl ?_
      refine z_goto (tgt := 29) dX9_bestSequence_25 (by decide) ?_
      obtain ⟨q24, h25, hsh⟩ := zbind hsh
      refine z_callV (pc' := 32) (C := RX9) (As := [.int (zi (0 : Int))]) (rest := []) (wr := [(a_t_now, zI J 243 f_t_now), (a_t_level, zI J 972 f_t_level), (a_t_chosen, zI J 4 f_t_chosen), (a_t_best, zI J 5 f_t_best)]) 1 (zc_X9_refused l D J F (a_t := a_t) (a_t_now := a_t_now) (a_t_trial := a_t_trial) (a_t_diary := a_t_diary) (a_t_kept := a_t_kept) (a_t_isKept := a_t_isKept) (a_t_script := a_t_script) (a_t_read := a_t_read) (a_t_wanted := a_t_wanted) (a_t_level := a_t_level) (a_t_chosen := a_t_chosen) (a_t_best := a_t_best) (c_t_refusal := c_t_refusal) (c_t_high := c_t_high) (c_t_wide := c_t_wide) (c_t_acts := c_t_acts) (c_t_next := c_t_next) (c_t_scriptSize := c_t_scriptSize) (c_t_spot := c_t_spot) (c_t_readHigh := c_t_readHigh) (c_t_readWide := c_t_readWide) (p0 := (0 : Int))  q24 h25) dX9_bestSequence_29 gX9_bestSequence_X9_refused rfl rfl rfl (by decide +kernel) ⟨Nat.le_of_ble_eq_true rfl, Nat.le_of_ble_eq_true rfl⟩ ⟨Nat.le_of_ble_eq_true rfl, Nat.le_of_ble_eq_true rfl⟩ (z_spl_of [0, 1, 2, 3, 4] rfl rfl) rfl rfl rfl rfl (Nat.le_of_ble_eq_true rfl) rfl (fun rv w9 hq => ?_)
      obtain ⟨rfl, rfl⟩ := hq
      refine z_ws [(a_t_now, zI J 243 f_t_now), (a_t_level, zI J 972 f_t_level), (a_t_chosen, zI J 4 f_t_chosen), (a_t_best, zI J 5 f_t_best), (a_t, .inr (8, [.int (zi q24.2), .int (zi c_t_high), .int (zi c_t_wide), .ref a_t_now, .ref a_t_trial, .ref a_t_diary, .int (zi c_t_acts), .int (zi c_t_next), .ref a_t_kept, .ref a_t_isKept, .ref a_t_script, .int (zi c_t_scriptSize), .int (zi c_t_spot), .ref a_t_read, .int (zi c_t_readHigh), .int (zi c_t_readWide), .ref a_t_wanted, .ref a_t_level, .ref a_t_chosen, .ref a_t_best]))] rfl ?_
      have g26 := zkr_p hsh
      replace hsh := zkr_k hsh
      refine z_if_eq (pc' := 35) (tgt := 37) dX9_bestSequence_32 (by decide) g26 rfl (fun q => ?_) (fun q => ?_)
      · replace hsh := zif_t q hsh
        refine z_aload_n (pc' := 38) 0 dX9_bestSequence_37 rfl rfl rfl ?_
        refine z_iload_n (pc' := 39) 1 dX9_bestSequence_38 rfl rfl rfl ?_
        obtain ⟨q27, h28, hsh⟩ := zbind hsh
        refine z_callV (pc' := 42) (C := RX9) (As := [.int (zi p0)]) (rest := []) (wr := []) 1 (zc_X9_findBest l D J F (a_t := a_t) (a_t_now := a_t_now) (a_t_trial := a_t_trial) (a_t_diary := a_t_diary) (a_t_kept := a_t_kept) (a_t_isKept := a_t_isKept) (a_t_script := a_t_script) (a_t_read := a_t_read) (a_t_wanted := a_t_wanted) (a_t_level := a_t_level) (a_t_chosen := a_t_chosen) (a_t_best := a_t_best) (c_t_refusal := q24.2) (c_t_high := c_t_high) (c_t_wide := c_t_wide) (c_t_acts := c_t_acts) (c_t_next := c_t_next) (c_t_scriptSize := c_t_scriptSize) (c_t_spot := c_t_spot) (c_t_readHigh := c_t_readHigh) (c_t_readWide := c_t_readWide) (f_t_now := f_t_now) (f_t_level := f_t_level) (f_t_chosen := f_t_chosen) (f_t_best := f_t_best) (p0 := p0)  q27 h28) dX9_bestSequence_39 gX9_bestSequence_X9_findBest rfl rfl rfl (by decide +kernel) ⟨Nat.le_of_ble_eq_true rfl, Nat.le_of_ble_eq_true rfl⟩ ⟨Nat.le_of_ble_eq_true rfl, Nat.le_of_ble_eq_true rfl⟩ (z_spl_of [4, 0, 1, 2, 3] rfl rfl) rfl rfl rfl rfl (Nat.le_of_ble_eq_true rfl) rfl (fun rv w9 hq => ?_)
        obtain ⟨rfl, rfl⟩ := hq
        refine z_ws [(a_t, .inr (8, [.int (zi q24.2), .int (zi c_t_high), .int (zi c_t_wide), .ref a_t_now, .ref a_t_trial, .ref a_t_diary, .int (zi c_t_acts), .int (zi c_t_next), .ref a_t_kept, .ref a_t_isKept, .ref a_t_script, .int (zi c_t_scriptSize), .int (zi c_t_spot), .ref a_t_read, .int (zi c_t_readHigh), .int (zi c_t_readWide), .ref a_t_wanted, .ref a_t_level, .ref a_t_chosen, .ref a_t_best])), (a_t_now, zI J 243 f_t_now), (a_t_level, zI J 972 q27.1), (a_t_chosen, zI J 4 q27.2.1), (a_t_best, zI J 5 q27.2.2)] rfl ?_
        refine z_aload_n (pc' := 43) 0 dX9_bestSequence_42 rfl rfl rfl ?_
        refine z_getfield (pc' := 46) (C := RX9) (T := TX9) (N := 20) 0 19 dX9_bestSequence_43 iX9_bestSequence_X9 rfl rfl (by decide) mX9_bestSequence_f48 rfl rfl ?_
        refine z_iconst (pc' := 47) dX9_bestSequence_46 rfl ?_
        refine z_iaload (pc' := 48) 4 dX9_bestSequence_47 rfl (by decide) (by decide) rfl ?_
        refine z_bipush (pc' := 50) dX9_bestSequence_48 (by decide) rfl ?_
        have g29 := zkr_p hsh
        replace hsh := zkr_k hsh
        refine z_icmp_ne (pc' := 53) (tgt := 58) dX9_bestSequence_50 (by decide) g29 (by decide) rfl (fun q => ?_) (fun q => ?_)
        · replace hsh := zif_f q hsh
          refine z_iload_n (pc' := 59) 2 dX9_bestSequence_58 rfl rfl rfl ?_
          refine z_iload_n (pc' := 60) 1 dX9_bestSequence_59 rfl rfl rfl ?_
          refine z_icmp_ne (pc' := 63) (tgt := 72) dX9_bestSequence_60 (by decide) g13 g1 rfl (fun q => ?_) (fun q => ?_)
          · replace hsh := zif_f q hsh
            refine z_aload_n (pc' := 73) 0 dX9_bestSequence_72 rfl rfl rfl ?_
            refine z_getfield (pc' := 76) (C := RX9) (T := TX9) (N := 20) 0 19 dX9_bestSequence_73 iX9_bestSequence_X9 rfl rfl (by decide) mX9_bestSequence_f48 rfl rfl ?_
            refine z_iload_n (pc' := 77) 2 dX9_bestSequence_76 rfl rfl rfl ?_
            have g30 := zkx_p hsh
            replace hsh := zkx_k hsh
            refine z_iaload (pc' := 78) 4 dX9_bestSequence_77 rfl (by decide) g30 rfl ?_
            cases hsh
            exact z_iret rfl dX9_bestSequence_78 ⟨rfl, rfl⟩
          · replace hsh := zif_t q hsh
            refine z_aload_n (pc' := 64) 0 dX9_bestSequence_63 rfl rfl rfl ?_
            refine z_getfield (pc' := 67) (C := RX9) (T := TX9) (N := 20) 0 19 dX9_bestSequence_64 iX9_bestSequence_X9 rfl rfl (by decide) mX9_bestSequence_f48 rfl rfl ?_
            refine z_iconst (pc' := 68) dX9_bestSequence_67 rfl ?_
            refine z_iaload (pc' := 69) 4 dX9_bestSequence_68 rfl (by decide) (by decide) rfl ?_
            refine z_goto (tgt := 78) dX9_bestSequence_69 (by decide) ?_
            cases hsh
            exact z_iret rfl dX9_bestSequence_78 ⟨rfl, rfl⟩
        · replace hsh := zif_t q hsh
          refine z_bipush (pc' := 55) dX9_bestSequence_53 (by decide) rfl ?_
          refine z_goto (tgt := 78) dX9_bestSequence_55 (by decide) ?_
          cases hsh
          exact z_iret rfl dX9_bestSequence_78 ⟨rfl, rfl⟩
      · replace hsh := zif_f q hsh
        refine z_iconst (pc' := 36) dX9_bestSequence_35 rfl ?_
        refine z_perm [(a_t, .inr (8, [.int (zi q24.2), .int (zi c_t_high), .int (zi c_t_wide), .ref a_t_now, .ref a_t_trial, .ref a_t_diary, .int (zi c_t_acts), .int (zi c_t_next), .ref a_t_kept, .ref a_t_isKept, .ref a_t_script, .int (zi c_t_scriptSize), .int (zi c_t_spot), .ref a_t_read, .int (zi c_t_readHigh), .int (zi c_t_readWide), .ref a_t_wanted, .ref a_t_level, .ref a_t_chosen, .ref a_t_best])), (a_t_now, zI J 243 f_t_now), (a_t_level, zI J 972 f_t_level), (a_t_chosen, zI J 4 f_t_chosen), (a_t_best, zI J 5 f_t_best)] [(0, .ref a_t), (1, .int (zi p0)), (2, .int (zi p1))] [4, 0, 1, 2, 3] [0, 1, 2] rfl rfl rfl ?_
        cases hsh
        exact z_iret rfl dX9_bestSequence_36 ⟨rfl, rfl⟩
def sh_X9_tens_L4 (F : Nat) (p0 : Int) (k : Int → Int → Option (Int)) : Nat → Int → Int → Option (Int)
  | 0, _, _ => none
  | N + 1, v3, v4 => zkr v4 (zkr p0 (if v4 < p0 then sh_X9_tens_L4 F p0 k N (v3 * (10 : Int)) (v4 + (1 : Int)) else k v3 v4))
def sh_X9_tens (F : Nat) (p0 : Int) : Option (Int) := sh_X9_tens_L4 F p0 (fun (v7 : Int) (v8 : Int) => some (v7)) F (1 : Int) (0 : Int)
theorem mX9_tens_k171 : Cond.constantLong RX9 171 (10) ∈ wsX9_tens := List.mem_of_getElem? (i := 1) rfl
set_option maxRecDepth 100000 in
set_option maxHeartbeats 4000000 in
theorem zl_X9_tens_L4 {p : Program} {l : Launch} {e : Env} {s : State} {m : MethodId} {args : Array Value} {below : List Frame} {meth : Method} {c : Code} {A : Nat → Prop} {D : va_G} {J : Nat → ClassId} {F : Nat} {p0 : Int} {res : Int} {k : Int → Int → Option (Int)} (hk : ∀ (v3' : Int) (v4' : Int), k v3' v4' = some res → Z p l e ({ frames := 0, cells := 0, slots := 0, locals := 0 } : Room) s m args below meth c (MQ below (zQ D J A (fun rv w9 => rv = some (.long (zl res)) ∧ w9 = [])) args s 0 0 A) cX9_tens 4 wsX9_tens RX9 D J A (some .long) (yX9_tens.name, []) 0 0 [] [(1, .long (zl v3'))] 21 []) : ∀ (N : Nat) (v3 : Int) (v4 : Int), sh_X9_tens_L4 F p0 k N v3 v4 = some res → Z p l e ({ frames := 0, cells := 0, slots := 0, locals := 0 } : Room) s m args below meth c (MQ below (zQ D J A (fun rv w9 => rv = some (.long (zl res)) ∧ w9 = [])) args s 0 0 A) cX9_tens 4 wsX9_tens RX9 D J A (some .long) (yX9_tens.name, []) 0 0 [] [(0, .int (zi p0)), (1, .long (zl v3)), (3, .int (zi v4))] 4 [] := by
  intro N
  induction N with
  | zero =>
    intro v3 v4 hsh
    exact absurd hsh (by simp [sh_X9_tens_L4])
  | succ N ih =>
    intro v3 v4 hsh
    rw [sh_X9_tens_L4] at hsh
    refine z_iload_n (pc' := 5) 2 dX9_tens_4 rfl rfl rfl ?_
    refine z_iload_n (pc' := 6) 0 dX9_tens_5 rfl rfl rfl ?_
    have g5 := zkr_p hsh
    replace hsh := zkr_k hsh
    have g6 := zkr_p hsh
    replace hsh := zkr_k hsh
    refine z_icmp_ge (pc' := 9) (tgt := 21) dX9_tens_6 (by decide) g5 g6 rfl (fun q => ?_) (fun q => ?_)
    · replace hsh := zif_f q hsh
      refine z_perm [] [(1, .long (zl v3))] [] [1] rfl rfl rfl ?_
      exact hk _ _ hsh
    · replace hsh := zif_t q hsh
      refine z_lload_n (pc' := 10) 1 dX9_tens_9 rfl rfl rfl ?_
      refine z_ldc2 (pc' := 13) (10 : Int) dX9_tens_10 mX9_tens_k171 (by decide) rfl ?_
      refine z_lmul (pc' := 14) dX9_tens_13 rfl ?_
      refine z_lstore_n (pc' := 15) [(1, .long (zl (v3 * (10 : Int)))), (0, .int (zi p0)), (3, .int (zi v4))] dX9_tens_14 rfl (by decide) rfl rfl ?_
      refine z_iinc (pc' := 18) [(3, .int (zi (v4 + (1 : Int)))), (1, .long (zl (v3 * (10 : Int)))), (0, .int (zi p0))] 2 dX9_tens_15 rfl (by decide) rfl rfl ?_
      refine z_goto (tgt := 4) dX9_tens_18 (by decide) ?_
      refine z_perm [] [(0, .int (zi p0)), (1, .long (zl (v3 * (10 : Int)))), (3, .int (zi (v4 + (1 : Int))))] [] [2, 1, 0] rfl rfl rfl ?_
      exact ih _ _ hsh
set_option maxRecDepth 100000 in
set_option maxHeartbeats 4000000 in
theorem zc_X9_tens (l : Launch) (D : va_G) (J : Nat → ClassId) (F : Nat) (p0 : Int) (res : Int) (hsh : sh_X9_tens F p0 = some res) : ZM l D J yX9_tens wsX9_tens ({ frames := 0, cells := 0, slots := 0, locals := 0 } : Room) 0 0 [.int (zi p0)] [] (fun rv w9 => rv = some (.long (zl res)) ∧ w9 = []) := by
  refine z_ofZ (cc := cX9_tens) (maxL := 4) (ret := (some .long)) 0 0 (by decide) rfl (Nat.le_of_ble_eq_true rfl) [(0, .int (zi p0))] rfl ?_
  intro p e s m args below meth c A
  unfold sh_X9_tens at hsh
  refine z_lconst (pc' := 1) 1 dX9_tens_0 (by decide) rfl ?_
  refine z_lstore_n (pc' := 2) [(1, .long (zl (1 : Int))), (0, .int (zi p0))] dX9_tens_1 rfl (by decide) rfl rfl ?_
  refine z_iconst (pc' := 3) dX9_tens_2 rfl ?_
  refine z_istore_n (pc' := 4) [(3, .int (zi (0 : Int))), (1, .long (zl (1 : Int))), (0, .int (zi p0))] dX9_tens_3 rfl (by decide) rfl rfl ?_
  refine z_perm [] [(0, .int (zi p0)), (1, .long (zl (1 : Int))), (3, .int (zi (0 : Int)))] [] [2, 1, 0] rfl rfl rfl ?_
  refine zl_X9_tens_L4 (F := F) (hk := fun v7 v8 hsh => ?_) _ _ _ hsh
  refine z_lload_n (pc' := 22) 0 dX9_tens_21 rfl rfl rfl ?_
  cases hsh
  exact z_lret rfl dX9_tens_22 ⟨rfl, rfl⟩
def sh_X9_origins_L61 (F : Nat) (p0 : Int) (p1 : Int) (f_t_now : Nat → Int) (v11 : Int) (k : Int → Int → Option (Int × Int)) : Nat → Int → Int → Option (Int × Int)
  | 0, _, _ => none
  | N + 1, v18, v19 => zkr v19 (zkr p0 (if v19 < p0 then zkr v18 (if v18 = (0 : Int) then sh_X9_origins_L61 F p0 p1 f_t_now v11 k N (0 : Int) (v19 + (1 : Int)) else (sh_X9_gradeOf F f_t_now 243 (0 : Int) v11 v19).bind (fun (q23 : Int) => zkr q23 (zkr p1 ((sh_X9_tens F ((p0 - (1 : Int)) - v19)).bind (fun (q27 : Int) => zkl q27 (zkc (¬ q27 = 0) (zkl (zdiv p1 q27) (zkl (zmod (zdiv p1 q27) (10 : Int)) (if q23 = (zmod (zdiv p1 q27) (10 : Int)) then sh_X9_origins_L61 F p0 p1 f_t_now v11 k N (1 : Int) (v19 + (1 : Int)) else sh_X9_origins_L61 F p0 p1 f_t_now v11 k N (0 : Int) (v19 + (1 : Int))))))))))) else k v18 v19))
def sh_X9_origins_L46 (F : Nat) (p0 : Int) (p1 : Int) (c_t_high : Int) (c_t_wide : Int) (f_t_now : Nat → Int) (k : Int → Int → Option (Int × Int)) : Nat → Int → Int → Option (Int × Int)
  | 0, _, _ => none
  | N + 1, v10, v11 => (sh_X9_points F c_t_high c_t_wide).bind (fun (q12 : Int) => zkr v11 (zkr q12 (if v11 < q12 then sh_X9_origins_L61 F p0 p1 f_t_now v11 (fun (v33 : Int) (v34 : Int) => zkr v33 (if v33 = (0 : Int) then sh_X9_origins_L46 F p0 p1 c_t_high c_t_wide f_t_now k N (zor v10 (0 : Int)) (v11 + (1 : Int)) else sh_X9_origins_L46 F p0 p1 c_t_high c_t_wide f_t_now k N (zor v10 (zshl (1 : Int) v11)) (v11 + (1 : Int)))) F (1 : Int) (0 : Int) else k v10 v11)))
def sh_X9_origins_L61_2 (F : Nat) (p0 : Int) (p1 : Int) (f_t_now : Nat → Int) (v50 : Int) (k : Int → Int → Option (Int × Int)) : Nat → Int → Int → Option (Int × Int)
  | 0, _, _ => none
  | N + 1, v57, v58 => zkr v58 (zkr p0 (if v58 < p0 then zkr v57 (if v57 = (0 : Int) then sh_X9_origins_L61_2 F p0 p1 f_t_now v50 k N (0 : Int) (v58 + (1 : Int)) else (sh_X9_gradeOf F f_t_now 243 (0 : Int) v50 v58).bind (fun (q62 : Int) => zkr q62 (zkr p1 ((sh_X9_tens F ((p0 - (1 : Int)) - v58)).bind (fun (q66 : Int) => zkl q66 (zkc (¬ q66 = 0) (zkl (zdiv p1 q66) (zkl (zmod (zdiv p1 q66) (10 : Int)) (if q62 = (zmod (zdiv p1 q66) (10 : Int)) then sh_X9_origins_L61_2 F p0 p1 f_t_now v50 k N (1 : Int) (v58 + (1 : Int)) else sh_X9_origins_L61_2 F p0 p1 f_t_now v50 k N (0 : Int) (v58 + (1 : Int))))))))))) else k v57 v58))
def sh_X9_origins_L46_2 (F : Nat) (p0 : Int) (p1 : Int) (c_t_high : Int) (c_t_wide : Int) (f_t_now : Nat → Int) (k : Int → Int → Option (Int × Int)) : Nat → Int → Int → Option (Int × Int)
  | 0, _, _ => none
  | N + 1, v49, v50 => (sh_X9_points F c_t_high c_t_wide).bind (fun (q51 : Int) => zkr v50 (zkr q51 (if v50 < q51 then sh_X9_origins_L61_2 F p0 p1 f_t_now v50 (fun (v72 : Int) (v73 : Int) => zkr v72 (if v72 = (0 : Int) then sh_X9_origins_L46_2 F p0 p1 c_t_high c_t_wide f_t_now k N (zor v49 (0 : Int)) (v50 + (1 : Int)) else sh_X9_origins_L46_2 F p0 p1 c_t_high c_t_wide f_t_now k N (zor v49 (zshl (1 : Int) v50)) (v50 + (1 : Int)))) F (1 : Int) (0 : Int) else k v49 v50)))
def sh_X9_origins_L61_3 (F : Nat) (p0 : Int) (p1 : Int) (f_t_now : Nat → Int) (v83 : Int) (k : Int → Int → Option (Int × Int)) : Nat → Int → Int → Option (Int × Int)
  | 0, _, _ => none
  | N + 1, v90, v91 => zkr v91 (zkr p0 (if v91 < p0 then zkr v90 (if v90 = (0 : Int) then sh_X9_origins_L61_3 F p0 p1 f_t_now v83 k N (0 : Int) (v91 + (1 : Int)) else (sh_X9_gradeOf F f_t_now 243 (0 : Int) v83 v91).bind (fun (q95 : Int) => zkr q95 (zkr p1 ((sh_X9_tens F ((p0 - (1 : Int)) - v91)).bind (fun (q99 : Int) => zkl q99 (zkc (¬ q99 = 0) (zkl (zdiv p1 q99) (zkl (zmod (zdiv p1 q99) (10 : Int)) (if q95 = (zmod (zdiv p1 q99) (10 : Int)) then sh_X9_origins_L61_3 F p0 p1 f_t_now v83 k N (1 : Int) (v91 + (1 : Int)) else sh_X9_origins_L61_3 F p0 p1 f_t_now v83 k N (0 : Int) (v91 + (1 : Int))))))))))) else k v90 v91))
def sh_X9_origins_L46_3 (F : Nat) (p0 : Int) (p1 : Int) (c_t_high : Int) (c_t_wide : Int) (f_t_now : Nat → Int) (k : Int → Int → Option (Int × Int)) : Nat → Int → Int → Option (Int × Int)
  | 0, _, _ => none
  | N + 1, v82, v83 => (sh_X9_points F c_t_high c_t_wide).bind (fun (q84 : Int) => zkr v83 (zkr q84 (if v83 < q84 then sh_X9_origins_L61_3 F p0 p1 f_t_now v83 (fun (v105 : Int) (v106 : Int) => zkr v105 (if v105 = (0 : Int) then sh_X9_origins_L46_3 F p0 p1 c_t_high c_t_wide f_t_now k N (zor v82 (0 : Int)) (v83 + (1 : Int)) else sh_X9_origins_L46_3 F p0 p1 c_t_high c_t_wide f_t_now k N (zor v82 (zshl (1 : Int) v83)) (v83 + (1 : Int)))) F (1 : Int) (0 : Int) else k v82 v83)))
def sh_X9_origins (F : Nat) (c_t_high : Int) (c_t_wide : Int) (f_t_now : Nat → Int) (p0 : Int) (p1 : Int) : Option (Int × Int) := zkr p0 ((sh_X9_in F p0 (1 : Int) (9 : Int)).bind (fun (q2 : Int) => zkr q2 (if q2 = (0 : Int) then (sh_X9_refused F (1 : Int)).bind (fun (q5 : Int × Int) => zkr q5.1 (if q5.1 = (0 : Int) then sh_X9_origins_L46 F p0 p1 c_t_high c_t_wide f_t_now (fun (v36 : Int) (v37 : Int) => some (v36, q5.2)) F (0 : Int) (0 : Int) else some ((0 : Int), q5.2))) else zkr p1 ((sh_X9_tens F p0).bind (fun (q39 : Int) => (sh_X9_in F p1 (0 : Int) (q39 - (1 : Int))).bind (fun (q41 : Int) => zkr q41 (if q41 = (0 : Int) then (sh_X9_refused F (1 : Int)).bind (fun (q44 : Int × Int) => zkr q44.1 (if q44.1 = (0 : Int) then sh_X9_origins_L46_2 F p0 p1 c_t_high c_t_wide f_t_now (fun (v75 : Int) (v76 : Int) => some (v75, q44.2)) F (0 : Int) (0 : Int) else some ((0 : Int), q44.2))) else (sh_X9_refused F (0 : Int)).bind (fun (q77 : Int × Int) => zkr q77.1 (if q77.1 = (0 : Int) then sh_X9_origins_L46_3 F p0 p1 c_t_high c_t_wide f_t_now (fun (v108 : Int) (v109 : Int) => some (v108, q77.2)) F (0 : Int) (0 : Int) else some ((0 : Int), q77.2))))))))))
theorem mX9_origins_k151 : Cond.constantLong RX9 151 (9) ∈ wsX9_origins := List.mem_of_getElem? (i := 1) rfl
theorem mX9_origins_f16 : Cond.fieldLink RX9 16 (TX9 3).1 (TX9 3).2.1 (TX9 3).2.2.1 ∈ wsX9_origins := List.mem_of_getElem? (i := 2) rfl
theorem iX9_origins_X9 : ∀ w ∈ wsX90, w ∈ wsX9_origins := fun _ h => (List.mem_cons_of_mem _ (List.mem_append_right _ h))
theorem mX9_origins_k171 : Cond.constantLong RX9 171 (10) ∈ wsX9_origins := List.mem_of_getElem? (i := 3) rfl
set_option maxRecDepth 100000 in
set_option maxHeartbeats 4000000 in
theorem zl_X9_origins_L61 {p : Program} {l : Launch} {e : Env} {s : State} {m : MethodId} {args : Array Value} {below : List Frame} {meth : Method} {c : Code} {A : Nat → Prop} {D : va_G} {J : Nat → ClassId} {F : Nat} {p0 : Int} {p1 : Int} {f_t_now : Nat → Int} {v11 : Int} {a_t : Nat} {q5 : Int × Int} {c_t_high : Int} {c_t_wide : Int} {a_t_now : Nat} {a_t_trial : Nat} {a_t_diary : Nat} {c_t_acts : Int} {c_t_next : Int} {a_t_kept : Nat} {a_t_isKept : Nat} {a_t_script : Nat} {c_t_scriptSize : Int} {c_t_spot : Int} {a_t_read : Nat} {c_t_readHigh : Int} {c_t_readWide : Int} {a_t_wanted : Nat} {a_t_level : Nat} {a_t_chosen : Nat} {a_t_best : Nat} {v10 : Int} {res : Int × Int} {k : Int → Int → Option (Int × Int)} (hk : ∀ (v18' : Int) (v19' : Int), k v18' v19' = some res → Z p l e ({ frames := 1, cells := 0, slots := 0, locals := 26 } : Room) s m args below meth c (MQ below (zQ D J A (fun rv w9 => rv = some (.int (zi res.1)) ∧ w9 = [(a_t, .inr (8, [.int (zi res.2), .int (zi c_t_high), .int (zi c_t_wide), .ref a_t_now, .ref a_t_trial, .ref a_t_diary, .int (zi c_t_acts), .int (zi c_t_next), .ref a_t_kept, .ref a_t_isKept, .ref a_t_script, .int (zi c_t_scriptSize), .int (zi c_t_spot), .ref a_t_read, .int (zi c_t_readHigh), .int (zi c_t_readWide), .ref a_t_wanted, .ref a_t_level, .ref a_t_chosen, .ref a_t_best])), (a_t_now, zI J 243 f_t_now)])) args s 0 0 A) cX9_origins 7 wsX9_origins RX9 D J A (some .int) (yX9_origins.name, []) 0 0 [(a_t, .inr (8, [.int (zi q5.2), .int (zi c_t_high), .int (zi c_t_wide), .ref a_t_now, .ref a_t_trial, .ref a_t_diary, .int (zi c_t_acts), .int (zi c_t_next), .ref a_t_kept, .ref a_t_isKept, .ref a_t_script, .int (zi c_t_scriptSize), .int (zi c_t_spot), .ref a_t_read, .int (zi c_t_readHigh), .int (zi c_t_readWide), .ref a_t_wanted, .ref a_t_level, .ref a_t_chosen, .ref a_t_best])), (a_t_now, zI J 243 f_t_now)] [(0, .ref a_t), (1, .int (zi p0)), (2, .int (zi p1)), (3, .int (zi v10)), (4, .int (zi v11)), (5, .int (zi v18'))] 118 []) : ∀ (N : Nat) (v18 : Int) (v19 : Int), sh_X9_origins_L61 F p0 p1 f_t_now v11 k N v18 v19 = some res → Z p l e ({ frames := 1, cells := 0, slots := 0, locals := 26 } : Room) s m args below meth c (MQ below (zQ D J A (fun rv w9 => rv = some (.int (zi res.1)) ∧ w9 = [(a_t, .inr (8, [.int (zi res.2), .int (zi c_t_high), .int (zi c_t_wide), .ref a_t_now, .ref a_t_trial, .ref a_t_diary, .int (zi c_t_acts), .int (zi c_t_next), .ref a_t_kept, .ref a_t_isKept, .ref a_t_script, .int (zi c_t_scriptSize), .int (zi c_t_spot), .ref a_t_read, .int (zi c_t_readHigh), .int (zi c_t_readWide), .ref a_t_wanted, .ref a_t_level, .ref a_t_chosen, .ref a_t_best])), (a_t_now, zI J 243 f_t_now)])) args s 0 0 A) cX9_origins 7 wsX9_origins RX9 D J A (some .int) (yX9_origins.name, []) 0 0 [(a_t, .inr (8, [.int (zi q5.2), .int (zi c_t_high), .int (zi c_t_wide), .ref a_t_now, .ref a_t_trial, .ref a_t_diary, .int (zi c_t_acts), .int (zi c_t_next), .ref a_t_kept, .ref a_t_isKept, .ref a_t_script, .int (zi c_t_scriptSize), .int (zi c_t_spot), .ref a_t_read, .int (zi c_t_readHigh), .int (zi c_t_readWide), .ref a_t_wanted, .ref a_t_level, .ref a_t_chosen, .ref a_t_best])), (a_t_now, zI J 243 f_t_now)] [(0, .ref a_t), (1, .int (zi p0)), (2, .int (zi p1)), (3, .int (zi v10)), (4, .int (zi v11)), (5, .int (zi v18)), (6, .int (zi v19))] 61 [] := by
  intro N
  induction N with
  | zero =>
    intro v18 v19 hsh
    exact absurd hsh (by simp [sh_X9_origins_L61])
  | succ N ih =>
    intro v18 v19 hsh
    rw [sh_X9_origins_L61] at hsh
    refine z_iload (pc' := 63) 6 dX9_origins_61 rfl rfl ?_
    refine z_iload_n (pc' := 64) 1 dX9_origins_63 rfl rfl rfl ?_
    have g20 := zkr_p hsh
    replace hsh := zkr_k hsh
    have g21 := zkr_p hsh
    replace hsh := zkr_k hsh
    refine z_icmp_ge (pc' := 67) (tgt := 118) dX9_origins_64 (by decide) g20 g21 rfl (fun q => ?_) (fun q => ?_)
    · replace hsh := zif_f q hsh
      refine z_perm [(a_t, .inr (8, [.int (zi q5.2), .int (zi c_t_high), .int (zi c_t_wide), .ref a_t_now, .ref a_t_trial, .ref a_t_diary, .int (zi c_t_acts), .int (zi c_t_next), .ref a_t_kept, .ref a_t_isKept, .ref a_t_script, .int (zi c_t_scriptSize), .int (zi c_t_spot), .ref a_t_read, .int (zi c_t_readHigh), .int (zi c_t_readWide), .ref a_t_wanted, .ref a_t_level, .ref a_t_chosen, .ref a_t_best])), (a_t_now, zI J 243 f_t_now)] [(0, .ref a_t), (1, .int (zi p0)), (2, .int (zi p1)), (3, .int (zi v10)), (4, .int (zi v11)), (5, .int (zi v18))] [0, 1] [0, 1, 2, 3, 4, 5] rfl rfl rfl ?_
      exact hk _ _ hsh
    · replace hsh := zif_t q hsh
      refine z_iload (pc' := 69) 5 dX9_origins_67 rfl rfl ?_
      have g22 := zkr_p hsh
      replace hsh := zkr_k hsh
      refine z_if_eq (pc' := 72) (tgt := 109) dX9_origins_69 (by decide) g22 rfl (fun q => ?_) (fun q => ?_)
      · replace hsh := zif_t q hsh
        refine z_iconst (pc' := 110) dX9_origins_109 rfl ?_
        refine z_istore (pc' := 112) [(5, .int (zi (0 : Int))), (0, .ref a_t), (1, .int (zi p0)), (2, .int (zi p1)), (3, .int (zi v10)), (4, .int (zi v11)), (6, .int (zi v19))] dX9_origins_110 (by decide) rfl rfl ?_
        refine z_iinc (pc' := 115) [(6, .int (zi (v19 + (1 : Int)))), (5, .int (zi (0 : Int))), (0, .ref a_t), (1, .int (zi p0)), (2, .int (zi p1)), (3, .int (zi v10)), (4, .int (zi v11))] 6 dX9_origins_112 rfl (by decide) rfl rfl ?_
        refine z_goto (tgt := 61) dX9_origins_115 (by decide) ?_
        refine z_perm [(a_t, .inr (8, [.int (zi q5.2), .int (zi c_t_high), .int (zi c_t_wide), .ref a_t_now, .ref a_t_trial, .ref a_t_diary, .int (zi c_t_acts), .int (zi c_t_next), .ref a_t_kept, .ref a_t_isKept, .ref a_t_script, .int (zi c_t_scriptSize), .int (zi c_t_spot), .ref a_t_read, .int (zi c_t_readHigh), .int (zi c_t_readWide), .ref a_t_wanted, .ref a_t_level, .ref a_t_chosen, .ref a_t_best])), (a_t_now, zI J 243 f_t_now)] [(0, .ref a_t), (1, .int (zi p0)), (2, .int (zi p1)), (3, .int (zi v10)), (4, .int (zi v11)), (5, .int (zi (0 : Int))), (6, .int (zi (v19 + (1 : Int))))] [0, 1] [2, 3, 4, 5, 6, 1, 0] rfl rfl rfl ?_
        exact ih _ _ hsh
      · replace hsh := zif_f q hsh
        refine z_aload_n (pc' := 73) 0 dX9_origins_72 rfl rfl rfl ?_
        refine z_getfield (pc' := 76) (C := RX9) (T := TX9) (N := 20) 0 3 dX9_origins_73 iX9_origins_X9 rfl rfl (by decide) mX9_origins_f16 rfl rfl ?_
        refine z_iconst (pc' := 77) dX9_origins_76 rfl ?_
        refine z_iload (pc' := 79) 4 dX9_origins_77 rfl rfl ?_
        refine z_iload (pc' := 81) 6 dX9_origins_79 rfl rfl ?_
        obtain ⟨q23, h24, hsh⟩ := zbind hsh
        refine z_callS (pc' := 84) (As := [.ref a_t_now, .int (zi (0 : Int)), .int (zi v11), .int (zi v19)]) (rest := []) (wr := [(a_t, .inr (8, [.int (zi q5.2), .int (zi c_t_high), .int (zi c_t_wide), .ref a_t_now, .ref a_t_trial, .ref a_t_diary, .int (zi c_t_acts), .int (zi c_t_next), .ref a_t_kept, .ref a_t_isKept, .ref a_t_script, .int (zi c_t_scriptSize), .int (zi c_t_spot), .ref a_t_read, .int (zi c_t_readHigh), .int (zi c_t_readWide), .ref a_t_wanted, .ref a_t_level, .ref a_t_chosen, .ref a_t_best]))]) 4 (zc_X9_gradeOf l D J F (a_p0 := a_t_now) (f_p0 := f_t_now) (n_p0 := 243) (p1 := (0 : Int)) (p2 := v11) (p3 := v19) (hn_p0 := (by decide)) q23 h24) dX9_origins_81 gX9_origins_X9_gradeOf rfl rfl rfl (by decide +kernel) ⟨Nat.le_of_ble_eq_true rfl, Nat.le_of_ble_eq_true rfl⟩ ⟨Nat.le_of_ble_eq_true rfl, Nat.le_of_ble_eq_true rfl⟩ (z_spl_of [1, 0] rfl rfl) rfl rfl (Nat.le_of_ble_eq_true rfl) rfl (fun rv w9 hq => ?_)
        obtain ⟨rfl, rfl⟩ := hq
        refine z_ws [(a_t, .inr (8, [.int (zi q5.2), .int (zi c_t_high), .int (zi c_t_wide), .ref a_t_now, .ref a_t_trial, .ref a_t_diary, .int (zi c_t_acts), .int (zi c_t_next), .ref a_t_kept, .ref a_t_isKept, .ref a_t_script, .int (zi c_t_scriptSize), .int (zi c_t_spot), .ref a_t_read, .int (zi c_t_readHigh), .int (zi c_t_readWide), .ref a_t_wanted, .ref a_t_level, .ref a_t_chosen, .ref a_t_best])), (a_t_now, zI J 243 f_t_now)] rfl ?_
        have g25 := zkr_p hsh
        replace hsh := zkr_k hsh
        refine z_i2l (pc' := 85) dX9_origins_84 g25 rfl ?_
        refine z_iload_n (pc' := 86) 2 dX9_origins_85 rfl rfl rfl ?_
        have g26 := zkr_p hsh
        replace hsh := zkr_k hsh
        refine z_i2l (pc' := 87) dX9_origins_86 g26 rfl ?_
        refine z_iload_n (pc' := 88) 1 dX9_origins_87 rfl rfl rfl ?_
        refine z_iconst (pc' := 89) dX9_origins_88 rfl ?_
        refine z_isub (pc' := 90) dX9_origins_89 rfl ?_
        refine z_iload (pc' := 92) 6 dX9_origins_90 rfl rfl ?_
        refine z_isub (pc' := 93) dX9_origins_92 rfl ?_
        obtain ⟨q27, h28, hsh⟩ := zbind hsh
        refine z_callS (pc' := 96) (As := [.int (zi ((p0 - (1 : Int)) - v19))]) (rest := [.long (zl p1), .long (zl q23)]) (wr := [(a_t, .inr (8, [.int (zi q5.2), .int (zi c_t_high), .int (zi c_t_wide), .ref a_t_now, .ref a_t_trial, .ref a_t_diary, .int (zi c_t_acts), .int (zi c_t_next), .ref a_t_kept, .ref a_t_isKept, .ref a_t_script, .int (zi c_t_scriptSize), .int (zi c_t_spot), .ref a_t_read, .int (zi c_t_readHigh), .int (zi c_t_readWide), .ref a_t_wanted, .ref a_t_level, .ref a_t_chosen, .ref a_t_best])), (a_t_now, zI J 243 f_t_now)]) 1 (zc_X9_tens l D J F (p0 := ((p0 - (1 : Int)) - v19))  q27 h28) dX9_origins_93 gX9_origins_X9_tens rfl rfl rfl (by decide +kernel) ⟨Nat.le_of_ble_eq_true rfl, Nat.le_of_ble_eq_true rfl⟩ ⟨Nat.le_of_ble_eq_true rfl, Nat.le_of_ble_eq_true rfl⟩ (z_spl_of [0, 1] rfl rfl) rfl rfl (Nat.le_of_ble_eq_true rfl) rfl (fun rv w9 hq => ?_)
        obtain ⟨rfl, rfl⟩ := hq
        refine z_ws [(a_t, .inr (8, [.int (zi q5.2), .int (zi c_t_high), .int (zi c_t_wide), .ref a_t_now, .ref a_t_trial, .ref a_t_diary, .int (zi c_t_acts), .int (zi c_t_next), .ref a_t_kept, .ref a_t_isKept, .ref a_t_script, .int (zi c_t_scriptSize), .int (zi c_t_spot), .ref a_t_read, .int (zi c_t_readHigh), .int (zi c_t_readWide), .ref a_t_wanted, .ref a_t_level, .ref a_t_chosen, .ref a_t_best])), (a_t_now, zI J 243 f_t_now)] rfl ?_
        have g29 := zkl_p hsh
        replace hsh := zkl_k hsh
        have g30 := zkc_p hsh
        replace hsh := zkc_k hsh
        refine z_ldiv (pc' := 97) dX9_origins_96 (zr_l g26) g29 g30 rfl ?_
        refine z_ldc2 (pc' := 100) (10 : Int) dX9_origins_97 mX9_origins_k171 (by decide) rfl ?_
        have g31 := zkl_p hsh
        replace hsh := zkl_k hsh
        refine z_lrem (pc' := 101) dX9_origins_100 g31 (by decide) (by decide) rfl ?_
        have g32 := zkl_p hsh
        replace hsh := zkl_k hsh
        refine z_lcmp_ne (pc' := 105) (tgt := 109) dX9_origins_101 dX9_origins_102 (by decide) (zr_l g25) g32 rfl (fun q => ?_) (fun q => ?_)
        · replace hsh := zif_f q hsh
          refine z_iconst (pc' := 110) dX9_origins_109 rfl ?_
          refine z_istore (pc' := 112) [(5, .int (zi (0 : Int))), (0, .ref a_t), (1, .int (zi p0)), (2, .int (zi p1)), (3, .int (zi v10)), (4, .int (zi v11)), (6, .int (zi v19))] dX9_origins_110 (by decide) rfl rfl ?_
          refine z_iinc (pc' := 115) [(6, .int (zi (v19 + (1 : Int)))), (5, .int (zi (0 : Int))), (0, .ref a_t), (1, .int (zi p0)), (2, .int (zi p1)), (3, .int (zi v10)), (4, .int (zi v11))] 6 dX9_origins_112 rfl (by decide) rfl rfl ?_
          refine z_goto (tgt := 61) dX9_origins_115 (by decide) ?_
          refine z_perm [(a_t, .inr (8, [.int (zi q5.2), .int (zi c_t_high), .int (zi c_t_wide), .ref a_t_now, .ref a_t_trial, .ref a_t_diary, .int (zi c_t_acts), .int (zi c_t_next), .ref a_t_kept, .ref a_t_isKept, .ref a_t_script, .int (zi c_t_scriptSize), .int (zi c_t_spot), .ref a_t_read, .int (zi c_t_readHigh), .int (zi c_t_readWide), .ref a_t_wanted, .ref a_t_level, .ref a_t_chosen, .ref a_t_best])), (a_t_now, zI J 243 f_t_now)] [(0, .ref a_t), (1, .int (zi p0)), (2, .int (zi p1)), (3, .int (zi v10)), (4, .int (zi v11)), (5, .int (zi (0 : Int))), (6, .int (zi (v19 + (1 : Int))))] [0, 1] [2, 3, 4, 5, 6, 1, 0] rfl rfl rfl ?_
          exact ih _ _ hsh
        · replace hsh := zif_t q hsh
          refine z_iconst (pc' := 106) dX9_origins_105 rfl ?_
          refine z_goto (tgt := 110) dX9_origins_106 (by decide) ?_
          refine z_istore (pc' := 112) [(5, .int (zi (1 : Int))), (0, .ref a_t), (1, .int (zi p0)), (2, .int (zi p1)), (3, .int (zi v10)), (4, .int (zi v11)), (6, .int (zi v19))] dX9_origins_110 (by decide) rfl rfl ?_
          refine z_iinc (pc' := 115) [(6, .int (zi (v19 + (1 : Int)))), (5, .int (zi (1 : Int))), (0, .ref a_t), (1, .int (zi p0)), (2, .int (zi p1)), (3, .int (zi v10)), (4, .int (zi v11))] 6 dX9_origins_112 rfl (by decide) rfl rfl ?_
          refine z_goto (tgt := 61) dX9_origins_115 (by decide) ?_
          refine z_perm [(a_t, .inr (8, [.int (zi q5.2), .int (zi c_t_high), .int (zi c_t_wide), .ref a_t_now, .ref a_t_trial, .ref a_t_diary, .int (zi c_t_acts), .int (zi c_t_next), .ref a_t_kept, .ref a_t_isKept, .ref a_t_script, .int (zi c_t_scriptSize), .int (zi c_t_spot), .ref a_t_read, .int (zi c_t_readHigh), .int (zi c_t_readWide), .ref a_t_wanted, .ref a_t_level, .ref a_t_chosen, .ref a_t_best])), (a_t_now, zI J 243 f_t_now)] [(0, .ref a_t), (1, .int (zi p0)), (2, .int (zi p1)), (3, .int (zi v10)), (4, .int (zi v11)), (5, .int (zi (1 : Int))), (6, .int (zi (v19 + (1 : Int))))] [0, 1] [2, 3, 4, 5, 6, 1, 0] rfl rfl rfl ?_
          exact ih _ _ hsh
set_option maxRecDepth 100000 in
set_option maxHeartbeats 4000000 in
theorem zl_X9_origins_L46 {p : Program} {l : Launch} {e : Env} {s : State} {m : MethodId} {args : Array Value} {below : List Frame} {meth : Method} {c : Code} {A : Nat → Prop} {D : va_G} {J : Nat → ClassId} {F : Nat} {p0 : Int} {p1 : Int} {c_t_high : Int} {c_t_wide : Int} {f_t_now : Nat → Int} {a_t : Nat} {q5 : Int × Int} {a_t_now : Nat} {a_t_trial : Nat} {a_t_diary : Nat} {c_t_acts : Int} {c_t_next : Int} {a_t_kept : Nat} {a_t_isKept : Nat} {a_t_script : Nat} {c_t_scriptSize : Int} {c_t_spot : Int} {a_t_read : Nat} {c_t_readHigh : Int} {c_t_readWide : Int} {a_t_wanted : Nat} {a_t_level : Nat} {a_t_chosen : Nat} {a_t_best : Nat} {res : Int × Int} {k : Int → Int → Option (Int × Int)} (hk : ∀ (v10' : Int) (v11' : Int), k v10' v11' = some res → Z p l e ({ frames := 1, cells := 0, slots := 0, locals := 26 } : Room) s m args below meth c (MQ below (zQ D J A (fun rv w9 => rv = some (.int (zi res.1)) ∧ w9 = [(a_t, .inr (8, [.int (zi res.2), .int (zi c_t_high), .int (zi c_t_wide), .ref a_t_now, .ref a_t_trial, .ref a_t_diary, .int (zi c_t_acts), .int (zi c_t_next), .ref a_t_kept, .ref a_t_isKept, .ref a_t_script, .int (zi c_t_scriptSize), .int (zi c_t_spot), .ref a_t_read, .int (zi c_t_readHigh), .int (zi c_t_readWide), .ref a_t_wanted, .ref a_t_level, .ref a_t_chosen, .ref a_t_best])), (a_t_now, zI J 243 f_t_now)])) args s 0 0 A) cX9_origins 7 wsX9_origins RX9 D J A (some .int) (yX9_origins.name, []) 0 0 [(a_t, .inr (8, [.int (zi q5.2), .int (zi c_t_high), .int (zi c_t_wide), .ref a_t_now, .ref a_t_trial, .ref a_t_diary, .int (zi c_t_acts), .int (zi c_t_next), .ref a_t_kept, .ref a_t_isKept, .ref a_t_script, .int (zi c_t_scriptSize), .int (zi c_t_spot), .ref a_t_read, .int (zi c_t_readHigh), .int (zi c_t_readWide), .ref a_t_wanted, .ref a_t_level, .ref a_t_chosen, .ref a_t_best])), (a_t_now, zI J 243 f_t_now)] [(3, .int (zi v10'))] 140 []) : ∀ (N : Nat) (v10 : Int) (v11 : Int), sh_X9_origins_L46 F p0 p1 c_t_high c_t_wide f_t_now k N v10 v11 = some res → Z p l e ({ frames := 1, cells := 0, slots := 0, locals := 26 } : Room) s m args below meth c (MQ below (zQ D J A (fun rv w9 => rv = some (.int (zi res.1)) ∧ w9 = [(a_t, .inr (8, [.int (zi res.2), .int (zi c_t_high), .int (zi c_t_wide), .ref a_t_now, .ref a_t_trial, .ref a_t_diary, .int (zi c_t_acts), .int (zi c_t_next), .ref a_t_kept, .ref a_t_isKept, .ref a_t_script, .int (zi c_t_scriptSize), .int (zi c_t_spot), .ref a_t_read, .int (zi c_t_readHigh), .int (zi c_t_readWide), .ref a_t_wanted, .ref a_t_level, .ref a_t_chosen, .ref a_t_best])), (a_t_now, zI J 243 f_t_now)])) args s 0 0 A) cX9_origins 7 wsX9_origins RX9 D J A (some .int) (yX9_origins.name, []) 0 0 [(a_t, .inr (8, [.int (zi q5.2), .int (zi c_t_high), .int (zi c_t_wide), .ref a_t_now, .ref a_t_trial, .ref a_t_diary, .int (zi c_t_acts), .int (zi c_t_next), .ref a_t_kept, .ref a_t_isKept, .ref a_t_script, .int (zi c_t_scriptSize), .int (zi c_t_spot), .ref a_t_read, .int (zi c_t_readHigh), .int (zi c_t_readWide), .ref a_t_wanted, .ref a_t_level, .ref a_t_chosen, .ref a_t_best])), (a_t_now, zI J 243 f_t_now)] [(0, .ref a_t), (1, .int (zi p0)), (2, .int (zi p1)), (3, .int (zi v10)), (4, .int (zi v11))] 46 [] := by
  intro N
  induction N with
  | zero =>
    intro v10 v11 hsh
    exact absurd hsh (by simp [sh_X9_origins_L46])
  | succ N ih =>
    intro v10 v11 hsh
    rw [sh_X9_origins_L46] at hsh
    refine z_iload (pc' := 48) 4 dX9_origins_46 rfl rfl ?_
    refine z_aload_n (pc' := 49) 0 dX9_origins_48 rfl rfl rfl ?_
    obtain ⟨q12, h13, hsh⟩ := zbind hsh
    refine z_callV (pc' := 52) (C := RX9) (As := []) (rest := [.int (zi v11)]) (wr := [(a_t_now, zI J 243 f_t_now)]) 0 (zc_X9_points l D J F (a_t := a_t) (a_t_now := a_t_now) (a_t_trial := a_t_trial) (a_t_diary := a_t_diary) (a_t_kept := a_t_kept) (a_t_isKept := a_t_isKept) (a_t_script := a_t_script) (a_t_read := a_t_read) (a_t_wanted := a_t_wanted) (a_t_level := a_t_level) (a_t_chosen := a_t_chosen) (a_t_best := a_t_best) (c_t_refusal := q5.2) (c_t_high := c_t_high) (c_t_wide := c_t_wide) (c_t_acts := c_t_acts) (c_t_next := c_t_next) (c_t_scriptSize := c_t_scriptSize) (c_t_spot := c_t_spot) (c_t_readHigh := c_t_readHigh) (c_t_readWide := c_t_readWide)  q12 h13) dX9_origins_49 gX9_origins_X9_points rfl rfl rfl (by decide +kernel) ⟨Nat.le_of_ble_eq_true rfl, Nat.le_of_ble_eq_true rfl⟩ ⟨Nat.le_of_ble_eq_true rfl, Nat.le_of_ble_eq_true rfl⟩ (z_spl_of [0, 1] rfl rfl) rfl rfl rfl rfl (Nat.le_of_ble_eq_true rfl) rfl (fun rv w9 hq => ?_)
    obtain ⟨rfl, rfl⟩ := hq
    refine z_ws [(a_t_now, zI J 243 f_t_now), (a_t, .inr (8, [.int (zi q5.2), .int (zi c_t_high), .int (zi c_t_wide), .ref a_t_now, .ref a_t_trial, .ref a_t_diary, .int (zi c_t_acts), .int (zi c_t_next), .ref a_t_kept, .ref a_t_isKept, .ref a_t_script, .int (zi c_t_scriptSize), .int (zi c_t_spot), .ref a_t_read, .int (zi c_t_readHigh), .int (zi c_t_readWide), .ref a_t_wanted, .ref a_t_level, .ref a_t_chosen, .ref a_t_best]))] rfl ?_
    have g14 := zkr_p hsh
    replace hsh := zkr_k hsh
    have g15 := zkr_p hsh
    replace hsh := zkr_k hsh
    refine z_icmp_ge (pc' := 55) (tgt := 140) dX9_origins_52 (by decide) g14 g15 rfl (fun q => ?_) (fun q => ?_)
    · replace hsh := zif_f q hsh
      refine z_perm [(a_t, .inr (8, [.int (zi q5.2), .int (zi c_t_high), .int (zi c_t_wide), .ref a_t_now, .ref a_t_trial, .ref a_t_diary, .int (zi c_t_acts), .int (zi c_t_next), .ref a_t_kept, .ref a_t_isKept, .ref a_t_script, .int (zi c_t_scriptSize), .int (zi c_t_spot), .ref a_t_read, .int (zi c_t_readHigh), .int (zi c_t_readWide), .ref a_t_wanted, .ref a_t_level, .ref a_t_chosen, .ref a_t_best])), (a_t_now, zI J 243 f_t_now)] [(3, .int (zi v10))] [1, 0] [3] rfl rfl rfl ?_
      exact hk _ _ hsh
    · replace hsh := zif_t q hsh
      refine z_iconst (pc' := 56) dX9_origins_55 rfl ?_
      refine z_istore (pc' := 58) [(5, .int (zi (1 : Int))), (0, .ref a_t), (1, .int (zi p0)), (2, .int (zi p1)), (3, .int (zi v10)), (4, .int (zi v11))] dX9_origins_56 (by decide) rfl rfl ?_
      refine z_iconst (pc' := 59) dX9_origins_58 rfl ?_
      refine z_istore (pc' := 61) [(6, .int (zi (0 : Int))), (5, .int (zi (1 : Int))), (0, .ref a_t), (1, .int (zi p0)), (2, .int (zi p1)), (3, .int (zi v10)), (4, .int (zi v11))] dX9_origins_59 (by decide) rfl rfl ?_
      refine z_perm [(a_t, .inr (8, [.int (zi q5.2), .int (zi c_t_high), .int (zi c_t_wide), .ref a_t_now, .ref a_t_trial, .ref a_t_diary, .int (zi c_t_acts), .int (zi c_t_next), .ref a_t_kept, .ref a_t_isKept, .ref a_t_script, .int (zi c_t_scriptSize), .int (zi c_t_spot), .ref a_t_read, .int (zi c_t_readHigh), .int (zi c_t_readWide), .ref a_t_wanted, .ref a_t_level, .ref a_t_chosen, .ref a_t_best])), (a_t_now, zI J 243 f_t_now)] [(0, .ref a_t), (1, .int (zi p0)), (2, .int (zi p1)), (3, .int (zi v10)), (4, .int (zi v11)), (5, .int (zi (1 : Int))), (6, .int (zi (0 : Int)))] [1, 0] [2, 3, 4, 5, 6, 1, 0] rfl rfl rfl ?_
      refine zl_X9_origins_L61 (F := F) (hk := fun v33 v34 hsh => ?_) _ _ _ hsh
      refine z_iload_n (pc' := 119) 3 dX9_origins_118 rfl rfl rfl ?_
      refine z_iload (pc' := 121) 5 dX9_origins_119 rfl rfl ?_
      have g35 := zkr_p hsh
      replace hsh := zkr_k hsh
      refine z_if_eq (pc' := 124) (tgt := 131) dX9_origins_121 (by decide) g35 rfl (fun q => ?_) (fun q => ?_)
      · replace hsh := zif_t q hsh
        refine z_iconst (pc' := 132) dX9_origins_131 rfl ?_
        refine z_ior (pc' := 133) dX9_origins_132 rfl ?_
        refine z_istore_n (pc' := 134) [(3, .int (zi (zor v10 (0 : Int)))), (0, .ref a_t), (1, .int (zi p0)), (2, .int (zi p1)), (4, .int (zi v11)), (5, .int (zi v33))] dX9_origins_133 rfl (by decide) rfl rfl ?_
        refine z_iinc (pc' := 137) [(4, .int (zi (v11 + (1 : Int)))), (3, .int (zi (zor v10 (0 : Int)))), (0, .ref a_t), (1, .int (zi p0)), (2, .int (zi p1)), (5, .int (zi v33))] 4 dX9_origins_134 rfl (by decide) rfl rfl ?_
        refine z_goto (tgt := 46) dX9_origins_137 (by decide) ?_
        refine z_perm [(a_t, .inr (8, [.int (zi q5.2), .int (zi c_t_high), .int (zi c_t_wide), .ref a_t_now, .ref a_t_trial, .ref a_t_diary, .int (zi c_t_acts), .int (zi c_t_next), .ref a_t_kept, .ref a_t_isKept, .ref a_t_script, .int (zi c_t_scriptSize), .int (zi c_t_spot), .ref a_t_read, .int (zi c_t_readHigh), .int (zi c_t_readWide), .ref a_t_wanted, .ref a_t_level, .ref a_t_chosen, .ref a_t_best])), (a_t_now, zI J 243 f_t_now)] [(0, .ref a_t), (1, .int (zi p0)), (2, .int (zi p1)), (3, .int (zi (zor v10 (0 : Int)))), (4, .int (zi (v11 + (1 : Int))))] [0, 1] [2, 3, 4, 1, 0] rfl rfl rfl ?_
        exact ih _ _ hsh
      · replace hsh := zif_f q hsh
        refine z_iconst (pc' := 125) dX9_origins_124 rfl ?_
        refine z_iload (pc' := 127) 4 dX9_origins_125 rfl rfl ?_
        refine z_ishl (pc' := 128) dX9_origins_127 rfl ?_
        refine z_goto (tgt := 132) dX9_origins_128 (by decide) ?_
        refine z_ior (pc' := 133) dX9_origins_132 rfl ?_
        refine z_istore_n (pc' := 134) [(3, .int (zi (zor v10 (zshl (1 : Int) v11)))), (0, .ref a_t), (1, .int (zi p0)), (2, .int (zi p1)), (4, .int (zi v11)), (5, .int (zi v33))] dX9_origins_133 rfl (by decide) rfl rfl ?_
        refine z_iinc (pc' := 137) [(4, .int (zi (v11 + (1 : Int)))), (3, .int (zi (zor v10 (zshl (1 : Int) v11)))), (0, .ref a_t), (1, .int (zi p0)), (2, .int (zi p1)), (5, .int (zi v33))] 4 dX9_origins_134 rfl (by decide) rfl rfl ?_
        refine z_goto (tgt := 46) dX9_origins_137 (by decide) ?_
        refine z_perm [(a_t, .inr (8, [.int (zi q5.2), .int (zi c_t_high), .int (zi c_t_wide), .ref a_t_now, .ref a_t_trial, .ref a_t_diary, .int (zi c_t_acts), .int (zi c_t_next), .ref a_t_kept, .ref a_t_isKept, .ref a_t_script, .int (zi c_t_scriptSize), .int (zi c_t_spot), .ref a_t_read, .int (zi c_t_readHigh), .int (zi c_t_readWide), .ref a_t_wanted, .ref a_t_level, .ref a_t_chosen, .ref a_t_best])), (a_t_now, zI J 243 f_t_now)] [(0, .ref a_t), (1, .int (zi p0)), (2, .int (zi p1)), (3, .int (zi (zor v10 (zshl (1 : Int) v11)))), (4, .int (zi (v11 + (1 : Int))))] [0, 1] [2, 3, 4, 1, 0] rfl rfl rfl ?_
        exact ih _ _ hsh
set_option maxRecDepth 100000 in
set_option maxHeartbeats 4000000 in
theorem zl_X9_origins_L61_2 {p : Program} {l : Launch} {e : Env} {s : State} {m : MethodId} {args : Array Value} {below : List Frame} {meth : Method} {c : Code} {A : Nat → Prop} {D : va_G} {J : Nat → ClassId} {F : Nat} {p0 : Int} {p1 : Int} {f_t_now : Nat → Int} {v50 : Int} {a_t : Nat} {q44 : Int × Int} {c_t_high : Int} {c_t_wide : Int} {a_t_now : Nat} {a_t_trial : Nat} {a_t_diary : Nat} {c_t_acts : Int} {c_t_next : Int} {a_t_kept : Nat} {a_t_isKept : Nat} {a_t_script : Nat} {c_t_scriptSize : Int} {c_t_spot : Int} {a_t_read : Nat} {c_t_readHigh : Int} {c_t_readWide : Int} {a_t_wanted : Nat} {a_t_level : Nat} {a_t_chosen : Nat} {a_t_best : Nat} {v49 : Int} {res : Int × Int} {k : Int → Int → Option (Int × Int)} (hk : ∀ (v57' : Int) (v58' : Int), k v57' v58' = some res → Z p l e ({ frames := 1, cells := 0, slots := 0, locals := 26 } : Room) s m args below meth c (MQ below (zQ D J A (fun rv w9 => rv = some (.int (zi res.1)) ∧ w9 = [(a_t, .inr (8, [.int (zi res.2), .int (zi c_t_high), .int (zi c_t_wide), .ref a_t_now, .ref a_t_trial, .ref a_t_diary, .int (zi c_t_acts), .int (zi c_t_next), .ref a_t_kept, .ref a_t_isKept, .ref a_t_script, .int (zi c_t_scriptSize), .int (zi c_t_spot), .ref a_t_read, .int (zi c_t_readHigh), .int (zi c_t_readWide), .ref a_t_wanted, .ref a_t_level, .ref a_t_chosen, .ref a_t_best])), (a_t_now, zI J 243 f_t_now)])) args s 0 0 A) cX9_origins 7 wsX9_origins RX9 D J A (some .int) (yX9_origins.name, []) 0 0 [(a_t, .inr (8, [.int (zi q44.2), .int (zi c_t_high), .int (zi c_t_wide), .ref a_t_now, .ref a_t_trial, .ref a_t_diary, .int (zi c_t_acts), .int (zi c_t_next), .ref a_t_kept, .ref a_t_isKept, .ref a_t_script, .int (zi c_t_scriptSize), .int (zi c_t_spot), .ref a_t_read, .int (zi c_t_readHigh), .int (zi c_t_readWide), .ref a_t_wanted, .ref a_t_level, .ref a_t_chosen, .ref a_t_best])), (a_t_now, zI J 243 f_t_now)] [(0, .ref a_t), (1, .int (zi p0)), (2, .int (zi p1)), (3, .int (zi v49)), (4, .int (zi v50)), (5, .int (zi v57'))] 118 []) : ∀ (N : Nat) (v57 : Int) (v58 : Int), sh_X9_origins_L61_2 F p0 p1 f_t_now v50 k N v57 v58 = some res → Z p l e ({ frames := 1, cells := 0, slots := 0, locals := 26 } : Room) s m args below meth c (MQ below (zQ D J A (fun rv w9 => rv = some (.int (zi res.1)) ∧ w9 = [(a_t, .inr (8, [.int (zi res.2), .int (zi c_t_high), .int (zi c_t_wide), .ref a_t_now, .ref a_t_trial, .ref a_t_diary, .int (zi c_t_acts), .int (zi c_t_next), .ref a_t_kept, .ref a_t_isKept, .ref a_t_script, .int (zi c_t_scriptSize), .int (zi c_t_spot), .ref a_t_read, .int (zi c_t_readHigh), .int (zi c_t_readWide), .ref a_t_wanted, .ref a_t_level, .ref a_t_chosen, .ref a_t_best])), (a_t_now, zI J 243 f_t_now)])) args s 0 0 A) cX9_origins 7 wsX9_origins RX9 D J A (some .int) (yX9_origins.name, []) 0 0 [(a_t, .inr (8, [.int (zi q44.2), .int (zi c_t_high), .int (zi c_t_wide), .ref a_t_now, .ref a_t_trial, .ref a_t_diary, .int (zi c_t_acts), .int (zi c_t_next), .ref a_t_kept, .ref a_t_isKept, .ref a_t_script, .int (zi c_t_scriptSize), .int (zi c_t_spot), .ref a_t_read, .int (zi c_t_readHigh), .int (zi c_t_readWide), .ref a_t_wanted, .ref a_t_level, .ref a_t_chosen, .ref a_t_best])), (a_t_now, zI J 243 f_t_now)] [(0, .ref a_t), (1, .int (zi p0)), (2, .int (zi p1)), (3, .int (zi v49)), (4, .int (zi v50)), (5, .int (zi v57)), (6, .int (zi v58))] 61 [] := by
  intro N
  induction N with
  | zero =>
    intro v57 v58 hsh
    exact absurd hsh (by simp [sh_X9_origins_L61_2])
  | succ N ih =>
    intro v57 v58 hsh
    rw [sh_X9_origins_L61_2] at hsh
    refine z_iload (pc' := 63) 6 dX9_origins_61 rfl rfl ?_
    refine z_iload_n (pc' := 64) 1 dX9_origins_63 rfl rfl rfl ?_
    have g59 := zkr_p hsh
    replace hsh := zkr_k hsh
    have g60 := zkr_p hsh
    replace hsh := zkr_k hsh
    refine z_icmp_ge (pc' := 67) (tgt := 118) dX9_origins_64 (by decide) g59 g60 rfl (fun q => ?_) (fun q => ?_)
    · replace hsh := zif_f q hsh
      refine z_perm [(a_t, .inr (8, [.int (zi q44.2), .int (zi c_t_high), .int (zi c_t_wide), .ref a_t_now, .ref a_t_trial, .ref a_t_diary, .int (zi c_t_acts), .int (zi c_t_next), .ref a_t_kept, .ref a_t_isKept, .ref a_t_script, .int (zi c_t_scriptSize), .int (zi c_t_spot), .ref a_t_read, .int (zi c_t_readHigh), .int (zi c_t_readWide), .ref a_t_wanted, .ref a_t_level, .ref a_t_chosen, .ref a_t_best])), (a_t_now, zI J 243 f_t_now)] [(0, .ref a_t), (1, .int (zi p0)), (2, .int (zi p1)), (3, .int (zi v49)), (4, .int (zi v50)), (5, .int (zi v57))] [0, 1] [0, 1, 2, 3, 4, 5] rfl rfl rfl ?_
      exact hk _ _ hsh
    · replace hsh := zif_t q hsh
      refine z_iload (pc' := 69) 5 dX9_origins_67 rfl rfl ?_
      have g61 := zkr_p hsh
      replace hsh := zkr_k hsh
      refine z_if_eq (pc' := 72) (tgt := 109) dX9_origins_69 (by decide) g61 rfl (fun q => ?_) (fun q => ?_)
      · replace hsh := zif_t q hsh
        refine z_iconst (pc' := 110) dX9_origins_109 rfl ?_
        refine z_istore (pc' := 112) [(5, .int (zi (0 : Int))), (0, .ref a_t), (1, .int (zi p0)), (2, .int (zi p1)), (3, .int (zi v49)), (4, .int (zi v50)), (6, .int (zi v58))] dX9_origins_110 (by decide) rfl rfl ?_
        refine z_iinc (pc' := 115) [(6, .int (zi (v58 + (1 : Int)))), (5, .int (zi (0 : Int))), (0, .ref a_t), (1, .int (zi p0)), (2, .int (zi p1)), (3, .int (zi v49)), (4, .int (zi v50))] 6 dX9_origins_112 rfl (by decide) rfl rfl ?_
        refine z_goto (tgt := 61) dX9_origins_115 (by decide) ?_
        refine z_perm [(a_t, .inr (8, [.int (zi q44.2), .int (zi c_t_high), .int (zi c_t_wide), .ref a_t_now, .ref a_t_trial, .ref a_t_diary, .int (zi c_t_acts), .int (zi c_t_next), .ref a_t_kept, .ref a_t_isKept, .ref a_t_script, .int (zi c_t_scriptSize), .int (zi c_t_spot), .ref a_t_read, .int (zi c_t_readHigh), .int (zi c_t_readWide), .ref a_t_wanted, .ref a_t_level, .ref a_t_chosen, .ref a_t_best])), (a_t_now, zI J 243 f_t_now)] [(0, .ref a_t), (1, .int (zi p0)), (2, .int (zi p1)), (3, .int (zi v49)), (4, .int (zi v50)), (5, .int (zi (0 : Int))), (6, .int (zi (v58 + (1 : Int))))] [0, 1] [2, 3, 4, 5, 6, 1, 0] rfl rfl rfl ?_
        exact ih _ _ hsh
      · replace hsh := zif_f q hsh
        refine z_aload_n (pc' := 73) 0 dX9_origins_72 rfl rfl rfl ?_
        refine z_getfield (pc' := 76) (C := RX9) (T := TX9) (N := 20) 0 3 dX9_origins_73 iX9_origins_X9 rfl rfl (by decide) mX9_origins_f16 rfl rfl ?_
        refine z_iconst (pc' := 77) dX9_origins_76 rfl ?_
        refine z_iload (pc' := 79) 4 dX9_origins_77 rfl rfl ?_
        refine z_iload (pc' := 81) 6 dX9_origins_79 rfl rfl ?_
        obtain ⟨q62, h63, hsh⟩ := zbind hsh
        refine z_callS (pc' := 84) (As := [.ref a_t_now, .int (zi (0 : Int)), .int (zi v50), .int (zi v58)]) (rest := []) (wr := [(a_t, .inr (8, [.int (zi q44.2), .int (zi c_t_high), .int (zi c_t_wide), .ref a_t_now, .ref a_t_trial, .ref a_t_diary, .int (zi c_t_acts), .int (zi c_t_next), .ref a_t_kept, .ref a_t_isKept, .ref a_t_script, .int (zi c_t_scriptSize), .int (zi c_t_spot), .ref a_t_read, .int (zi c_t_readHigh), .int (zi c_t_readWide), .ref a_t_wanted, .ref a_t_level, .ref a_t_chosen, .ref a_t_best]))]) 4 (zc_X9_gradeOf l D J F (a_p0 := a_t_now) (f_p0 := f_t_now) (n_p0 := 243) (p1 := (0 : Int)) (p2 := v50) (p3 := v58) (hn_p0 := (by decide)) q62 h63) dX9_origins_81 gX9_origins_X9_gradeOf rfl rfl rfl (by decide +kernel) ⟨Nat.le_of_ble_eq_true rfl, Nat.le_of_ble_eq_true rfl⟩ ⟨Nat.le_of_ble_eq_true rfl, Nat.le_of_ble_eq_true rfl⟩ (z_spl_of [1, 0] rfl rfl) rfl rfl (Nat.le_of_ble_eq_true rfl) rfl (fun rv w9 hq => ?_)
        obtain ⟨rfl, rfl⟩ := hq
        refine z_ws [(a_t, .inr (8, [.int (zi q44.2), .int (zi c_t_high), .int (zi c_t_wide), .ref a_t_now, .ref a_t_trial, .ref a_t_diary, .int (zi c_t_acts), .int (zi c_t_next), .ref a_t_kept, .ref a_t_isKept, .ref a_t_script, .int (zi c_t_scriptSize), .int (zi c_t_spot), .ref a_t_read, .int (zi c_t_readHigh), .int (zi c_t_readWide), .ref a_t_wanted, .ref a_t_level, .ref a_t_chosen, .ref a_t_best])), (a_t_now, zI J 243 f_t_now)] rfl ?_
        have g64 := zkr_p hsh
        replace hsh := zkr_k hsh
        refine z_i2l (pc' := 85) dX9_origins_84 g64 rfl ?_
        refine z_iload_n (pc' := 86) 2 dX9_origins_85 rfl rfl rfl ?_
        have g65 := zkr_p hsh
        replace hsh := zkr_k hsh
        refine z_i2l (pc' := 87) dX9_origins_86 g65 rfl ?_
        refine z_iload_n (pc' := 88) 1 dX9_origins_87 rfl rfl rfl ?_
        refine z_iconst (pc' := 89) dX9_origins_88 rfl ?_
        refine z_isub (pc' := 90) dX9_origins_89 rfl ?_
        refine z_iload (pc' := 92) 6 dX9_origins_90 rfl rfl ?_
        refine z_isub (pc' := 93) dX9_origins_92 rfl ?_
        obtain ⟨q66, h67, hsh⟩ := zbind hsh
        refine z_callS (pc' := 96) (As := [.int (zi ((p0 - (1 : Int)) - v58))]) (rest := [.long (zl p1), .long (zl q62)]) (wr := [(a_t, .inr (8, [.int (zi q44.2), .int (zi c_t_high), .int (zi c_t_wide), .ref a_t_now, .ref a_t_trial, .ref a_t_diary, .int (zi c_t_acts), .int (zi c_t_next), .ref a_t_kept, .ref a_t_isKept, .ref a_t_script, .int (zi c_t_scriptSize), .int (zi c_t_spot), .ref a_t_read, .int (zi c_t_readHigh), .int (zi c_t_readWide), .ref a_t_wanted, .ref a_t_level, .ref a_t_chosen, .ref a_t_best])), (a_t_now, zI J 243 f_t_now)]) 1 (zc_X9_tens l D J F (p0 := ((p0 - (1 : Int)) - v58))  q66 h67) dX9_origins_93 gX9_origins_X9_tens rfl rfl rfl (by decide +kernel) ⟨Nat.le_of_ble_eq_true rfl, Nat.le_of_ble_eq_true rfl⟩ ⟨Nat.le_of_ble_eq_true rfl, Nat.le_of_ble_eq_true rfl⟩ (z_spl_of [0, 1] rfl rfl) rfl rfl (Nat.le_of_ble_eq_true rfl) rfl (fun rv w9 hq => ?_)
        obtain ⟨rfl, rfl⟩ := hq
        refine z_ws [(a_t, .inr (8, [.int (zi q44.2), .int (zi c_t_high), .int (zi c_t_wide), .ref a_t_now, .ref a_t_trial, .ref a_t_diary, .int (zi c_t_acts), .int (zi c_t_next), .ref a_t_kept, .ref a_t_isKept, .ref a_t_script, .int (zi c_t_scriptSize), .int (zi c_t_spot), .ref a_t_read, .int (zi c_t_readHigh), .int (zi c_t_readWide), .ref a_t_wanted, .ref a_t_level, .ref a_t_chosen, .ref a_t_best])), (a_t_now, zI J 243 f_t_now)] rfl ?_
        have g68 := zkl_p hsh
        replace hsh := zkl_k hsh
        have g69 := zkc_p hsh
        replace hsh := zkc_k hsh
        refine z_ldiv (pc' := 97) dX9_origins_96 (zr_l g65) g68 g69 rfl ?_
        refine z_ldc2 (pc' := 100) (10 : Int) dX9_origins_97 mX9_origins_k171 (by decide) rfl ?_
        have g70 := zkl_p hsh
        replace hsh := zkl_k hsh
        refine z_lrem (pc' := 101) dX9_origins_100 g70 (by decide) (by decide) rfl ?_
        have g71 := zkl_p hsh
        replace hsh := zkl_k hsh
        refine z_lcmp_ne (pc' := 105) (tgt := 109) dX9_origins_101 dX9_origins_102 (by decide) (zr_l g64) g71 rfl (fun q => ?_) (fun q => ?_)
        · replace hsh := zif_f q hsh
          refine z_iconst (pc' := 110) dX9_origins_109 rfl ?_
          refine z_istore (pc' := 112) [(5, .int (zi (0 : Int))), (0, .ref a_t), (1, .int (zi p0)), (2, .int (zi p1)), (3, .int (zi v49)), (4, .int (zi v50)), (6, .int (zi v58))] dX9_origins_110 (by decide) rfl rfl ?_
          refine z_iinc (pc' := 115) [(6, .int (zi (v58 + (1 : Int)))), (5, .int (zi (0 : Int))), (0, .ref a_t), (1, .int (zi p0)), (2, .int (zi p1)), (3, .int (zi v49)), (4, .int (zi v50))] 6 dX9_origins_112 rfl (by decide) rfl rfl ?_
          refine z_goto (tgt := 61) dX9_origins_115 (by decide) ?_
          refine z_perm [(a_t, .inr (8, [.int (zi q44.2), .int (zi c_t_high), .int (zi c_t_wide), .ref a_t_now, .ref a_t_trial, .ref a_t_diary, .int (zi c_t_acts), .int (zi c_t_next), .ref a_t_kept, .ref a_t_isKept, .ref a_t_script, .int (zi c_t_scriptSize), .int (zi c_t_spot), .ref a_t_read, .int (zi c_t_readHigh), .int (zi c_t_readWide), .ref a_t_wanted, .ref a_t_level, .ref a_t_chosen, .ref a_t_best])), (a_t_now, zI J 243 f_t_now)] [(0, .ref a_t), (1, .int (zi p0)), (2, .int (zi p1)), (3, .int (zi v49)), (4, .int (zi v50)), (5, .int (zi (0 : Int))), (6, .int (zi (v58 + (1 : Int))))] [0, 1] [2, 3, 4, 5, 6, 1, 0] rfl rfl rfl ?_
          exact ih _ _ hsh
        · replace hsh := zif_t q hsh
          refine z_iconst (pc' := 106) dX9_origins_105 rfl ?_
          refine z_goto (tgt := 110) dX9_origins_106 (by decide) ?_
          refine z_istore (pc' := 112) [(5, .int (zi (1 : Int))), (0, .ref a_t), (1, .int (zi p0)), (2, .int (zi p1)), (3, .int (zi v49)), (4, .int (zi v50)), (6, .int (zi v58))] dX9_origins_110 (by decide) rfl rfl ?_
          refine z_iinc (pc' := 115) [(6, .int (zi (v58 + (1 : Int)))), (5, .int (zi (1 : Int))), (0, .ref a_t), (1, .int (zi p0)), (2, .int (zi p1)), (3, .int (zi v49)), (4, .int (zi v50))] 6 dX9_origins_112 rfl (by decide) rfl rfl ?_
          refine z_goto (tgt := 61) dX9_origins_115 (by decide) ?_
          refine z_perm [(a_t, .inr (8, [.int (zi q44.2), .int (zi c_t_high), .int (zi c_t_wide), .ref a_t_now, .ref a_t_trial, .ref a_t_diary, .int (zi c_t_acts), .int (zi c_t_next), .ref a_t_kept, .ref a_t_isKept, .ref a_t_script, .int (zi c_t_scriptSize), .int (zi c_t_spot), .ref a_t_read, .int (zi c_t_readHigh), .int (zi c_t_readWide), .ref a_t_wanted, .ref a_t_level, .ref a_t_chosen, .ref a_t_best])), (a_t_now, zI J 243 f_t_now)] [(0, .ref a_t), (1, .int (zi p0)), (2, .int (zi p1)), (3, .int (zi v49)), (4, .int (zi v50)), (5, .int (zi (1 : Int))), (6, .int (zi (v58 + (1 : Int))))] [0, 1] [2, 3, 4, 5, 6, 1, 0] rfl rfl rfl ?_
          exact ih _ _ hsh
set_option maxRecDepth 100000 in
set_option maxHeartbeats 4000000 in
theorem zl_X9_origins_L46_2 {p : Program} {l : Launch} {e : Env} {s : State} {m : MethodId} {args : Array Value} {below : List Frame} {meth : Method} {c : Code} {A : Nat → Prop} {D : va_G} {J : Nat → ClassId} {F : Nat} {p0 : Int} {p1 : Int} {c_t_high : Int} {c_t_wide : Int} {f_t_now : Nat → Int} {a_t : Nat} {q44 : Int × Int} {a_t_now : Nat} {a_t_trial : Nat} {a_t_diary : Nat} {c_t_acts : Int} {c_t_next : Int} {a_t_kept : Nat} {a_t_isKept : Nat} {a_t_script : Nat} {c_t_scriptSize : Int} {c_t_spot : Int} {a_t_read : Nat} {c_t_readHigh : Int} {c_t_readWide : Int} {a_t_wanted : Nat} {a_t_level : Nat} {a_t_chosen : Nat} {a_t_best : Nat} {res : Int × Int} {k : Int → Int → Option (Int × Int)} (hk : ∀ (v49' : Int) (v50' : Int), k v49' v50' = some res → Z p l e ({ frames := 1, cells := 0, slots := 0, locals := 26 } : Room) s m args below meth c (MQ below (zQ D J A (fun rv w9 => rv = some (.int (zi res.1)) ∧ w9 = [(a_t, .inr (8, [.int (zi res.2), .int (zi c_t_high), .int (zi c_t_wide), .ref a_t_now, .ref a_t_trial, .ref a_t_diary, .int (zi c_t_acts), .int (zi c_t_next), .ref a_t_kept, .ref a_t_isKept, .ref a_t_script, .int (zi c_t_scriptSize), .int (zi c_t_spot), .ref a_t_read, .int (zi c_t_readHigh), .int (zi c_t_readWide), .ref a_t_wanted, .ref a_t_level, .ref a_t_chosen, .ref a_t_best])), (a_t_now, zI J 243 f_t_now)])) args s 0 0 A) cX9_origins 7 wsX9_origins RX9 D J A (some .int) (yX9_origins.name, []) 0 0 [(a_t, .inr (8, [.int (zi q44.2), .int (zi c_t_high), .int (zi c_t_wide), .ref a_t_now, .ref a_t_trial, .ref a_t_diary, .int (zi c_t_acts), .int (zi c_t_next), .ref a_t_kept, .ref a_t_isKept, .ref a_t_script, .int (zi c_t_scriptSize), .int (zi c_t_spot), .ref a_t_read, .int (zi c_t_readHigh), .int (zi c_t_readWide), .ref a_t_wanted, .ref a_t_level, .ref a_t_chosen, .ref a_t_best])), (a_t_now, zI J 243 f_t_now)] [(3, .int (zi v49'))] 140 []) : ∀ (N : Nat) (v49 : Int) (v50 : Int), sh_X9_origins_L46_2 F p0 p1 c_t_high c_t_wide f_t_now k N v49 v50 = some res → Z p l e ({ frames := 1, cells := 0, slots := 0, locals := 26 } : Room) s m args below meth c (MQ below (zQ D J A (fun rv w9 => rv = some (.int (zi res.1)) ∧ w9 = [(a_t, .inr (8, [.int (zi res.2), .int (zi c_t_high), .int (zi c_t_wide), .ref a_t_now, .ref a_t_trial, .ref a_t_diary, .int (zi c_t_acts), .int (zi c_t_next), .ref a_t_kept, .ref a_t_isKept, .ref a_t_script, .int (zi c_t_scriptSize), .int (zi c_t_spot), .ref a_t_read, .int (zi c_t_readHigh), .int (zi c_t_readWide), .ref a_t_wanted, .ref a_t_level, .ref a_t_chosen, .ref a_t_best])), (a_t_now, zI J 243 f_t_now)])) args s 0 0 A) cX9_origins 7 wsX9_origins RX9 D J A (some .int) (yX9_origins.name, []) 0 0 [(a_t, .inr (8, [.int (zi q44.2), .int (zi c_t_high), .int (zi c_t_wide), .ref a_t_now, .ref a_t_trial, .ref a_t_diary, .int (zi c_t_acts), .int (zi c_t_next), .ref a_t_kept, .ref a_t_isKept, .ref a_t_script, .int (zi c_t_scriptSize), .int (zi c_t_spot), .ref a_t_read, .int (zi c_t_readHigh), .int (zi c_t_readWide), .ref a_t_wanted, .ref a_t_level, .ref a_t_chosen, .ref a_t_best])), (a_t_now, zI J 243 f_t_now)] [(0, .ref a_t), (1, .int (zi p0)), (2, .int (zi p1)), (3, .int (zi v49)), (4, .int (zi v50))] 46 [] := by
  intro N
  induction N with
  | zero =>
    intro v49 v50 hsh
    exact absurd hsh (by simp [sh_X9_origins_L46_2])
  | succ N ih =>
    intro v49 v50 hsh
    rw [sh_X9_origins_L46_2] at hsh
    refine z_iload (pc' := 48) 4 dX9_origins_46 rfl rfl ?_
    refine z_aload_n (pc' := 49) 0 dX9_origins_48 rfl rfl rfl ?_
    obtain ⟨q51, h52, hsh⟩ := zbind hsh
    refine z_callV (pc' := 52) (C := RX9) (As := []) (rest := [.int (zi v50)]) (wr := [(a_t_now, zI J 243 f_t_now)]) 0 (zc_X9_points l D J F (a_t := a_t) (a_t_now := a_t_now) (a_t_trial := a_t_trial) (a_t_diary := a_t_diary) (a_t_kept := a_t_kept) (a_t_isKept := a_t_isKept) (a_t_script := a_t_script) (a_t_read := a_t_read) (a_t_wanted := a_t_wanted) (a_t_level := a_t_level) (a_t_chosen := a_t_chosen) (a_t_best := a_t_best) (c_t_refusal := q44.2) (c_t_high := c_t_high) (c_t_wide := c_t_wide) (c_t_acts := c_t_acts) (c_t_next := c_t_next) (c_t_scriptSize := c_t_scriptSize) (c_t_spot := c_t_spot) (c_t_readHigh := c_t_readHigh) (c_t_readWide := c_t_readWide)  q51 h52) dX9_origins_49 gX9_origins_X9_points rfl rfl rfl (by decide +kernel) ⟨Nat.le_of_ble_eq_true rfl, Nat.le_of_ble_eq_true rfl⟩ ⟨Nat.le_of_ble_eq_true rfl, Nat.le_of_ble_eq_true rfl⟩ (z_spl_of [0, 1] rfl rfl) rfl rfl rfl rfl (Nat.le_of_ble_eq_true rfl) rfl (fun rv w9 hq => ?_)
    obtain ⟨rfl, rfl⟩ := hq
    refine z_ws [(a_t_now, zI J 243 f_t_now), (a_t, .inr (8, [.int (zi q44.2), .int (zi c_t_high), .int (zi c_t_wide), .ref a_t_now, .ref a_t_trial, .ref a_t_diary, .int (zi c_t_acts), .int (zi c_t_next), .ref a_t_kept, .ref a_t_isKept, .ref a_t_script, .int (zi c_t_scriptSize), .int (zi c_t_spot), .ref a_t_read, .int (zi c_t_readHigh), .int (zi c_t_readWide), .ref a_t_wanted, .ref a_t_level, .ref a_t_chosen, .ref a_t_best]))] rfl ?_
    have g53 := zkr_p hsh
    replace hsh := zkr_k hsh
    have g54 := zkr_p hsh
    replace hsh := zkr_k hsh
    refine z_icmp_ge (pc' := 55) (tgt := 140) dX9_origins_52 (by decide) g53 g54 rfl (fun q => ?_) (fun q => ?_)
    · replace hsh := zif_f q hsh
      refine z_perm [(a_t, .inr (8, [.int (zi q44.2), .int (zi c_t_high), .int (zi c_t_wide), .ref a_t_now, .ref a_t_trial, .ref a_t_diary, .int (zi c_t_acts), .int (zi c_t_next), .ref a_t_kept, .ref a_t_isKept, .ref a_t_script, .int (zi c_t_scriptSize), .int (zi c_t_spot), .ref a_t_read, .int (zi c_t_readHigh), .int (zi c_t_readWide), .ref a_t_wanted, .ref a_t_level, .ref a_t_chosen, .ref a_t_best])), (a_t_now, zI J 243 f_t_now)] [(3, .int (zi v49))] [1, 0] [3] rfl rfl rfl ?_
      exact hk _ _ hsh
    · replace hsh := zif_t q hsh
      refine z_iconst (pc' := 56) dX9_origins_55 rfl ?_
      refine z_istore (pc' := 58) [(5, .int (zi (1 : Int))), (0, .ref a_t), (1, .int (zi p0)), (2, .int (zi p1)), (3, .int (zi v49)), (4, .int (zi v50))] dX9_origins_56 (by decide) rfl rfl ?_
      refine z_iconst (pc' := 59) dX9_origins_58 rfl ?_
      refine z_istore (pc' := 61) [(6, .int (zi (0 : Int))), (5, .int (zi (1 : Int))), (0, .ref a_t), (1, .int (zi p0)), (2, .int (zi p1)), (3, .int (zi v49)), (4, .int (zi v50))] dX9_origins_59 (by decide) rfl rfl ?_
      refine z_perm [(a_t, .inr (8, [.int (zi q44.2), .int (zi c_t_high), .int (zi c_t_wide), .ref a_t_now, .ref a_t_trial, .ref a_t_diary, .int (zi c_t_acts), .int (zi c_t_next), .ref a_t_kept, .ref a_t_isKept, .ref a_t_script, .int (zi c_t_scriptSize), .int (zi c_t_spot), .ref a_t_read, .int (zi c_t_readHigh), .int (zi c_t_readWide), .ref a_t_wanted, .ref a_t_level, .ref a_t_chosen, .ref a_t_best])), (a_t_now, zI J 243 f_t_now)] [(0, .ref a_t), (1, .int (zi p0)), (2, .int (zi p1)), (3, .int (zi v49)), (4, .int (zi v50)), (5, .int (zi (1 : Int))), (6, .int (zi (0 : Int)))] [1, 0] [2, 3, 4, 5, 6, 1, 0] rfl rfl rfl ?_
      refine zl_X9_origins_L61_2 (F := F) (hk := fun v72 v73 hsh => ?_) _ _ _ hsh
      refine z_iload_n (pc' := 119) 3 dX9_origins_118 rfl rfl rfl ?_
      refine z_iload (pc' := 121) 5 dX9_origins_119 rfl rfl ?_
      have g74 := zkr_p hsh
      replace hsh := zkr_k hsh
      refine z_if_eq (pc' := 124) (tgt := 131) dX9_origins_121 (by decide) g74 rfl (fun q => ?_) (fun q => ?_)
      · replace hsh := zif_t q hsh
        refine z_iconst (pc' := 132) dX9_origins_131 rfl ?_
        refine z_ior (pc' := 133) dX9_origins_132 rfl ?_
        refine z_istore_n (pc' := 134) [(3, .int (zi (zor v49 (0 : Int)))), (0, .ref a_t), (1, .int (zi p0)), (2, .int (zi p1)), (4, .int (zi v50)), (5, .int (zi v72))] dX9_origins_133 rfl (by decide) rfl rfl ?_
        refine z_iinc (pc' := 137) [(4, .int (zi (v50 + (1 : Int)))), (3, .int (zi (zor v49 (0 : Int)))), (0, .ref a_t), (1, .int (zi p0)), (2, .int (zi p1)), (5, .int (zi v72))] 4 dX9_origins_134 rfl (by decide) rfl rfl ?_
        refine z_goto (tgt := 46) dX9_origins_137 (by decide) ?_
        refine z_perm [(a_t, .inr (8, [.int (zi q44.2), .int (zi c_t_high), .int (zi c_t_wide), .ref a_t_now, .ref a_t_trial, .ref a_t_diary, .int (zi c_t_acts), .int (zi c_t_next), .ref a_t_kept, .ref a_t_isKept, .ref a_t_script, .int (zi c_t_scriptSize), .int (zi c_t_spot), .ref a_t_read, .int (zi c_t_readHigh), .int (zi c_t_readWide), .ref a_t_wanted, .ref a_t_level, .ref a_t_chosen, .ref a_t_best])), (a_t_now, zI J 243 f_t_now)] [(0, .ref a_t), (1, .int (zi p0)), (2, .int (zi p1)), (3, .int (zi (zor v49 (0 : Int)))), (4, .int (zi (v50 + (1 : Int))))] [0, 1] [2, 3, 4, 1, 0] rfl rfl rfl ?_
        exact ih _ _ hsh
      · replace hsh := zif_f q hsh
        refine z_iconst (pc' := 125) dX9_origins_124 rfl ?_
        refine z_iload (pc' := 127) 4 dX9_origins_125 rfl rfl ?_
        refine z_ishl (pc' := 128) dX9_origins_127 rfl ?_
        refine z_goto (tgt := 132) dX9_origins_128 (by decide) ?_
        refine z_ior (pc' := 133) dX9_origins_132 rfl ?_
        refine z_istore_n (pc' := 134) [(3, .int (zi (zor v49 (zshl (1 : Int) v50)))), (0, .ref a_t), (1, .int (zi p0)), (2, .int (zi p1)), (4, .int (zi v50)), (5, .int (zi v72))] dX9_origins_133 rfl (by decide) rfl rfl ?_
        refine z_iinc (pc' := 137) [(4, .int (zi (v50 + (1 : Int)))), (3, .int (zi (zor v49 (zshl (1 : Int) v50)))), (0, .ref a_t), (1, .int (zi p0)), (2, .int (zi p1)), (5, .int (zi v72))] 4 dX9_origins_134 rfl (by decide) rfl rfl ?_
        refine z_goto (tgt := 46) dX9_origins_137 (by decide) ?_
        refine z_perm [(a_t, .inr (8, [.int (zi q44.2), .int (zi c_t_high), .int (zi c_t_wide), .ref a_t_now, .ref a_t_trial, .ref a_t_diary, .int (zi c_t_acts), .int (zi c_t_next), .ref a_t_kept, .ref a_t_isKept, .ref a_t_script, .int (zi c_t_scriptSize), .int (zi c_t_spot), .ref a_t_read, .int (zi c_t_readHigh), .int (zi c_t_readWide), .ref a_t_wanted, .ref a_t_level, .ref a_t_chosen, .ref a_t_best])), (a_t_now, zI J 243 f_t_now)] [(0, .ref a_t), (1, .int (zi p0)), (2, .int (zi p1)), (3, .int (zi (zor v49 (zshl (1 : Int) v50)))), (4, .int (zi (v50 + (1 : Int))))] [0, 1] [2, 3, 4, 1, 0] rfl rfl rfl ?_
        exact ih _ _ hsh
set_option maxRecDepth 100000 in
set_option maxHeartbeats 4000000 in
theorem zl_X9_origins_L61_3 {p : Program} {l : Launch} {e : Env} {s : State} {m : MethodId} {args : Array Value} {below : List Frame} {meth : Method} {c : Code} {A : Nat → Prop} {D : va_G} {J : Nat → ClassId} {F : Nat} {p0 : Int} {p1 : Int} {f_t_now : Nat → Int} {v83 : Int} {a_t : Nat} {q77 : Int × Int} {c_t_high : Int} {c_t_wide : Int} {a_t_now : Nat} {a_t_trial : Nat} {a_t_diary : Nat} {c_t_acts : Int} {c_t_next : Int} {a_t_kept : Nat} {a_t_isKept : Nat} {a_t_script : Nat} {c_t_scriptSize : Int} {c_t_spot : Int} {a_t_read : Nat} {c_t_readHigh : Int} {c_t_readWide : Int} {a_t_wanted : Nat} {a_t_level : Nat} {a_t_chosen : Nat} {a_t_best : Nat} {v82 : Int} {res : Int × Int} {k : Int → Int → Option (Int × Int)} (hk : ∀ (v90' : Int) (v91' : Int), k v90' v91' = some res → Z p l e ({ frames := 1, cells := 0, slots := 0, locals := 26 } : Room) s m args below meth c (MQ below (zQ D J A (fun rv w9 => rv = some (.int (zi res.1)) ∧ w9 = [(a_t, .inr (8, [.int (zi res.2), .int (zi c_t_high), .int (zi c_t_wide), .ref a_t_now, .ref a_t_trial, .ref a_t_diary, .int (zi c_t_acts), .int (zi c_t_next), .ref a_t_kept, .ref a_t_isKept, .ref a_t_script, .int (zi c_t_scriptSize), .int (zi c_t_spot), .ref a_t_read, .int (zi c_t_readHigh), .int (zi c_t_readWide), .ref a_t_wanted, .ref a_t_level, .ref a_t_chosen, .ref a_t_best])), (a_t_now, zI J 243 f_t_now)])) args s 0 0 A) cX9_origins 7 wsX9_origins RX9 D J A (some .int) (yX9_origins.name, []) 0 0 [(a_t, .inr (8, [.int (zi q77.2), .int (zi c_t_high), .int (zi c_t_wide), .ref a_t_now, .ref a_t_trial, .ref a_t_diary, .int (zi c_t_acts), .int (zi c_t_next), .ref a_t_kept, .ref a_t_isKept, .ref a_t_script, .int (zi c_t_scriptSize), .int (zi c_t_spot), .ref a_t_read, .int (zi c_t_readHigh), .int (zi c_t_readWide), .ref a_t_wanted, .ref a_t_level, .ref a_t_chosen, .ref a_t_best])), (a_t_now, zI J 243 f_t_now)] [(0, .ref a_t), (1, .int (zi p0)), (2, .int (zi p1)), (3, .int (zi v82)), (4, .int (zi v83)), (5, .int (zi v90'))] 118 []) : ∀ (N : Nat) (v90 : Int) (v91 : Int), sh_X9_origins_L61_3 F p0 p1 f_t_now v83 k N v90 v91 = some res → Z p l e ({ frames := 1, cells := 0, slots := 0, locals := 26 } : Room) s m args below meth c (MQ below (zQ D J A (fun rv w9 => rv = some (.int (zi res.1)) ∧ w9 = [(a_t, .inr (8, [.int (zi res.2), .int (zi c_t_high), .int (zi c_t_wide), .ref a_t_now, .ref a_t_trial, .ref a_t_diary, .int (zi c_t_acts), .int (zi c_t_next), .ref a_t_kept, .ref a_t_isKept, .ref a_t_script, .int (zi c_t_scriptSize), .int (zi c_t_spot), .ref a_t_read, .int (zi c_t_readHigh), .int (zi c_t_readWide), .ref a_t_wanted, .ref a_t_level, .ref a_t_chosen, .ref a_t_best])), (a_t_now, zI J 243 f_t_now)])) args s 0 0 A) cX9_origins 7 wsX9_origins RX9 D J A (some .int) (yX9_origins.name, []) 0 0 [(a_t, .inr (8, [.int (zi q77.2), .int (zi c_t_high), .int (zi c_t_wide), .ref a_t_now, .ref a_t_trial, .ref a_t_diary, .int (zi c_t_acts), .int (zi c_t_next), .ref a_t_kept, .ref a_t_isKept, .ref a_t_script, .int (zi c_t_scriptSize), .int (zi c_t_spot), .ref a_t_read, .int (zi c_t_readHigh), .int (zi c_t_readWide), .ref a_t_wanted, .ref a_t_level, .ref a_t_chosen, .ref a_t_best])), (a_t_now, zI J 243 f_t_now)] [(0, .ref a_t), (1, .int (zi p0)), (2, .int (zi p1)), (3, .int (zi v82)), (4, .int (zi v83)), (5, .int (zi v90)), (6, .int (zi v91))] 61 [] := by
  intro N
  induction N with
  | zero =>
    intro v90 v91 hsh
    exact absurd hsh (by simp [sh_X9_origins_L61_3])
  | succ N ih =>
    intro v90 v91 hsh
    rw [sh_X9_origins_L61_3] at hsh
    refine z_iload (pc' := 63) 6 dX9_origins_61 rfl rfl ?_
    refine z_iload_n (pc' := 64) 1 dX9_origins_63 rfl rfl rfl ?_
    have g92 := zkr_p hsh
    replace hsh := zkr_k hsh
    have g93 := zkr_p hsh
    replace hsh := zkr_k hsh
    refine z_icmp_ge (pc' := 67) (tgt := 118) dX9_origins_64 (by decide) g92 g93 rfl (fun q => ?_) (fun q => ?_)
    · replace hsh := zif_f q hsh
      refine z_perm [(a_t, .inr (8, [.int (zi q77.2), .int (zi c_t_high), .int (zi c_t_wide), .ref a_t_now, .ref a_t_trial, .ref a_t_diary, .int (zi c_t_acts), .int (zi c_t_next), .ref a_t_kept, .ref a_t_isKept, .ref a_t_script, .int (zi c_t_scriptSize), .int (zi c_t_spot), .ref a_t_read, .int (zi c_t_readHigh), .int (zi c_t_readWide), .ref a_t_wanted, .ref a_t_level, .ref a_t_chosen, .ref a_t_best])), (a_t_now, zI J 243 f_t_now)] [(0, .ref a_t), (1, .int (zi p0)), (2, .int (zi p1)), (3, .int (zi v82)), (4, .int (zi v83)), (5, .int (zi v90))] [0, 1] [0, 1, 2, 3, 4, 5] rfl rfl rfl ?_
      exact hk _ _ hsh
    · replace hsh := zif_t q hsh
      refine z_iload (pc' := 69) 5 dX9_origins_67 rfl rfl ?_
      have g94 := zkr_p hsh
      replace hsh := zkr_k hsh
      refine z_if_eq (pc' := 72) (tgt := 109) dX9_origins_69 (by decide) g94 rfl (fun q => ?_) (fun q => ?_)
      · replace hsh := zif_t q hsh
        refine z_iconst (pc' := 110) dX9_origins_109 rfl ?_
        refine z_istore (pc' := 112) [(5, .int (zi (0 : Int))), (0, .ref a_t), (1, .int (zi p0)), (2, .int (zi p1)), (3, .int (zi v82)), (4, .int (zi v83)), (6, .int (zi v91))] dX9_origins_110 (by decide) rfl rfl ?_
        refine z_iinc (pc' := 115) [(6, .int (zi (v91 + (1 : Int)))), (5, .int (zi (0 : Int))), (0, .ref a_t), (1, .int (zi p0)), (2, .int (zi p1)), (3, .int (zi v82)), (4, .int (zi v83))] 6 dX9_origins_112 rfl (by decide) rfl rfl ?_
        refine z_goto (tgt := 61) dX9_origins_115 (by decide) ?_
        refine z_perm [(a_t, .inr (8, [.int (zi q77.2), .int (zi c_t_high), .int (zi c_t_wide), .ref a_t_now, .ref a_t_trial, .ref a_t_diary, .int (zi c_t_acts), .int (zi c_t_next), .ref a_t_kept, .ref a_t_isKept, .ref a_t_script, .int (zi c_t_scriptSize), .int (zi c_t_spot), .ref a_t_read, .int (zi c_t_readHigh), .int (zi c_t_readWide), .ref a_t_wanted, .ref a_t_level, .ref a_t_chosen, .ref a_t_best])), (a_t_now, zI J 243 f_t_now)] [(0, .ref a_t), (1, .int (zi p0)), (2, .int (zi p1)), (3, .int (zi v82)), (4, .int (zi v83)), (5, .int (zi (0 : Int))), (6, .int (zi (v91 + (1 : Int))))] [0, 1] [2, 3, 4, 5, 6, 1, 0] rfl rfl rfl ?_
        exact ih _ _ hsh
      · replace hsh := zif_f q hsh
        refine z_aload_n (pc' := 73) 0 dX9_origins_72 rfl rfl rfl ?_
        refine z_getfield (pc' := 76) (C := RX9) (T := TX9) (N := 20) 0 3 dX9_origins_73 iX9_origins_X9 rfl rfl (by decide) mX9_origins_f16 rfl rfl ?_
        refine z_iconst (pc' := 77) dX9_origins_76 rfl ?_
        refine z_iload (pc' := 79) 4 dX9_origins_77 rfl rfl ?_
        refine z_iload (pc' := 81) 6 dX9_origins_79 rfl rfl ?_
        obtain ⟨q95, h96, hsh⟩ := zbind hsh
        refine z_callS (pc' := 84) (As := [.ref a_t_now, .int (zi (0 : Int)), .int (zi v83), .int (zi v91)]) (rest := []) (wr := [(a_t, .inr (8, [.int (zi q77.2), .int (zi c_t_high), .int (zi c_t_wide), .ref a_t_now, .ref a_t_trial, .ref a_t_diary, .int (zi c_t_acts), .int (zi c_t_next), .ref a_t_kept, .ref a_t_isKept, .ref a_t_script, .int (zi c_t_scriptSize), .int (zi c_t_spot), .ref a_t_read, .int (zi c_t_readHigh), .int (zi c_t_readWide), .ref a_t_wanted, .ref a_t_level, .ref a_t_chosen, .ref a_t_best]))]) 4 (zc_X9_gradeOf l D J F (a_p0 := a_t_now) (f_p0 := f_t_now) (n_p0 := 243) (p1 := (0 : Int)) (p2 := v83) (p3 := v91) (hn_p0 := (by decide)) q95 h96) dX9_origins_81 gX9_origins_X9_gradeOf rfl rfl rfl (by decide +kernel) ⟨Nat.le_of_ble_eq_true rfl, Nat.le_of_ble_eq_true rfl⟩ ⟨Nat.le_of_ble_eq_true rfl, Nat.le_of_ble_eq_true rfl⟩ (z_spl_of [1, 0] rfl rfl) rfl rfl (Nat.le_of_ble_eq_true rfl) rfl (fun rv w9 hq => ?_)
        obtain ⟨rfl, rfl⟩ := hq
        refine z_ws [(a_t, .inr (8, [.int (zi q77.2), .int (zi c_t_high), .int (zi c_t_wide), .ref a_t_now, .ref a_t_trial, .ref a_t_diary, .int (zi c_t_acts), .int (zi c_t_next), .ref a_t_kept, .ref a_t_isKept, .ref a_t_script, .int (zi c_t_scriptSize), .int (zi c_t_spot), .ref a_t_read, .int (zi c_t_readHigh), .int (zi c_t_readWide), .ref a_t_wanted, .ref a_t_level, .ref a_t_chosen, .ref a_t_best])), (a_t_now, zI J 243 f_t_now)] rfl ?_
        have g97 := zkr_p hsh
        replace hsh := zkr_k hsh
        refine z_i2l (pc' := 85) dX9_origins_84 g97 rfl ?_
        refine z_iload_n (pc' := 86) 2 dX9_origins_85 rfl rfl rfl ?_
        have g98 := zkr_p hsh
        replace hsh := zkr_k hsh
        refine z_i2l (pc' := 87) dX9_origins_86 g98 rfl ?_
        refine z_iload_n (pc' := 88) 1 dX9_origins_87 rfl rfl rfl ?_
        refine z_iconst (pc' := 89) dX9_origins_88 rfl ?_
        refine z_isub (pc' := 90) dX9_origins_89 rfl ?_
        refine z_iload (pc' := 92) 6 dX9_origins_90 rfl rfl ?_
        refine z_isub (pc' := 93) dX9_origins_92 rfl ?_
        obtain ⟨q99, h100, hsh⟩ := zbind hsh
        refine z_callS (pc' := 96) (As := [.int (zi ((p0 - (1 : Int)) - v91))]) (rest := [.long (zl p1), .long (zl q95)]) (wr := [(a_t, .inr (8, [.int (zi q77.2), .int (zi c_t_high), .int (zi c_t_wide), .ref a_t_now, .ref a_t_trial, .ref a_t_diary, .int (zi c_t_acts), .int (zi c_t_next), .ref a_t_kept, .ref a_t_isKept, .ref a_t_script, .int (zi c_t_scriptSize), .int (zi c_t_spot), .ref a_t_read, .int (zi c_t_readHigh), .int (zi c_t_readWide), .ref a_t_wanted, .ref a_t_level, .ref a_t_chosen, .ref a_t_best])), (a_t_now, zI J 243 f_t_now)]) 1 (zc_X9_tens l D J F (p0 := ((p0 - (1 : Int)) - v91))  q99 h100) dX9_origins_93 gX9_origins_X9_tens rfl rfl rfl (by decide +kernel) ⟨Nat.le_of_ble_eq_true rfl, Nat.le_of_ble_eq_true rfl⟩ ⟨Nat.le_of_ble_eq_true rfl, Nat.le_of_ble_eq_true rfl⟩ (z_spl_of [0, 1] rfl rfl) rfl rfl (Nat.le_of_ble_eq_true rfl) rfl (fun rv w9 hq => ?_)
        obtain ⟨rfl, rfl⟩ := hq
        refine z_ws [(a_t, .inr (8, [.int (zi q77.2), .int (zi c_t_high), .int (zi c_t_wide), .ref a_t_now, .ref a_t_trial, .ref a_t_diary, .int (zi c_t_acts), .int (zi c_t_next), .ref a_t_kept, .ref a_t_isKept, .ref a_t_script, .int (zi c_t_scriptSize), .int (zi c_t_spot), .ref a_t_read, .int (zi c_t_readHigh), .int (zi c_t_readWide), .ref a_t_wanted, .ref a_t_level, .ref a_t_chosen, .ref a_t_best])), (a_t_now, zI J 243 f_t_now)] rfl ?_
        have g101 := zkl_p hsh
        replace hsh := zkl_k hsh
        have g102 := zkc_p hsh
        replace hsh := zkc_k hsh
        refine z_ldiv (pc' := 97) dX9_origins_96 (zr_l g98) g101 g102 rfl ?_
        refine z_ldc2 (pc' := 100) (10 : Int) dX9_origins_97 mX9_origins_k171 (by decide) rfl ?_
        have g103 := zkl_p hsh
        replace hsh := zkl_k hsh
        refine z_lrem (pc' := 101) dX9_origins_100 g103 (by decide) (by decide) rfl ?_
        have g104 := zkl_p hsh
        replace hsh := zkl_k hsh
        refine z_lcmp_ne (pc' := 105) (tgt := 109) dX9_origins_101 dX9_origins_102 (by decide) (zr_l g97) g104 rfl (fun q => ?_) (fun q => ?_)
        · replace hsh := zif_f q hsh
          refine z_iconst (pc' := 110) dX9_origins_109 rfl ?_
          refine z_istore (pc' := 112) [(5, .int (zi (0 : Int))), (0, .ref a_t), (1, .int (zi p0)), (2, .int (zi p1)), (3, .int (zi v82)), (4, .int (zi v83)), (6, .int (zi v91))] dX9_origins_110 (by decide) rfl rfl ?_
          refine z_iinc (pc' := 115) [(6, .int (zi (v91 + (1 : Int)))), (5, .int (zi (0 : Int))), (0, .ref a_t), (1, .int (zi p0)), (2, .int (zi p1)), (3, .int (zi v82)), (4, .int (zi v83))] 6 dX9_origins_112 rfl (by decide) rfl rfl ?_
          refine z_goto (tgt := 61) dX9_origins_115 (by decide) ?_
          refine z_perm [(a_t, .inr (8, [.int (zi q77.2), .int (zi c_t_high), .int (zi c_t_wide), .ref a_t_now, .ref a_t_trial, .ref a_t_diary, .int (zi c_t_acts), .int (zi c_t_next), .ref a_t_kept, .ref a_t_isKept, .ref a_t_script, .int (zi c_t_scriptSize), .int (zi c_t_spot), .ref a_t_read, .int (zi c_t_readHigh), .int (zi c_t_readWide), .ref a_t_wanted, .ref a_t_level, .ref a_t_chosen, .ref a_t_best])), (a_t_now, zI J 243 f_t_now)] [(0, .ref a_t), (1, .int (zi p0)), (2, .int (zi p1)), (3, .int (zi v82)), (4, .int (zi v83)), (5, .int (zi (0 : Int))), (6, .int (zi (v91 + (1 : Int))))] [0, 1] [2, 3, 4, 5, 6, 1, 0] rfl rfl rfl ?_
          exact ih _ _ hsh
        · replace hsh := zif_t q hsh
          refine z_iconst (pc' := 106) dX9_origins_105 rfl ?_
          refine z_goto (tgt := 110) dX9_origins_106 (by decide) ?_
          refine z_istore (pc' := 112) [(5, .int (zi (1 : Int))), (0, .ref a_t), (1, .int (zi p0)), (2, .int (zi p1)), (3, .int (zi v82)), (4, .int (zi v83)), (6, .int (zi v91))] dX9_origins_110 (by decide) rfl rfl ?_
          refine z_iinc (pc' := 115) [(6, .int (zi (v91 + (1 : Int)))), (5, .int (zi (1 : Int))), (0, .ref a_t), (1, .int (zi p0)), (2, .int (zi p1)), (3, .int (zi v82)), (4, .int (zi v83))] 6 dX9_origins_112 rfl (by decide) rfl rfl ?_
          refine z_goto (tgt := 61) dX9_origins_115 (by decide) ?_
          refine z_perm [(a_t, .inr (8, [.int (zi q77.2), .int (zi c_t_high), .int (zi c_t_wide), .ref a_t_now, .ref a_t_trial, .ref a_t_diary, .int (zi c_t_acts), .int (zi c_t_next), .ref a_t_kept, .ref a_t_isKept, .ref a_t_script, .int (zi c_t_scriptSize), .int (zi c_t_spot), .ref a_t_read, .int (zi c_t_readHigh), .int (zi c_t_readWide), .ref a_t_wanted, .ref a_t_level, .ref a_t_chosen, .ref a_t_best])), (a_t_now, zI J 243 f_t_now)] [(0, .ref a_t), (1, .int (zi p0)), (2, .int (zi p1)), (3, .int (zi v82)), (4, .int (zi v83)), (5, .int (zi (1 : Int))), (6, .int (zi (v91 + (1 : Int))))] [0, 1] [2, 3, 4, 5, 6, 1, 0] rfl rfl rfl ?_
          exact ih _ _ hsh
set_option maxRecDepth 100000 in
set_option maxHeartbeats 4000000 in
theorem zl_X9_origins_L46_3 {p : Program} {l : Launch} {e : Env} {s : State} {m : MethodId} {args : Array Value} {below : List Frame} {meth : Method} {c : Code} {A : Nat → Prop} {D : va_G} {J : Nat → ClassId} {F : Nat} {p0 : Int} {p1 : Int} {c_t_high : Int} {c_t_wide : Int} {f_t_now : Nat → Int} {a_t : Nat} {q77 : Int × Int} {a_t_now : Nat} {a_t_trial : Nat} {a_t_diary : Nat} {c_t_acts : Int} {c_t_next : Int} {a_t_kept : Nat} {a_t_isKept : Nat} {a_t_script : Nat} {c_t_scriptSize : Int} {c_t_spot : Int} {a_t_read : Nat} {c_t_readHigh : Int} {c_t_readWide : Int} {a_t_wanted : Nat} {a_t_level : Nat} {a_t_chosen : Nat} {a_t_best : Nat} {res : Int × Int} {k : Int → Int → Option (Int × Int)} (hk : ∀ (v82' : Int) (v83' : Int), k v82' v83' = some res → Z p l e ({ frames := 1, cells := 0, slots := 0, locals := 26 } : Room) s m args below meth c (MQ below (zQ D J A (fun rv w9 => rv = some (.int (zi res.1)) ∧ w9 = [(a_t, .inr (8, [.int (zi res.2), .int (zi c_t_high), .int (zi c_t_wide), .ref a_t_now, .ref a_t_trial, .ref a_t_diary, .int (zi c_t_acts), .int (zi c_t_next), .ref a_t_kept, .ref a_t_isKept, .ref a_t_script, .int (zi c_t_scriptSize), .int (zi c_t_spot), .ref a_t_read, .int (zi c_t_readHigh), .int (zi c_t_readWide), .ref a_t_wanted, .ref a_t_level, .ref a_t_chosen, .ref a_t_best])), (a_t_now, zI J 243 f_t_now)])) args s 0 0 A) cX9_origins 7 wsX9_origins RX9 D J A (some .int) (yX9_origins.name, []) 0 0 [(a_t, .inr (8, [.int (zi q77.2), .int (zi c_t_high), .int (zi c_t_wide), .ref a_t_now, .ref a_t_trial, .ref a_t_diary, .int (zi c_t_acts), .int (zi c_t_next), .ref a_t_kept, .ref a_t_isKept, .ref a_t_script, .int (zi c_t_scriptSize), .int (zi c_t_spot), .ref a_t_read, .int (zi c_t_readHigh), .int (zi c_t_readWide), .ref a_t_wanted, .ref a_t_level, .ref a_t_chosen, .ref a_t_best])), (a_t_now, zI J 243 f_t_now)] [(3, .int (zi v82'))] 140 []) : ∀ (N : Nat) (v82 : Int) (v83 : Int), sh_X9_origins_L46_3 F p0 p1 c_t_high c_t_wide f_t_now k N v82 v83 = some res → Z p l e ({ frames := 1, cells := 0, slots := 0, locals := 26 } : Room) s m args below meth c (MQ below (zQ D J A (fun rv w9 => rv = some (.int (zi res.1)) ∧ w9 = [(a_t, .inr (8, [.int (zi res.2), .int (zi c_t_high), .int (zi c_t_wide), .ref a_t_now, .ref a_t_trial, .ref a_t_diary, .int (zi c_t_acts), .int (zi c_t_next), .ref a_t_kept, .ref a_t_isKept, .ref a_t_script, .int (zi c_t_scriptSize), .int (zi c_t_spot), .ref a_t_read, .int (zi c_t_readHigh), .int (zi c_t_readWide), .ref a_t_wanted, .ref a_t_level, .ref a_t_chosen, .ref a_t_best])), (a_t_now, zI J 243 f_t_now)])) args s 0 0 A) cX9_origins 7 wsX9_origins RX9 D J A (some .int) (yX9_origins.name, []) 0 0 [(a_t, .inr (8, [.int (zi q77.2), .int (zi c_t_high), .int (zi c_t_wide), .ref a_t_now, .ref a_t_trial, .ref a_t_diary, .int (zi c_t_acts), .int (zi c_t_next), .ref a_t_kept, .ref a_t_isKept, .ref a_t_script, .int (zi c_t_scriptSize), .int (zi c_t_spot), .ref a_t_read, .int (zi c_t_readHigh), .int (zi c_t_readWide), .ref a_t_wanted, .ref a_t_level, .ref a_t_chosen, .ref a_t_best])), (a_t_now, zI J 243 f_t_now)] [(0, .ref a_t), (1, .int (zi p0)), (2, .int (zi p1)), (3, .int (zi v82)), (4, .int (zi v83))] 46 [] := by
  intro N
  induction N with
  | zero =>
    intro v82 v83 hsh
    exact absurd hsh (by simp [sh_X9_origins_L46_3])
  | succ N ih =>
    intro v82 v83 hsh
    rw [sh_X9_origins_L46_3] at hsh
    refine z_iload (pc' := 48) 4 dX9_origins_46 rfl rfl ?_
    refine z_aload_n (pc' := 49) 0 dX9_origins_48 rfl rfl rfl ?_
    obtain ⟨q84, h85, hsh⟩ := zbind hsh
    refine z_callV (pc' := 52) (C := RX9) (As := []) (rest := [.int (zi v83)]) (wr := [(a_t_now, zI J 243 f_t_now)]) 0 (zc_X9_points l D J F (a_t := a_t) (a_t_now := a_t_now) (a_t_trial := a_t_trial) (a_t_diary := a_t_diary) (a_t_kept := a_t_kept) (a_t_isKept := a_t_isKept) (a_t_script := a_t_script) (a_t_read := a_t_read) (a_t_wanted := a_t_wanted) (a_t_level := a_t_level) (a_t_chosen := a_t_chosen) (a_t_best := a_t_best) (c_t_refusal := q77.2) (c_t_high := c_t_high) (c_t_wide := c_t_wide) (c_t_acts := c_t_acts) (c_t_next := c_t_next) (c_t_scriptSize := c_t_scriptSize) (c_t_spot := c_t_spot) (c_t_readHigh := c_t_readHigh) (c_t_readWide := c_t_readWide)  q84 h85) dX9_origins_49 gX9_origins_X9_points rfl rfl rfl (by decide +kernel) ⟨Nat.le_of_ble_eq_true rfl, Nat.le_of_ble_eq_true rfl⟩ ⟨Nat.le_of_ble_eq_true rfl, Nat.le_of_ble_eq_true rfl⟩ (z_spl_of [0, 1] rfl rfl) rfl rfl rfl rfl (Nat.le_of_ble_eq_true rfl) rfl (fun rv w9 hq => ?_)
    obtain ⟨rfl, rfl⟩ := hq
    refine z_ws [(a_t_now, zI J 243 f_t_now), (a_t, .inr (8, [.int (zi q77.2), .int (zi c_t_high), .int (zi c_t_wide), .ref a_t_now, .ref a_t_trial, .ref a_t_diary, .int (zi c_t_acts), .int (zi c_t_next), .ref a_t_kept, .ref a_t_isKept, .ref a_t_script, .int (zi c_t_scriptSize), .int (zi c_t_spot), .ref a_t_read, .int (zi c_t_readHigh), .int (zi c_t_readWide), .ref a_t_wanted, .ref a_t_level, .ref a_t_chosen, .ref a_t_best]))] rfl ?_
    have g86 := zkr_p hsh
    replace hsh := zkr_k hsh
    have g87 := zkr_p hsh
    replace hsh := zkr_k hsh
    refine z_icmp_ge (pc' := 55) (tgt := 140) dX9_origins_52 (by decide) g86 g87 rfl (fun q => ?_) (fun q => ?_)
    · replace hsh := zif_f q hsh
      refine z_perm [(a_t, .inr (8, [.int (zi q77.2), .int (zi c_t_high), .int (zi c_t_wide), .ref a_t_now, .ref a_t_trial, .ref a_t_diary, .int (zi c_t_acts), .int (zi c_t_next), .ref a_t_kept, .ref a_t_isKept, .ref a_t_script, .int (zi c_t_scriptSize), .int (zi c_t_spot), .ref a_t_read, .int (zi c_t_readHigh), .int (zi c_t_readWide), .ref a_t_wanted, .ref a_t_level, .ref a_t_chosen, .ref a_t_best])), (a_t_now, zI J 243 f_t_now)] [(3, .int (zi v82))] [1, 0] [3] rfl rfl rfl ?_
      exact hk _ _ hsh
    · replace hsh := zif_t q hsh
      refine z_iconst (pc' := 56) dX9_origins_55 rfl ?_
      refine z_istore (pc' := 58) [(5, .int (zi (1 : Int))), (0, .ref a_t), (1, .int (zi p0)), (2, .int (zi p1)), (3, .int (zi v82)), (4, .int (zi v83))] dX9_origins_56 (by decide) rfl rfl ?_
      refine z_iconst (pc' := 59) dX9_origins_58 rfl ?_
      refine z_istore (pc' := 61) [(6, .int (zi (0 : Int))), (5, .int (zi (1 : Int))), (0, .ref a_t), (1, .int (zi p0)), (2, .int (zi p1)), (3, .int (zi v82)), (4, .int (zi v83))] dX9_origins_59 (by decide) rfl rfl ?_
      refine z_perm [(a_t, .inr (8, [.int (zi q77.2), .int (zi c_t_high), .int (zi c_t_wide), .ref a_t_now, .ref a_t_trial, .ref a_t_diary, .int (zi c_t_acts), .int (zi c_t_next), .ref a_t_kept, .ref a_t_isKept, .ref a_t_script, .int (zi c_t_scriptSize), .int (zi c_t_spot), .ref a_t_read, .int (zi c_t_readHigh), .int (zi c_t_readWide), .ref a_t_wanted, .ref a_t_level, .ref a_t_chosen, .ref a_t_best])), (a_t_now, zI J 243 f_t_now)] [(0, .ref a_t), (1, .int (zi p0)), (2, .int (zi p1)), (3, .int (zi v82)), (4, .int (zi v83)), (5, .int (zi (1 : Int))), (6, .int (zi (0 : Int)))] [1, 0] [2, 3, 4, 5, 6, 1, 0] rfl rfl rfl ?_
      refine zl_X9_origins_L61_3 (F := F) (hk := fun v105 v106 hsh => ?_) _ _ _ hsh
      refine z_iload_n (pc' := 119) 3 dX9_origins_118 rfl rfl rfl ?_
      refine z_iload (pc' := 121) 5 dX9_origins_119 rfl rfl ?_
      have g107 := zkr_p hsh
      replace hsh := zkr_k hsh
      refine z_if_eq (pc' := 124) (tgt := 131) dX9_origins_121 (by decide) g107 rfl (fun q => ?_) (fun q => ?_)
      · replace hsh := zif_t q hsh
        refine z_iconst (pc' := 132) dX9_origins_131 rfl ?_
        refine z_ior (pc' := 133) dX9_origins_132 rfl ?_
        refine z_istore_n (pc' := 134) [(3, .int (zi (zor v82 (0 : Int)))), (0, .ref a_t), (1, .int (zi p0)), (2, .int (zi p1)), (4, .int (zi v83)), (5, .int (zi v105))] dX9_origins_133 rfl (by decide) rfl rfl ?_
        refine z_iinc (pc' := 137) [(4, .int (zi (v83 + (1 : Int)))), (3, .int (zi (zor v82 (0 : Int)))), (0, .ref a_t), (1, .int (zi p0)), (2, .int (zi p1)), (5, .int (zi v105))] 4 dX9_origins_134 rfl (by decide) rfl rfl ?_
        refine z_goto (tgt := 46) dX9_origins_137 (by decide) ?_
        refine z_perm [(a_t, .inr (8, [.int (zi q77.2), .int (zi c_t_high), .int (zi c_t_wide), .ref a_t_now, .ref a_t_trial, .ref a_t_diary, .int (zi c_t_acts), .int (zi c_t_next), .ref a_t_kept, .ref a_t_isKept, .ref a_t_script, .int (zi c_t_scriptSize), .int (zi c_t_spot), .ref a_t_read, .int (zi c_t_readHigh), .int (zi c_t_readWide), .ref a_t_wanted, .ref a_t_level, .ref a_t_chosen, .ref a_t_best])), (a_t_now, zI J 243 f_t_now)] [(0, .ref a_t), (1, .int (zi p0)), (2, .int (zi p1)), (3, .int (zi (zor v82 (0 : Int)))), (4, .int (zi (v83 + (1 : Int))))] [0, 1] [2, 3, 4, 1, 0] rfl rfl rfl ?_
        exact ih _ _ hsh
      · replace hsh := zif_f q hsh
        refine z_iconst (pc' := 125) dX9_origins_124 rfl ?_
        refine z_iload (pc' := 127) 4 dX9_origins_125 rfl rfl ?_
        refine z_ishl (pc' := 128) dX9_origins_127 rfl ?_
        refine z_goto (tgt := 132) dX9_origins_128 (by decide) ?_
        refine z_ior (pc' := 133) dX9_origins_132 rfl ?_
        refine z_istore_n (pc' := 134) [(3, .int (zi (zor v82 (zshl (1 : Int) v83)))), (0, .ref a_t), (1, .int (zi p0)), (2, .int (zi p1)), (4, .int (zi v83)), (5, .int (zi v105))] dX9_origins_133 rfl (by decide) rfl rfl ?_
        refine z_iinc (pc' := 137) [(4, .int (zi (v83 + (1 : Int)))), (3, .int (zi (zor v82 (zshl (1 : Int) v83)))), (0, .ref a_t), (1, .int (zi p0)), (2, .int (zi p1)), (5, .int (zi v105))] 4 dX9_origins_134 rfl (by decide) rfl rfl ?_
        refine z_goto (tgt := 46) dX9_origins_137 (by decide) ?_
        refine z_perm [(a_t, .inr (8, [.int (zi q77.2), .int (zi c_t_high), .int (zi c_t_wide), .ref a_t_now, .ref a_t_trial, .ref a_t_diary, .int (zi c_t_acts), .int (zi c_t_next), .ref a_t_kept, .ref a_t_isKept, .ref a_t_script, .int (zi c_t_scriptSize), .int (zi c_t_spot), .ref a_t_read, .int (zi c_t_readHigh), .int (zi c_t_readWide), .ref a_t_wanted, .ref a_t_level, .ref a_t_chosen, .ref a_t_best])), (a_t_now, zI J 243 f_t_now)] [(0, .ref a_t), (1, .int (zi p0)), (2, .int (zi p1)), (3, .int (zi (zor v82 (zshl (1 : Int) v83)))), (4, .int (zi (v83 + (1 : Int))))] [0, 1] [2, 3, 4, 1, 0] rfl rfl rfl ?_
        exact ih _ _ hsh
set_option maxRecDepth 100000 in
set_option maxHeartbeats 4000000 in
theorem zc_X9_origins (l : Launch) (D : va_G) (J : Nat → ClassId) (F : Nat) (a_t : Nat) (a_t_now : Nat) (a_t_trial : Nat) (a_t_diary : Nat) (a_t_kept : Nat) (a_t_isKept : Nat) (a_t_script : Nat) (a_t_read : Nat) (a_t_wanted : Nat) (a_t_level : Nat) (a_t_chosen : Nat) (a_t_best : Nat) (c_t_refusal : Int) (c_t_high : Int) (c_t_wide : Int) (c_t_acts : Int) (c_t_next : Int) (c_t_scriptSize : Int) (c_t_spot : Int) (c_t_readHigh : Int) (c_t_readWide : Int) (f_t_now : Nat → Int) (p0 : Int) (p1 : Int) (res : Int × Int) (hsh : sh_X9_origins F c_t_high c_t_wide f_t_now p0 p1 = some res) : ZM l D J yX9_origins wsX9_origins ({ frames := 1, cells := 0, slots := 0, locals := 26 } : Room) 0 0 [.ref a_t, .int (zi p0), .int (zi p1)] [(a_t, .inr (8, [.int (zi c_t_refusal), .int (zi c_t_high), .int (zi c_t_wide), .ref a_t_now, .ref a_t_trial, .ref a_t_diary, .int (zi c_t_acts), .int (zi c_t_next), .ref a_t_kept, .ref a_t_isKept, .ref a_t_script, .int (zi c_t_scriptSize), .int (zi c_t_spot), .ref a_t_read, .int (zi c_t_readHigh), .int (zi c_t_readWide), .ref a_t_wanted, .ref a_t_level, .ref a_t_chosen, .ref a_t_best])), (a_t_now, zI J 243 f_t_now)] (fun rv w9 => rv = some (.int (zi res.1)) ∧ w9 = [(a_t, .inr (8, [.int (zi res.2), .int (zi c_t_high), .int (zi c_t_wide), .ref a_t_now, .ref a_t_trial, .ref a_t_diary, .int (zi c_t_acts), .int (zi c_t_next), .ref a_t_kept, .ref a_t_isKept, .ref a_t_script, .int (zi c_t_scriptSize), .int (zi c_t_spot), .ref a_t_read, .int (zi c_t_readHigh), .int (zi c_t_readWide), .ref a_t_wanted, .ref a_t_level, .ref a_t_chosen, .ref a_t_best])), (a_t_now, zI J 243 f_t_now)]) := by
  refine z_ofZ (cc := cX9_origins) (maxL := 7) (ret := (some .int)) 0 0 (by decide) rfl (Nat.le_of_ble_eq_true rfl) [(0, .ref a_t), (1, .int (zi p0)), (2, .int (zi p1))] rfl ?_
  intro p e s m args below meth c A
  unfold sh_X9_origins at hsh
  refine z_aload_n (pc' := 1) 0 dX9_origins_0 rfl rfl rfl ?_
  refine z_iload_n (pc' := 2) 1 dX9_origins_1 rfl rfl rfl ?_
  have g1 := zkr_p hsh
  replace hsh := zkr_k hsh
  refine z_i2l (pc' := 3) dX9_origins_2 g1 rfl ?_
  refine z_lconst (pc' := 4) 1 dX9_origins_3 (by decide) rfl ?_
  refine z_ldc2 (pc' := 7) (9 : Int) dX9_origins_4 mX9_origins_k151 (by decide) rfl ?_
  obtain ⟨q2, h3, hsh⟩ := zbind hsh
  refine z_callS (pc' := 10) (As := [.long (zl p0), .long (zl (1 : Int)), .long (zl (9 : Int))]) (rest := [.ref a_t]) (wr := [(a_t, .inr (8, [.int (zi c_t_refusal), .int (zi c_t_high), .int (zi c_t_wide), .ref a_t_now, .ref a_t_trial, .ref a_t_diary, .int (zi c_t_acts), .int (zi c_t_next), .ref a_t_kept, .ref a_t_isKept, .ref a_t_script, .int (zi c_t_scriptSize), .int (zi c_t_spot), .ref a_t_read, .int (zi c_t_readHigh), .int (zi c_t_readWide), .ref a_t_wanted, .ref a_t_level, .ref a_t_chosen, .ref a_t_best])), (a_t_now, zI J 243 f_t_now)]) 3 (zc_X9_in l D J F (p0 := p0) (p1 := (1 : Int)) (p2 := (9 : Int))  q2 h3) dX9_origins_7 gX9_origins_X9_in rfl rfl rfl (by decide +kernel) ⟨Nat.le_of_ble_eq_true rfl, Nat.le_of_ble_eq_true rfl⟩ ⟨Nat.le_of_ble_eq_true rfl, Nat.le_of_ble_eq_true rfl⟩ (z_spl_of [0, 1] rfl rfl) rfl rfl (Nat.le_of_ble_eq_true rfl) rfl (fun rv w9 hq => ?_)
  obtain ⟨rfl, rfl⟩ := hq
  refine z_ws [(a_t, .inr (8, [.int (zi c_t_refusal), .int (zi c_t_high), .int (zi c_t_wide), .ref a_t_now, .ref a_t_trial, .ref a_t_diary, .int (zi c_t_acts), .int (zi c_t_next), .ref a_t_kept, .ref a_t_isKept, .ref a_t_script, .int (zi c_t_scriptSize), .int (zi c_t_spot), .ref a_t_read, .int (zi c_t_readHigh), .int (zi c_t_readWide), .ref a_t_wanted, .ref a_t_level, .ref a_t_chosen, .ref a_t_best])), (a_t_now, zI J 243 f_t_now)] rfl ?_
  have g4 := zkr_p hsh
  replace hsh := zkr_k hsh
  refine z_if_eq (pc' := 13) (tgt := 32) dX9_origins_10 (by decide) g4 rfl (fun q => ?_) (fun q => ?_)
  · replace hsh := zif_t q hsh
    refine z_iconst (pc' := 33) dX9_origins_32 rfl ?_
    obtain ⟨q5, h6, hsh⟩ := zbind hsh
    refine z_callV (pc' := 36) (C := RX9) (As := [.int (zi (1 : Int))]) (rest := []) (wr := [(a_t_now, zI J 243 f_t_now)]) 1 (zc_X9_refused l D J F (a_t := a_t) (a_t_now := a_t_now) (a_t_trial := a_t_trial) (a_t_diary := a_t_diary) (a_t_kept := a_t_kept) (a_t_isKept := a_t_isKept) (a_t_script := a_t_script) (a_t_read := a_t_read) (a_t_wanted := a_t_wanted) (a_t_level := a_t_level) (a_t_chosen := a_t_chosen) (a_t_best := a_t_best) (c_t_refusal := c_t_refusal) (c_t_high := c_t_high) (c_t_wide := c_t_wide) (c_t_acts := c_t_acts) (c_t_next := c_t_next) (c_t_scriptSize := c_t_scriptSize) (c_t_spot := c_t_spot) (c_t_readHigh := c_t_readHigh) (c_t_readWide := c_t_readWide) (p0 := (1 : Int))  q5 h6) dX9_origins_33 gX9_origins_X9_refused rfl rfl rfl (by decide +kernel) ⟨Nat.le_of_ble_eq_true rfl, Nat.le_of_ble_eq_true rfl⟩ ⟨Nat.le_of_ble_eq_true rfl, Nat.le_of_ble_eq_true rfl⟩ (z_spl_of [0, 1] rfl rfl) rfl rfl rfl rfl (Nat.le_of_ble_eq_true rfl) rfl (fun rv w9 hq => ?_)
    obtain ⟨rfl, rfl⟩ := hq
    refine z_ws [(a_t_now, zI J 243 f_t_now), (a_t, .inr (8, [.int (zi q5.2), .int (zi c_t_high), .int (zi c_t_wide), .ref a_t_now, .ref a_t_trial, .ref a_t_diary, .int (zi c_t_acts), .int (zi c_t_next), .ref a_t_kept, .ref a_t_isKept, .ref a_t_script, .int (zi c_t_scriptSize), .int (zi c_t_spot), .ref a_t_read, .int (zi c_t_readHigh), .int (zi c_t_readWide), .ref a_t_wanted, .ref a_t_level, .ref a_t_chosen, .ref a_t_best]))] rfl ?_
    have g7 := zkr_p hsh
    replace hsh := zkr_k hsh
    refine z_if_eq (pc' := 39) (tgt := 41) dX9_origins_36 (by decide) g7 rfl (fun q => ?_) (fun q => ?_)
    · replace hsh := zif_t q hsh
      refine z_iconst (pc' := 42) dX9_origins_41 rfl ?_
      refine z_istore_n (pc' := 43) [(3, .int (zi (0 : Int))), (0, .ref a_t), (1, .int (zi p0)), (2, .int (zi p1))] dX9_origins_42 rfl (by decide) rfl rfl ?_
      refine z_iconst (pc' := 44) dX9_origins_43 rfl ?_
      refine z_istore (pc' := 46) [(4, .int (zi (0 : Int))), (3, .int (zi (0 : Int))), (0, .ref a_t), (1, .int (zi p0)), (2, .int (zi p1))] dX9_origins_44 (by decide) rfl rfl ?_
      refine z_perm [(a_t, .inr (8, [.int (zi q5.2), .int (zi c_t_high), .int (zi c_t_wide), .ref a_t_now, .ref a_t_trial, .ref a_t_diary, .int (zi c_t_acts), .int (zi c_t_next), .ref a_t_kept, .ref a_t_isKept, .ref a_t_script, .int (zi c_t_scriptSize), .int (zi c_t_spot), .ref a_t_read, .int (zi c_t_readHigh), .int (zi c_t_readWide), .ref a_t_wanted, .ref a_t_level, .ref a_t_chosen, .ref a_t_best])), (a_t_now, zI J 243 f_t_now)] [(0, .ref a_t), (1, .int (zi p0)), (2, .int (zi p1)), (3, .int (zi (0 : Int))), (4, .int (zi (0 : Int)))] [1, 0] [2, 3, 4, 1, 0] rfl rfl rfl ?_
      refine zl_X9_origins_L46 (F := F) (hk := fun v36 v37 hsh => ?_) _ _ _ hsh
      refine z_iload_n (pc' := 141) 0 dX9_origins_140 rfl rfl rfl ?_
      cases hsh
      exact z_iret rfl dX9_origins_141 ⟨rfl, rfl⟩
    · replace hsh := zif_f q hsh
      refine z_iconst (pc' := 40) dX9_origins_39 rfl ?_
      refine z_perm [(a_t, .inr (8, [.int (zi q5.2), .int (zi c_t_high), .int (zi c_t_wide), .ref a_t_now, .ref a_t_trial, .ref a_t_diary, .int (zi c_t_acts), .int (zi c_t_next), .ref a_t_kept, .ref a_t_isKept, .ref a_t_script, .int (zi c_t_scriptSize), .int (zi c_t_spot), .ref a_t_read, .int (zi c_t_readHigh), .int (zi c_t_readWide), .ref a_t_wanted, .ref a_t_level, .ref a_t_chosen, .ref a_t_best])), (a_t_now, zI J 243 f_t_now)] [(0, .ref a_t), (1, .int (zi p0)), (2, .int (zi p1))] [1, 0] [0, 1, 2] rfl rfl rfl ?_
      cases hsh
      exact z_iret rfl dX9_origins_40 ⟨rfl, rfl⟩
  · replace hsh := zif_f q hsh
    refine z_iload_n (pc' := 14) 2 dX9_origins_13 rfl rfl rfl ?_
    have g38 := zkr_p hsh
    replace hsh := zkr_k hsh
    refine z_i2l (pc' := 15) dX9_origins_14 g38 rfl ?_
    refine z_lconst (pc' := 16) 0 dX9_origins_15 (by decide) rfl ?_
    refine z_iload_n (pc' := 17) 1 dX9_origins_16 rfl rfl rfl ?_
    obtain ⟨q39, h40, hsh⟩ := zbind hsh
    refine z_callS (pc' := 20) (As := [.int (zi p0)]) (rest := [.long (zl (0 : Int)), .long (zl p1), .ref a_t]) (wr := [(a_t, .inr (8, [.int (zi c_t_refusal), .int (zi c_t_high), .int (zi c_t_wide), .ref a_t_now, .ref a_t_trial, .ref a_t_diary, .int (zi c_t_acts), .int (zi c_t_next), .ref a_t_kept, .ref a_t_isKept, .ref a_t_script, .int (zi c_t_scriptSize), .int (zi c_t_spot), .ref a_t_read, .int (zi c_t_readHigh), .int (zi c_t_readWide), .ref a_t_wanted, .ref a_t_level, .ref a_t_chosen, .ref a_t_best])), (a_t_now, zI J 243 f_t_now)]) 1 (zc_X9_tens l D J F (p0 := p0)  q39 h40) dX9_origins_17 gX9_origins_X9_tens rfl rfl rfl (by decide +kernel) ⟨Nat.le_of_ble_eq_true rfl, Nat.le_of_ble_eq_true rfl⟩ ⟨Nat.le_of_ble_eq_true rfl, Nat.le_of_ble_eq_true rfl⟩ (z_spl_of [0, 1] rfl rfl) rfl rfl (Nat.le_of_ble_eq_true rfl) rfl (fun rv w9 hq => ?_)
    obtain ⟨rfl, rfl⟩ := hq
    refine z_ws [(a_t, .inr (8, [.int (zi c_t_refusal), .int (zi c_t_high), .int (zi c_t_wide), .ref a_t_now, .ref a_t_trial, .ref a_t_diary, .int (zi c_t_acts), .int (zi c_t_next), .ref a_t_kept, .ref a_t_isKept, .ref a_t_script, .int (zi c_t_scriptSize), .int (zi c_t_spot), .ref a_t_read, .int (zi c_t_readHigh), .int (zi c_t_readWide), .ref a_t_wanted, .ref a_t_level, .ref a_t_chosen, .ref a_t_best])), (a_t_now, zI J 243 f_t_now)] rfl ?_
    refine z_lconst (pc' := 21) 1 dX9_origins_20 (by decide) rfl ?_
    refine z_lsub (pc' := 22) dX9_origins_21 rfl ?_
    obtain ⟨q41, h42, hsh⟩ := zbind hsh
    refine z_callS (pc' := 25) (As := [.long (zl p1), .long (zl (0 : Int)), .long (zl (q39 - (1 : Int)))]) (rest := [.ref a_t]) (wr := [(a_t, .inr (8, [.int (zi c_t_refusal), .int (zi c_t_high), .int (zi c_t_wide), .ref a_t_now, .ref a_t_trial, .ref a_t_diary, .int (zi c_t_acts), .int (zi c_t_next), .ref a_t_kept, .ref a_t_isKept, .ref a_t_script, .int (zi c_t_scriptSize), .int (zi c_t_spot), .ref a_t_read, .int (zi c_t_readHigh), .int (zi c_t_readWide), .ref a_t_wanted, .ref a_t_level, .ref a_t_chosen, .ref a_t_best])), (a_t_now, zI J 243 f_t_now)]) 3 (zc_X9_in l D J F (p0 := p1) (p1 := (0 : Int)) (p2 := (q39 - (1 : Int)))  q41 h42) dX9_origins_22 gX9_origins_X9_in rfl rfl rfl (by decide +kernel) ⟨Nat.le_of_ble_eq_true rfl, Nat.le_of_ble_eq_true rfl⟩ ⟨Nat.le_of_ble_eq_true rfl, Nat.le_of_ble_eq_true rfl⟩ (z_spl_of [0, 1] rfl rfl) rfl rfl (Nat.le_of_ble_eq_true rfl) rfl (fun rv w9 hq => ?_)
    obtain ⟨rfl, rfl⟩ := hq
    refine z_ws [(a_t, .inr (8, [.int (zi c_t_refusal), .int (zi c_t_high), .int (zi c_t_wide), .ref a_t_now, .ref a_t_trial, .ref a_t_diary, .int (zi c_t_acts), .int (zi c_t_next), .ref a_t_kept, .ref a_t_isKept, .ref a_t_script, .int (zi c_t_scriptSize), .int (zi c_t_spot), .ref a_t_read, .int (zi c_t_readHigh), .int (zi c_t_readWide), .ref a_t_wanted, .ref a_t_level, .ref a_t_chosen, .ref a_t_best])), (a_t_now, zI J 243 f_t_now)] rfl ?_
    have g43 := zkr_p hsh
    replace hsh := zkr_k hsh
    refine z_if_eq (pc' := 28) (tgt := 32) dX9_origins_25 (by decide) g43 rfl (fun q => ?_) (fun q => ?_)
    · replace hsh := zif_t q hsh
      refine z_iconst (pc' := 33) dX9_origins_32 rfl ?_
      obtain ⟨q44, h45, hsh⟩ := zbind hsh
      refine z_callV (pc' := 36) (C := RX9) (As := [.int (zi (1 : Int))]) (rest := []) (wr := [(a_t_now, zI J 243 f_t_now)]) 1 (zc_X9_refused l D J F (a_t := a_t) (a_t_now := a_t_now) (a_t_trial := a_t_trial) (a_t_diary := a_t_diary) (a_t_kept := a_t_kept) (a_t_isKept := a_t_isKept) (a_t_script := a_t_script) (a_t_read := a_t_read) (a_t_wanted := a_t_wanted) (a_t_level := a_t_level) (a_t_chosen := a_t_chosen) (a_t_best := a_t_best) (c_t_refusal := c_t_refusal) (c_t_high := c_t_high) (c_t_wide := c_t_wide) (c_t_acts := c_t_acts) (c_t_next := c_t_next) (c_t_scriptSize := c_t_scriptSize) (c_t_spot := c_t_spot) (c_t_readHigh := c_t_readHigh) (c_t_readWide := c_t_readWide) (p0 := (1 : Int))  q44 h45) dX9_origins_33 gX9_origins_X9_refused rfl rfl rfl (by decide +kernel) ⟨Nat.le_of_ble_eq_true rfl, Nat.le_of_ble_eq_true rfl⟩ ⟨Nat.le_of_ble_eq_true rfl, Nat.le_of_ble_eq_true rfl⟩ (z_spl_of [0, 1] rfl rfl) rfl rfl rfl rfl (Nat.le_of_ble_eq_true rfl) rfl (fun rv w9 hq => ?_)
      obtain ⟨rfl, rfl⟩ := hq
      refine z_ws [(a_t_now, zI J 243 f_t_now), (a_t, .inr (8, [.int (zi q44.2), .int (zi c_t_high), .int (zi c_t_wide), .ref a_t_now, .ref a_t_trial, .ref a_t_diary, .int (zi c_t_acts), .int (zi c_t_next), .ref a_t_kept, .ref a_t_isKept, .ref a_t_script, .int (zi c_t_scriptSize), .int (zi c_t_spot), .ref a_t_read, .int (zi c_t_readHigh), .int (zi c_t_readWide), .ref a_t_wanted, .ref a_t_level, .ref a_t_chosen, .ref a_t_best]))] rfl ?_
      have g46 := zkr_p hsh
      replace hsh := zkr_k hsh
      refine z_if_eq (pc' := 39) (tgt := 41) dX9_origins_36 (by decide) g46 rfl (fun q => ?_) (fun q => ?_)
      · replace hsh := zif_t q hsh
        refine z_iconst (pc' := 42) dX9_origins_41 rfl ?_
        refine z_istore_n (pc' := 43) [(3, .int (zi (0 : Int))), (0, .ref a_t), (1, .int (zi p0)), (2, .int (zi p1))] dX9_origins_42 rfl (by decide) rfl rfl ?_
        refine z_iconst (pc' := 44) dX9_origins_43 rfl ?_
        refine z_istore (pc' := 46) [(4, .int (zi (0 : Int))), (3, .int (zi (0 : Int))), (0, .ref a_t), (1, .int (zi p0)), (2, .int (zi p1))] dX9_origins_44 (by decide) rfl rfl ?_
        refine z_perm [(a_t, .inr (8, [.int (zi q44.2), .int (zi c_t_high), .int (zi c_t_wide), .ref a_t_now, .ref a_t_trial, .ref a_t_diary, .int (zi c_t_acts), .int (zi c_t_next), .ref a_t_kept, .ref a_t_isKept, .ref a_t_script, .int (zi c_t_scriptSize), .int (zi c_t_spot), .ref a_t_read, .int (zi c_t_readHigh), .int (zi c_t_readWide), .ref a_t_wanted, .ref a_t_level, .ref a_t_chosen, .ref a_t_best])), (a_t_now, zI J 243 f_t_now)] [(0, .ref a_t), (1, .int (zi p0)), (2, .int (zi p1)), (3, .int (zi (0 : Int))), (4, .int (zi (0 : Int)))] [1, 0] [2, 3, 4, 1, 0] rfl rfl rfl ?_
        refine zl_X9_origins_L46_2 (F := F) (hk := fun v75 v76 hsh => ?_) _ _ _ hsh
        refine z_iload_n (pc' := 141) 0 dX9_origins_140 rfl rfl rfl ?_
        cases hsh
        exact z_iret rfl dX9_origins_141 ⟨rfl, rfl⟩
      · replace hsh := zif_f q hsh
        refine z_iconst (pc' := 40) dX9_origins_39 rfl ?_
        refine z_perm [(a_t, .inr (8, [.int (zi q44.2), .int (zi c_t_high), .int (zi c_t_wide), .ref a_t_now, .ref a_t_trial, .ref a_t_diary, .int (zi c_t_acts), .int (zi c_t_next), .ref a_t_kept, .ref a_t_isKept, .ref a_t_script, .int (zi c_t_scriptSize), .int (zi c_t_spot), .ref a_t_read, .int (zi c_t_readHigh), .int (zi c_t_readWide), .ref a_t_wanted, .ref a_t_level, .ref a_t_chosen, .ref a_t_best])), (a_t_now, zI J 243 f_t_now)] [(0, .ref a_t), (1, .int (zi p0)), (2, .int (zi p1))] [1, 0] [0, 1, 2] rfl rfl rfl ?_
        cases hsh
        exact z_iret rfl dX9_origins_40 ⟨rfl, rfl⟩
    · replace hsh := zif_f q hsh
      refine z_iconst (pc' := 29) dX9_origins_28 rfl ?_
      refine z_goto (tgt := 33) dX9_origins_29 (by decide) ?_
      obtain ⟨q77, h78, hsh⟩ := zbind hsh
      refine z_callV (pc' := 36) (C := RX9) (As := [.int (zi (0 : Int))]) (rest := []) (wr := [(a_t_now, zI J 243 f_t_now)]) 1 (zc_X9_refused l D J F (a_t := a_t) (a_t_now := a_t_now) (a_t_trial := a_t_trial) (a_t_diary := a_t_diary) (a_t_kept := a_t_kept) (a_t_isKept := a_t_isKept) (a_t_script := a_t_script) (a_t_read := a_t_read) (a_t_wanted := a_t_wanted) (a_t_level := a_t_level) (a_t_chosen := a_t_chosen) (a_t_best := a_t_best) (c_t_refusal := c_t_refusal) (c_t_high := c_t_high) (c_t_wide := c_t_wide) (c_t_acts := c_t_acts) (c_t_next := c_t_next) (c_t_scriptSize := c_t_scriptSize) (c_t_spot := c_t_spot) (c_t_readHigh := c_t_readHigh) (c_t_readWide := c_t_readWide) (p0 := (0 : Int))  q77 h78) dX9_origins_33 gX9_origins_X9_refused rfl rfl rfl (by decide +kernel) ⟨Nat.le_of_ble_eq_true rfl, Nat.le_of_ble_eq_true rfl⟩ ⟨Nat.le_of_ble_eq_true rfl, Nat.le_of_ble_eq_true rfl⟩ (z_spl_of [0, 1] rfl rfl) rfl rfl rfl rfl (Nat.le_of_ble_eq_true rfl) rfl (fun rv w9 hq => ?_)
      obtain ⟨rfl, rfl⟩ := hq
      refine z_ws [(a_t_now, zI J 243 f_t_now), (a_t, .inr (8, [.int (zi q77.2), .int (zi c_t_high), .int (zi c_t_wide), .ref a_t_now, .ref a_t_trial, .ref a_t_diary, .int (zi c_t_acts), .int (zi c_t_next), .ref a_t_kept, .ref a_t_isKept, .ref a_t_script, .int (zi c_t_scriptSize), .int (zi c_t_spot), .ref a_t_read, .int (zi c_t_readHigh), .int (zi c_t_readWide), .ref a_t_wanted, .ref a_t_level, .ref a_t_chosen, .ref a_t_best]))] rfl ?_
      have g79 := zkr_p hsh
      replace hsh := zkr_k hsh
      refine z_if_eq (pc' := 39) (tgt := 41) dX9_origins_36 (by decide) g79 rfl (fun q => ?_) (fun q => ?_)
      · replace hsh := zif_t q hsh
        refine z_iconst (pc' := 42) dX9_origins_41 rfl ?_
        refine z_istore_n (pc' := 43) [(3, .int (zi (0 : Int))), (0, .ref a_t), (1, .int (zi p0)), (2, .int (zi p1))] dX9_origins_42 rfl (by decide) rfl rfl ?_
        refine z_iconst (pc' := 44) dX9_origins_43 rfl ?_
        refine z_istore (pc' := 46) [(4, .int (zi (0 : Int))), (3, .int (zi (0 : Int))), (0, .ref a_t), (1, .int (zi p0)), (2, .int (zi p1))] dX9_origins_44 (by decide) rfl rfl ?_
        refine z_perm [(a_t, .inr (8, [.int (zi q77.2), .int (zi c_t_high), .int (zi c_t_wide), .ref a_t_now, .ref a_t_trial, .ref a_t_diary, .int (zi c_t_acts), .int (zi c_t_next), .ref a_t_kept, .ref a_t_isKept, .ref a_t_script, .int (zi c_t_scriptSize), .int (zi c_t_spot), .ref a_t_read, .int (zi c_t_readHigh), .int (zi c_t_readWide), .ref a_t_wanted, .ref a_t_level, .ref a_t_chosen, .ref a_t_best])), (a_t_now, zI J 243 f_t_now)] [(0, .ref a_t), (1, .int (zi p0)), (2, .int (zi p1)), (3, .int (zi (0 : Int))), (4, .int (zi (0 : Int)))] [1, 0] [2, 3, 4, 1, 0] rfl rfl rfl ?_
        refine zl_X9_origins_L46_3 (F := F) (hk := fun v108 v109 hsh => ?_) _ _ _ hsh
        refine z_iload_n (pc' := 141) 0 dX9_origins_140 rfl rfl rfl ?_
        cases hsh
        exact z_iret rfl dX9_origins_141 ⟨rfl, rfl⟩
      · replace hsh := zif_f q hsh
        refine z_iconst (pc' := 40) dX9_origins_39 rfl ?_
        refine z_perm [(a_t, .inr (8, [.int (zi q77.2), .int (zi c_t_high), .int (zi c_t_wide), .ref a_t_now, .ref a_t_trial, .ref a_t_diary, .int (zi c_t_acts), .int (zi c_t_next), .ref a_t_kept, .ref a_t_isKept, .ref a_t_script, .int (zi c_t_scriptSize), .int (zi c_t_spot), .ref a_t_read, .int (zi c_t_readHigh), .int (zi c_t_readWide), .ref a_t_wanted, .ref a_t_level, .ref a_t_chosen, .ref a_t_best])), (a_t_now, zI J 243 f_t_now)] [(0, .ref a_t), (1, .int (zi p0)), (2, .int (zi p1))] [1, 0] [0, 1, 2] rfl rfl rfl ?_
        cases hsh
        exact z_iret rfl dX9_origins_40 ⟨rfl, rfl⟩
def sh_X9_drawMany_L2 (F : Nat) (p0 : Int) (p1 : Int) (c_t_high : Int) (c_t_wide : Int) (k : Int → (Nat → Int) → Option (Int × (Nat → Int))) : Nat → Int → (Nat → Int) → Option (Int × (Nat → Int))
  | 0, _, _ => none
  | N + 1, v4, v5 => zkr v4 (zkr p1 (if v4 < p1 then (sh_X9_isReadyIn F c_t_high c_t_wide v5 243 (0 : Int) p0).bind (fun (q8 : Int) => zkr q8 (if q8 = (0 : Int) then some ((0 : Int), v5) else (sh_X9_take F v5 243 (0 : Int) p0).bind (fun (q11 : Int × (Nat → Int)) => sh_X9_drawMany_L2 F p0 p1 c_t_high c_t_wide k N (v4 + (1 : Int)) q11.2))) else k v4 v5))
def sh_X9_drawMany (F : Nat) (c_t_high : Int) (c_t_wide : Int) (f_t_trial : Nat → Int) (p0 : Int) (p1 : Int) : Option (Int × (Nat → Int)) := sh_X9_drawMany_L2 F p0 p1 c_t_high c_t_wide (fun (v13 : Int) (v14 : (Nat → Int)) => zkr p1 (if (0 : Int) < p1 then some ((1 : Int), v14) else some ((0 : Int), v14))) F (0 : Int) f_t_trial
theorem mX9_drawMany_f20 : Cond.fieldLink RX9 20 (TX9 4).1 (TX9 4).2.1 (TX9 4).2.2.1 ∈ wsX9_drawMany := List.mem_of_getElem? (i := 1) rfl
theorem iX9_drawMany_X9 : ∀ w ∈ wsX90, w ∈ wsX9_drawMany := fun _ h => (List.mem_cons_of_mem _ (List.mem_append_right _ h))
set_option maxRecDepth 100000 in
set_option maxHeartbeats 4000000 in
theorem zl_X9_drawMany_L2 {p : Program} {l : Launch} {e : Env} {s : State} {m : MethodId} {args : Array Value} {below : List Frame} {meth : Method} {c : Code} {A : Nat → Prop} {D : va_G} {J : Nat → ClassId} {F : Nat} {p0 : Int} {p1 : Int} {c_t_high : Int} {c_t_wide : Int} {a_t : Nat} {c_t_refusal : Int} {a_t_now : Nat} {a_t_trial : Nat} {a_t_diary : Nat} {c_t_acts : Int} {c_t_next : Int} {a_t_kept : Nat} {a_t_isKept : Nat} {a_t_script : Nat} {c_t_scriptSize : Int} {c_t_spot : Int} {a_t_read : Nat} {c_t_readHigh : Int} {c_t_readWide : Int} {a_t_wanted : Nat} {a_t_level : Nat} {a_t_chosen : Nat} {a_t_best : Nat} {res : Int × (Nat → Int)} {k : Int → (Nat → Int) → Option (Int × (Nat → Int))} (hk : ∀ (v4' : Int) (v5' : (Nat → Int)), k v4' v5' = some res → Z p l e ({ frames := 4, cells := 0, slots := 0, locals := 98 } : Room) s m args below meth c (MQ below (zQ D J A (fun rv w9 => rv = some (.int (zi res.1)) ∧ w9 = [(a_t, .inr (8, [.int (zi c_t_refusal), .int (zi c_t_high), .int (zi c_t_wide), .ref a_t_now, .ref a_t_trial, .ref a_t_diary, .int (zi c_t_acts), .int (zi c_t_next), .ref a_t_kept, .ref a_t_isKept, .ref a_t_script, .int (zi c_t_scriptSize), .int (zi c_t_spot), .ref a_t_read, .int (zi c_t_readHigh), .int (zi c_t_readWide), .ref a_t_wanted, .ref a_t_level, .ref a_t_chosen, .ref a_t_best])), (a_t_trial, zI J 243 res.2)])) args s 0 0 A) cX9_drawMany 4 wsX9_drawMany RX9 D J A (some .boolean) (yX9_drawMany.name, []) 0 0 [(a_t, .inr (8, [.int (zi c_t_refusal), .int (zi c_t_high), .int (zi c_t_wide), .ref a_t_now, .ref a_t_trial, .ref a_t_diary, .int (zi c_t_acts), .int (zi c_t_next), .ref a_t_kept, .ref a_t_isKept, .ref a_t_script, .int (zi c_t_scriptSize), .int (zi c_t_spot), .ref a_t_read, .int (zi c_t_readHigh), .int (zi c_t_readWide), .ref a_t_wanted, .ref a_t_level, .ref a_t_chosen, .ref a_t_best])), (a_t_trial, zI J 243 v5')] [(2, .int (zi p1))] 38 []) : ∀ (N : Nat) (v4 : Int) (v5 : (Nat → Int)), sh_X9_drawMany_L2 F p0 p1 c_t_high c_t_wide k N v4 v5 = some res → Z p l e ({ frames := 4, cells := 0, slots := 0, locals := 98 } : Room) s m args below meth c (MQ below (zQ D J A (fun rv w9 => rv = some (.int (zi res.1)) ∧ w9 = [(a_t, .inr (8, [.int (zi c_t_refusal), .int (zi c_t_high), .int (zi c_t_wide), .ref a_t_now, .ref a_t_trial, .ref a_t_diary, .int (zi c_t_acts), .int (zi c_t_next), .ref a_t_kept, .ref a_t_isKept, .ref a_t_script, .int (zi c_t_scriptSize), .int (zi c_t_spot), .ref a_t_read, .int (zi c_t_readHigh), .int (zi c_t_readWide), .ref a_t_wanted, .ref a_t_level, .ref a_t_chosen, .ref a_t_best])), (a_t_trial, zI J 243 res.2)])) args s 0 0 A) cX9_drawMany 4 wsX9_drawMany RX9 D J A (some .boolean) (yX9_drawMany.name, []) 0 0 [(a_t, .inr (8, [.int (zi c_t_refusal), .int (zi c_t_high), .int (zi c_t_wide), .ref a_t_now, .ref a_t_trial, .ref a_t_diary, .int (zi c_t_acts), .int (zi c_t_next), .ref a_t_kept, .ref a_t_isKept, .ref a_t_script, .int (zi c_t_scriptSize), .int (zi c_t_spot), .ref a_t_read, .int (zi c_t_readHigh), .int (zi c_t_readWide), .ref a_t_wanted, .ref a_t_level, .ref a_t_chosen, .ref a_t_best])), (a_t_trial, zI J 243 v5)] [(0, .ref a_t), (1, .int (zi p0)), (2, .int (zi p1)), (3, .int (zi v4))] 2 [] := by
  intro N
  induction N with
  | zero =>
    intro v4 v5 hsh
    exact absurd hsh (by simp [sh_X9_drawMany_L2])
  | succ N ih =>
    intro v4 v5 hsh
    rw [sh_X9_drawMany_L2] at hsh
    refine z_iload_n (pc' := 3) 3 dX9_drawMany_2 rfl rfl rfl ?_
    refine z_iload_n (pc' := 4) 2 dX9_drawMany_3 rfl rfl rfl ?_
    have g6 := zkr_p hsh
    replace hsh := zkr_k hsh
    have g7 := zkr_p hsh
    replace hsh := zkr_k hsh
    refine z_icmp_ge (pc' := 7) (tgt := 38) dX9_drawMany_4 (by decide) g6 g7 rfl (fun q => ?_) (fun q => ?_)
    · replace hsh := zif_f q hsh
      refine z_perm [(a_t, .inr (8, [.int (zi c_t_refusal), .int (zi c_t_high), .int (zi c_t_wide), .ref a_t_now, .ref a_t_trial, .ref a_t_diary, .int (zi c_t_acts), .int (zi c_t_next), .ref a_t_kept, .ref a_t_isKept, .ref a_t_script, .int (zi c_t_scriptSize), .int (zi c_t_spot), .ref a_t_read, .int (zi c_t_readHigh), .int (zi c_t_readWide), .ref a_t_wanted, .ref a_t_level, .ref a_t_chosen, .ref a_t_best])), (a_t_trial, zI J 243 v5)] [(2, .int (zi p1))] [0, 1] [2] rfl rfl rfl ?_
      exact hk _ _ hsh
    · replace hsh := zif_t q hsh
      refine z_aload_n (pc' := 8) 0 dX9_drawMany_7 rfl rfl rfl ?_
      refine z_aload_n (pc' := 9) 0 dX9_drawMany_8 rfl rfl rfl ?_
      refine z_getfield (pc' := 12) (C := RX9) (T := TX9) (N := 20) 0 4 dX9_drawMany_9 iX9_drawMany_X9 rfl rfl (by decide) mX9_drawMany_f20 rfl rfl ?_
      refine z_iconst (pc' := 13) dX9_drawMany_12 rfl ?_
      refine z_iload_n (pc' := 14) 1 dX9_drawMany_13 rfl rfl rfl ?_
      obtain ⟨q8, h9, hsh⟩ := zbind hsh
      refine z_callV (pc' := 17) (C := RX9) (As := [.ref a_t_trial, .int (zi (0 : Int)), .int (zi p0)]) (rest := []) (wr := []) 3 (zc_X9_isReadyIn l D J F (a_t := a_t) (a_p0 := a_t_trial) (a_t_now := a_t_now) (a_t_trial := a_t_trial) (a_t_diary := a_t_diary) (a_t_kept := a_t_kept) (a_t_isKept := a_t_isKept) (a_t_script := a_t_script) (a_t_read := a_t_read) (a_t_wanted := a_t_wanted) (a_t_level := a_t_level) (a_t_chosen := a_t_chosen) (a_t_best := a_t_best) (c_t_refusal := c_t_refusal) (c_t_high := c_t_high) (c_t_wide := c_t_wide) (c_t_acts := c_t_acts) (c_t_next := c_t_next) (c_t_scriptSize := c_t_scriptSize) (c_t_spot := c_t_spot) (c_t_readHigh := c_t_readHigh) (c_t_readWide := c_t_readWide) (f_p0 := v5) (n_p0 := 243) (p1 := (0 : Int)) (p2 := p0) (hn_p0 := (by decide)) q8 h9) dX9_drawMany_14 gX9_drawMany_X9_isReadyIn rfl rfl rfl (by decide +kernel) ⟨Nat.le_of_ble_eq_true rfl, Nat.le_of_ble_eq_true rfl⟩ ⟨Nat.le_of_ble_eq_true rfl, Nat.le_of_ble_eq_true rfl⟩ (z_spl_of [0, 1] rfl rfl) rfl rfl rfl rfl (Nat.le_of_ble_eq_true rfl) rfl (fun rv w9 hq => ?_)
      obtain ⟨rfl, rfl⟩ := hq
      refine z_ws [(a_t, .inr (8, [.int (zi c_t_refusal), .int (zi c_t_high), .int (zi c_t_wide), .ref a_t_now, .ref a_t_trial, .ref a_t_diary, .int (zi c_t_acts), .int (zi c_t_next), .ref a_t_kept, .ref a_t_isKept, .ref a_t_script, .int (zi c_t_scriptSize), .int (zi c_t_spot), .ref a_t_read, .int (zi c_t_readHigh), .int (zi c_t_readWide), .ref a_t_wanted, .ref a_t_level, .ref a_t_chosen, .ref a_t_best])), (a_t_trial, zI J 243 v5)] rfl ?_
      have g10 := zkr_p hsh
      replace hsh := zkr_k hsh
      refine z_if_ne (pc' := 20) (tgt := 22) dX9_drawMany_17 (by decide) g10 rfl (fun q => ?_) (fun q => ?_)
      · replace hsh := zif_f q hsh
        refine z_aload_n (pc' := 23) 0 dX9_drawMany_22 rfl rfl rfl ?_
        refine z_getfield (pc' := 26) (C := RX9) (T := TX9) (N := 20) 0 4 dX9_drawMany_23 iX9_drawMany_X9 rfl rfl (by decide) mX9_drawMany_f20 rfl rfl ?_
        refine z_iconst (pc' := 27) dX9_drawMany_26 rfl ?_
        refine z_iload_n (pc' := 28) 1 dX9_drawMany_27 rfl rfl rfl ?_
        obtain ⟨q11, h12, hsh⟩ := zbind hsh
        refine z_callS (pc' := 31) (As := [.ref a_t_trial, .int (zi (0 : Int)), .int (zi p0)]) (rest := []) (wr := [(a_t, .inr (8, [.int (zi c_t_refusal), .int (zi c_t_high), .int (zi c_t_wide), .ref a_t_now, .ref a_t_trial, .ref a_t_diary, .int (zi c_t_acts), .int (zi c_t_next), .ref a_t_kept, .ref a_t_isKept, .ref a_t_script, .int (zi c_t_scriptSize), .int (zi c_t_spot), .ref a_t_read, .int (zi c_t_readHigh), .int (zi c_t_readWide), .ref a_t_wanted, .ref a_t_level, .ref a_t_chosen, .ref a_t_best]))]) 3 (zc_X9_take l D J F (a_p0 := a_t_trial) (f_p0 := v5) (n_p0 := 243) (p1 := (0 : Int)) (p2 := p0) (hn_p0 := (by decide)) q11 h12) dX9_drawMany_28 gX9_drawMany_X9_take rfl rfl rfl (by decide +kernel) ⟨Nat.le_of_ble_eq_true rfl, Nat.le_of_ble_eq_true rfl⟩ ⟨Nat.le_of_ble_eq_true rfl, Nat.le_of_ble_eq_true rfl⟩ (z_spl_of [1, 0] rfl rfl) rfl rfl (Nat.le_of_ble_eq_true rfl) rfl (fun rv w9 hq => ?_)
        obtain ⟨rfl, rfl⟩ := hq
        refine z_ws [(a_t, .inr (8, [.int (zi c_t_refusal), .int (zi c_t_high), .int (zi c_t_wide), .ref a_t_now, .ref a_t_trial, .ref a_t_diary, .int (zi c_t_acts), .int (zi c_t_next), .ref a_t_kept, .ref a_t_isKept, .ref a_t_script, .int (zi c_t_scriptSize), .int (zi c_t_spot), .ref a_t_read, .int (zi c_t_readHigh), .int (zi c_t_readWide), .ref a_t_wanted, .ref a_t_level, .ref a_t_chosen, .ref a_t_best])), (a_t_trial, zI J 243 q11.2)] rfl ?_
        refine z_pop (pc' := 32) dX9_drawMany_31 rfl rfl ?_
        refine z_iinc (pc' := 35) [(3, .int (zi (v4 + (1 : Int)))), (0, .ref a_t), (1, .int (zi p0)), (2, .int (zi p1))] 3 dX9_drawMany_32 rfl (by decide) rfl rfl ?_
        refine z_goto (tgt := 2) dX9_drawMany_35 (by decide) ?_
        refine z_perm [(a_t, .inr (8, [.int (zi c_t_refusal), .int (zi c_t_high), .int (zi c_t_wide), .ref a_t_now, .ref a_t_trial, .ref a_t_diary, .int (zi c_t_acts), .int (zi c_t_next), .ref a_t_kept, .ref a_t_isKept, .ref a_t_script, .int (zi c_t_scriptSize), .int (zi c_t_spot), .ref a_t_read, .int (zi c_t_readHigh), .int (zi c_t_readWide), .ref a_t_wanted, .ref a_t_level, .ref a_t_chosen, .ref a_t_best])), (a_t_trial, zI J 243 q11.2)] [(0, .ref a_t), (1, .int (zi p0)), (2, .int (zi p1)), (3, .int (zi (v4 + (1 : Int))))] [0, 1] [1, 2, 3, 0] rfl rfl rfl ?_
        exact ih _ _ hsh
      · replace hsh := zif_t q hsh
        refine z_iconst (pc' := 21) dX9_drawMany_20 rfl ?_
        cases hsh
        exact z_zret rfl (by decide) dX9_drawMany_21 ⟨rfl, rfl⟩
set_option maxRecDepth 100000 in
set_option maxHeartbeats 4000000 in
theorem zc_X9_drawMany (l : Launch) (D : va_G) (J : Nat → ClassId) (F : Nat) (a_t : Nat) (a_t_now : Nat) (a_t_trial : Nat) (a_t_diary : Nat) (a_t_kept : Nat) (a_t_isKept : Nat) (a_t_script : Nat) (a_t_read : Nat) (a_t_wanted : Nat) (a_t_level : Nat) (a_t_chosen : Nat) (a_t_best : Nat) (c_t_refusal : Int) (c_t_high : Int) (c_t_wide : Int) (c_t_acts : Int) (c_t_next : Int) (c_t_scriptSize : Int) (c_t_spot : Int) (c_t_readHigh : Int) (c_t_readWide : Int) (f_t_trial : Nat → Int) (p0 : Int) (p1 : Int) (res : Int × (Nat → Int)) (hsh : sh_X9_drawMany F c_t_high c_t_wide f_t_trial p0 p1 = some res) : ZM l D J yX9_drawMany wsX9_drawMany ({ frames := 4, cells := 0, slots := 0, locals := 98 } : Room) 0 0 [.ref a_t, .int (zi p0), .int (zi p1)] [(a_t, .inr (8, [.int (zi c_t_refusal), .int (zi c_t_high), .int (zi c_t_wide), .ref a_t_now, .ref a_t_trial, .ref a_t_diary, .int (zi c_t_acts), .int (zi c_t_next), .ref a_t_kept, .ref a_t_isKept, .ref a_t_script, .int (zi c_t_scriptSize), .int (zi c_t_spot), .ref a_t_read, .int (zi c_t_readHigh), .int (zi c_t_readWide), .ref a_t_wanted, .ref a_t_level, .ref a_t_chosen, .ref a_t_best])), (a_t_trial, zI J 243 f_t_trial)] (fun rv w9 => rv = some (.int (zi res.1)) ∧ w9 = [(a_t, .inr (8, [.int (zi c_t_refusal), .int (zi c_t_high), .int (zi c_t_wide), .ref a_t_now, .ref a_t_trial, .ref a_t_diary, .int (zi c_t_acts), .int (zi c_t_next), .ref a_t_kept, .ref a_t_isKept, .ref a_t_script, .int (zi c_t_scriptSize), .int (zi c_t_spot), .ref a_t_read, .int (zi c_t_readHigh), .int (zi c_t_readWide), .ref a_t_wanted, .ref a_t_level, .ref a_t_chosen, .ref a_t_best])), (a_t_trial, zI J 243 res.2)]) := by
  refine z_ofZ (cc := cX9_drawMany) (maxL := 4) (ret := (some .boolean)) 0 0 (by decide) rfl (Nat.le_of_ble_eq_true rfl) [(0, .ref a_t), (1, .int (zi p0)), (2, .int (zi p1))] rfl ?_
  intro p e s m args below meth c A
  unfold sh_X9_drawMany at hsh
  refine z_iconst (pc' := 1) dX9_drawMany_0 rfl ?_
  refine z_istore_n (pc' := 2) [(3, .int (zi (0 : Int))), (0, .ref a_t), (1, .int (zi p0)), (2, .int (zi p1))] dX9_drawMany_1 rfl (by decide) rfl rfl ?_
  refine z_perm [(a_t, .inr (8, [.int (zi c_t_refusal), .int (zi c_t_high), .int (zi c_t_wide), .ref a_t_now, .ref a_t_trial, .ref a_t_diary, .int (zi c_t_acts), .int (zi c_t_next), .ref a_t_kept, .ref a_t_isKept, .ref a_t_script, .int (zi c_t_scriptSize), .int (zi c_t_spot), .ref a_t_read, .int (zi c_t_readHigh), .int (zi c_t_readWide), .ref a_t_wanted, .ref a_t_level, .ref a_t_chosen, .ref a_t_best])), (a_t_trial, zI J 243 f_t_trial)] [(0, .ref a_t), (1, .int (zi p0)), (2, .int (zi p1)), (3, .int (zi (0 : Int)))] [0, 1] [1, 2, 3, 0] rfl rfl rfl ?_
  refine zl_X9_drawMany_L2 (F := F) (hk := fun v13 v14 hsh => ?_) _ _ _ hsh
  refine z_iload_n (pc' := 39) 0 dX9_drawMany_38 rfl rfl rfl ?_
  have g15 := zkr_p hsh
  replace hsh := zkr_k hsh
  refine z_if_le (pc' := 42) (tgt := 46) dX9_drawMany_39 (by decide) g15 rfl (fun q => ?_) (fun q => ?_)
  · replace hsh := zif_f q hsh
    refine z_iconst (pc' := 47) dX9_drawMany_46 rfl ?_
    cases hsh
    exact z_zret rfl (by decide) dX9_drawMany_47 ⟨rfl, rfl⟩
  · replace hsh := zif_t q hsh
    refine z_iconst (pc' := 43) dX9_drawMany_42 rfl ?_
    refine z_goto (tgt := 47) dX9_drawMany_43 (by decide) ?_
    cases hsh
    exact z_zret rfl (by decide) dX9_drawMany_47 ⟨rfl, rfl⟩
def sh_X9_turn (F : Nat) (f_t_trial : Nat → Int) (p0 : Int) (p1 : Int) : Option (Int × (Nat → Int)) := zkx (((15 : Int) * p0) + (1 : Int)) 243 (zkr (f_t_trial ((((15 : Int) * p0) + (1 : Int))).toNat) (zkr p1 (if (f_t_trial ((((15 : Int) * p0) + (1 : Int))).toNat) = p1 then some ((0 : Int), (va_up f_t_trial ((((15 : Int) * p0) + (1 : Int))).toNat p1)) else some ((1 : Int), (va_up f_t_trial ((((15 : Int) * p0) + (1 : Int))).toNat p1)))))
theorem mX9_turn_f20 : Cond.fieldLink RX9 20 (TX9 4).1 (TX9 4).2.1 (TX9 4).2.2.1 ∈ wsX9_turn := List.mem_of_getElem? (i := 1) rfl
theorem iX9_turn_X9 : ∀ w ∈ wsX90, w ∈ wsX9_turn := fun _ h => (List.mem_cons_of_mem _ (List.mem_append_right _ h))
set_option maxRecDepth 100000 in
set_option maxHeartbeats 4000000 in
theorem zc_X9_turn (l : Launch) (D : va_G) (J : Nat → ClassId) (F : Nat) (a_t : Nat) (a_t_now : Nat) (a_t_trial : Nat) (a_t_diary : Nat) (a_t_kept : Nat) (a_t_isKept : Nat) (a_t_script : Nat) (a_t_read : Nat) (a_t_wanted : Nat) (a_t_level : Nat) (a_t_chosen : Nat) (a_t_best : Nat) (c_t_refusal : Int) (c_t_high : Int) (c_t_wide : Int) (c_t_acts : Int) (c_t_next : Int) (c_t_scriptSize : Int) (c_t_spot : Int) (c_t_readHigh : Int) (c_t_readWide : Int) (f_t_trial : Nat → Int) (p0 : Int) (p1 : Int) (res : Int × (Nat → Int)) (hsh : sh_X9_turn F f_t_trial p0 p1 = some res) : ZM l D J yX9_turn wsX9_turn ({ frames := 0, cells := 0, slots := 0, locals := 0 } : Room) 0 0 [.ref a_t, .int (zi p0), .int (zi p1)] [(a_t, .inr (8, [.int (zi c_t_refusal), .int (zi c_t_high), .int (zi c_t_wide), .ref a_t_now, .ref a_t_trial, .ref a_t_diary, .int (zi c_t_acts), .int (zi c_t_next), .ref a_t_kept, .ref a_t_isKept, .ref a_t_script, .int (zi c_t_scriptSize), .int (zi c_t_spot), .ref a_t_read, .int (zi c_t_readHigh), .int (zi c_t_readWide), .ref a_t_wanted, .ref a_t_level, .ref a_t_chosen, .ref a_t_best])), (a_t_trial, zI J 243 f_t_trial)] (fun rv w9 => rv = some (.int (zi res.1)) ∧ w9 = [(a_t, .inr (8, [.int (zi c_t_refusal), .int (zi c_t_high), .int (zi c_t_wide), .ref a_t_now, .ref a_t_trial, .ref a_t_diary, .int (zi c_t_acts), .int (zi c_t_next), .ref a_t_kept, .ref a_t_isKept, .ref a_t_script, .int (zi c_t_scriptSize), .int (zi c_t_spot), .ref a_t_read, .int (zi c_t_readHigh), .int (zi c_t_readWide), .ref a_t_wanted, .ref a_t_level, .ref a_t_chosen, .ref a_t_best])), (a_t_trial, zI J 243 res.2)]) := by
  refine z_ofZ (cc := cX9_turn) (maxL := 4) (ret := (some .boolean)) 0 0 (by decide) rfl (Nat.le_of_ble_eq_true rfl) [(0, .ref a_t), (1, .int (zi p0)), (2, .int (zi p1))] rfl ?_
  intro p e s m args below meth c A
  unfold sh_X9_turn at hsh
  refine z_aload_n (pc' := 1) 0 dX9_turn_0 rfl rfl rfl ?_
  refine z_getfield (pc' := 4) (C := RX9) (T := TX9) (N := 20) 0 4 dX9_turn_1 iX9_turn_X9 rfl rfl (by decide) mX9_turn_f20 rfl rfl ?_
  refine z_bipush (pc' := 6) dX9_turn_4 (by decide) rfl ?_
  refine z_iload_n (pc' := 7) 1 dX9_turn_6 rfl rfl rfl ?_
  refine z_imul (pc' := 8) dX9_turn_7 rfl ?_
  refine z_iconst (pc' := 9) dX9_turn_8 rfl ?_
  refine z_iadd (pc' := 10) dX9_turn_9 rfl ?_
  have g1 := zkx_p hsh
  replace hsh := zkx_k hsh
  refine z_iaload (pc' := 11) 1 dX9_turn_10 rfl (by decide) g1 rfl ?_
  refine z_iload_n (pc' := 12) 2 dX9_turn_11 rfl rfl rfl ?_
  have g2 := zkr_p hsh
  replace hsh := zkr_k hsh
  have g3 := zkr_p hsh
  replace hsh := zkr_k hsh
  refine z_icmp_eq (pc' := 15) (tgt := 19) dX9_turn_12 (by decide) g2 g3 rfl (fun q => ?_) (fun q => ?_)
  · replace hsh := zif_t q hsh
    refine z_iconst (pc' := 20) dX9_turn_19 rfl ?_
    refine z_istore_n (pc' := 21) [(3, .int (zi (0 : Int))), (0, .ref a_t), (1, .int (zi p0)), (2, .int (zi p1))] dX9_turn_20 rfl (by decide) rfl rfl ?_
    refine z_aload_n (pc' := 22) 1 dX9_turn_21 rfl rfl rfl ?_
    refine z_getfield (pc' := 25) (C := RX9) (T := TX9) (N := 20) 0 4 dX9_turn_22 iX9_turn_X9 rfl rfl (by decide) mX9_turn_f20 rfl rfl ?_
    refine z_bipush (pc' := 27) dX9_turn_25 (by decide) rfl ?_
    refine z_iload_n (pc' := 28) 2 dX9_turn_27 rfl rfl rfl ?_
    refine z_imul (pc' := 29) dX9_turn_28 rfl ?_
    refine z_iconst (pc' := 30) dX9_turn_29 rfl ?_
    refine z_iadd (pc' := 31) dX9_turn_30 rfl ?_
    refine z_iload_n (pc' := 32) 3 dX9_turn_31 rfl rfl rfl ?_
    refine z_iastore (pc' := 33) 1 [(a_t, .inr (8, [.int (zi c_t_refusal), .int (zi c_t_high), .int (zi c_t_wide), .ref a_t_now, .ref a_t_trial, .ref a_t_diary, .int (zi c_t_acts), .int (zi c_t_next), .ref a_t_kept, .ref a_t_isKept, .ref a_t_script, .int (zi c_t_scriptSize), .int (zi c_t_spot), .ref a_t_read, .int (zi c_t_readHigh), .int (zi c_t_readWide), .ref a_t_wanted, .ref a_t_level, .ref a_t_chosen, .ref a_t_best])), (a_t_trial, zI J 243 (va_up f_t_trial ((((15 : Int) * p0) + (1 : Int))).toNat p1))] dX9_turn_32 rfl (by decide) g1 rfl rfl ?_
    refine z_iload_n (pc' := 34) 0 dX9_turn_33 rfl rfl rfl ?_
    cases hsh
    exact z_zret rfl (by decide) dX9_turn_34 ⟨rfl, rfl⟩
  · replace hsh := zif_f q hsh
    refine z_iconst (pc' := 16) dX9_turn_15 rfl ?_
    refine z_goto (tgt := 20) dX9_turn_16 (by decide) ?_
    refine z_istore_n (pc' := 21) [(3, .int (zi (1 : Int))), (0, .ref a_t), (1, .int (zi p0)), (2, .int (zi p1))] dX9_turn_20 rfl (by decide) rfl rfl ?_
    refine z_aload_n (pc' := 22) 1 dX9_turn_21 rfl rfl rfl ?_
    refine z_getfield (pc' := 25) (C := RX9) (T := TX9) (N := 20) 0 4 dX9_turn_22 iX9_turn_X9 rfl rfl (by decide) mX9_turn_f20 rfl rfl ?_
    refine z_bipush (pc' := 27) dX9_turn_25 (by decide) rfl ?_
    refine z_iload_n (pc' := 28) 2 dX9_turn_27 rfl rfl rfl ?_
    refine z_imul (pc' := 29) dX9_turn_28 rfl ?_
    refine z_iconst (pc' := 30) dX9_turn_29 rfl ?_
    refine z_iadd (pc' := 31) dX9_turn_30 rfl ?_
    refine z_iload_n (pc' := 32) 3 dX9_turn_31 rfl rfl rfl ?_
    refine z_iastore (pc' := 33) 1 [(a_t, .inr (8, [.int (zi c_t_refusal), .int (zi c_t_high), .int (zi c_t_wide), .ref a_t_now, .ref a_t_trial, .ref a_t_diary, .int (zi c_t_acts), .int (zi c_t_next), .ref a_t_kept, .ref a_t_isKept, .ref a_t_script, .int (zi c_t_scriptSize), .int (zi c_t_spot), .ref a_t_read, .int (zi c_t_readHigh), .int (zi c_t_readWide), .ref a_t_wanted, .ref a_t_level, .ref a_t_chosen, .ref a_t_best])), (a_t_trial, zI J 243 (va_up f_t_trial ((((15 : Int) * p0) + (1 : Int))).toNat p1))] dX9_turn_32 rfl (by decide) g1 rfl rfl ?_
    refine z_iload_n (pc' := 34) 0 dX9_turn_33 rfl rfl rfl ?_
    cases hsh
    exact z_zret rfl (by decide) dX9_turn_34 ⟨rfl, rfl⟩
def sh_X9_command (F : Nat) (c_t_high : Int) (c_t_wide : Int) (f_t_trial : Nat → Int) (p0 : Int) : Option (Int × (Nat → Int)) := zkr p0 (zkr (zdiv p0 (10 : Int)) (zkr (zdiv p0 (1000 : Int)) (if (zdiv p0 (1000 : Int)) = (6 : Int) then zkr (zdiv p0 (100 : Int)) (zkr (zmod (zdiv p0 (100 : Int)) (10 : Int)) (if (zmod (zdiv p0 (100 : Int)) (10 : Int)) = (0 : Int) then zkr (zmod p0 (100 : Int)) (if (0 : Int) < (zmod p0 (100 : Int)) then (sh_X9_goByOrder F c_t_high c_t_wide f_t_trial 243 (zmod p0 (100 : Int))).bind (fun (q31 : Int × (Nat → Int)) => zkr q31.1 (if q31.1 = (zmod p0 (100 : Int)) then some ((1 : Int), q31.2) else some ((0 : Int), q31.2))) else some ((0 : Int), f_t_trial)) else some ((0 : Int), f_t_trial))) else (sh_X9_isPoint F c_t_high c_t_wide (zmod (zdiv p0 (10 : Int)) (100 : Int))).bind (fun (q4 : Int) => zkr q4 (if q4 = (0 : Int) then some ((0 : Int), f_t_trial) else (if (zdiv p0 (1000 : Int)) = (1 : Int) then (sh_X9_drawMany F c_t_high c_t_wide f_t_trial (zmod (zdiv p0 (10 : Int)) (100 : Int)) (zmod p0 (10 : Int))).bind (fun (q7 : Int × (Nat → Int)) => zkc (q7.1 = 0 ∨ q7.1 = 1) (some (q7.1, q7.2))) else if (zdiv p0 (1000 : Int)) = (2 : Int) then zkr (zmod p0 (10 : Int)) (if (zmod p0 (10 : Int)) = (0 : Int) then (sh_X9_turn F f_t_trial (zmod (zdiv p0 (10 : Int)) (100 : Int)) (1 : Int)).bind (fun (q11 : Int × (Nat → Int)) => zkr q11.1 (if q11.1 = (0 : Int) then some ((0 : Int), q11.2) else some ((1 : Int), q11.2))) else some ((0 : Int), f_t_trial)) else if (zdiv p0 (1000 : Int)) = (3 : Int) then zkr (zmod p0 (10 : Int)) (if (zmod p0 (10 : Int)) = (0 : Int) then (sh_X9_turn F f_t_trial (zmod (zdiv p0 (10 : Int)) (100 : Int)) (0 : Int)).bind (fun (q15 : Int × (Nat → Int)) => zkr q15.1 (if q15.1 = (0 : Int) then some ((0 : Int), q15.2) else some ((1 : Int), q15.2))) else some ((0 : Int), f_t_trial)) else if (zdiv p0 (1000 : Int)) = (4 : Int) then (sh_X9_slackOf F c_t_high c_t_wide f_t_trial 243 (0 : Int) (zmod (zdiv p0 (10 : Int)) (100 : Int))).bind (fun (q18 : Int) => zkr q18 (zkr (zmod p0 (10 : Int)) (if q18 = (zmod p0 (10 : Int)) then some ((1 : Int), f_t_trial) else some ((0 : Int), f_t_trial)))) else if (zdiv p0 (1000 : Int)) = (5 : Int) then zkx (((15 : Int) * (zmod (zdiv p0 (10 : Int)) (100 : Int))) + (2 : Int)) 243 (zkr (f_t_trial ((((15 : Int) * (zmod (zdiv p0 (10 : Int)) (100 : Int))) + (2 : Int))).toNat) (if (0 : Int) < (f_t_trial ((((15 : Int) * (zmod (zdiv p0 (10 : Int)) (100 : Int))) + (2 : Int))).toNat) then (sh_X9_gradeOf F f_t_trial 243 (0 : Int) (zmod (zdiv p0 (10 : Int)) (100 : Int)) (0 : Int)).bind (fun (q24 : Int) => zkr q24 (zkr (zmod p0 (10 : Int)) (if q24 < (zmod p0 (10 : Int)) then some ((0 : Int), f_t_trial) else some ((1 : Int), f_t_trial)))) else some ((0 : Int), f_t_trial))) else some ((0 : Int), f_t_trial)))))))
theorem mX9_command_f20 : Cond.fieldLink RX9 20 (TX9 4).1 (TX9 4).2.1 (TX9 4).2.2.1 ∈ wsX9_command := List.mem_of_getElem? (i := 1) rfl
theorem iX9_command_X9 : ∀ w ∈ wsX90, w ∈ wsX9_command := fun _ h => (List.mem_cons_of_mem _ (List.mem_append_right _ h))
set_option maxRecDepth 100000 in
set_option maxHeartbeats 4000000 in
theorem zc_X9_command (l : Launch) (D : va_G) (J : Nat → ClassId) (F : Nat) (a_t : Nat) (a_t_now : Nat) (a_t_trial : Nat) (a_t_diary : Nat) (a_t_kept : Nat) (a_t_isKept : Nat) (a_t_script : Nat) (a_t_read : Nat) (a_t_wanted : Nat) (a_t_level : Nat) (a_t_chosen : Nat) (a_t_best : Nat) (c_t_refusal : Int) (c_t_high : Int) (c_t_wide : Int) (c_t_acts : Int) (c_t_next : Int) (c_t_scriptSize : Int) (c_t_spot : Int) (c_t_readHigh : Int) (c_t_readWide : Int) (f_t_trial : Nat → Int) (p0 : Int) (res : Int × (Nat → Int)) (hsh : sh_X9_command F c_t_high c_t_wide f_t_trial p0 = some res) : ZM l D J yX9_command wsX9_command ({ frames := 5, cells := 0, slots := 0, locals := 126 } : Room) 0 0 [.ref a_t, .int (zi p0)] [(a_t, .inr (8, [.int (zi c_t_refusal), .int (zi c_t_high), .int (zi c_t_wide), .ref a_t_now, .ref a_t_trial, .ref a_t_diary, .int (zi c_t_acts), .int (zi c_t_next), .ref a_t_kept, .ref a_t_isKept, .ref a_t_script, .int (zi c_t_scriptSize), .int (zi c_t_spot), .ref a_t_read, .int (zi c_t_readHigh), .int (zi c_t_readWide), .ref a_t_wanted, .ref a_t_level, .ref a_t_chosen, .ref a_t_best])), (a_t_trial, zI J 243 f_t_trial)] (fun rv w9 => rv = some (.int (zi res.1)) ∧ w9 = [(a_t, .inr (8, [.int (zi c_t_refusal), .int (zi c_t_high), .int (zi c_t_wide), .ref a_t_now, .ref a_t_trial, .ref a_t_diary, .int (zi c_t_acts), .int (zi c_t_next), .ref a_t_kept, .ref a_t_isKept, .ref a_t_script, .int (zi c_t_scriptSize), .int (zi c_t_spot), .ref a_t_read, .int (zi c_t_readHigh), .int (zi c_t_readWide), .ref a_t_wanted, .ref a_t_level, .ref a_t_chosen, .ref a_t_best])), (a_t_trial, zI J 243 res.2)]) := by
  refine z_ofZ (cc := cX9_command) (maxL := 6) (ret := (some .boolean)) 0 0 (by decide) rfl (Nat.le_of_ble_eq_true rfl) [(0, .ref a_t), (1, .int (zi p0))] rfl ?_
  intro p e s m args below meth c A
  unfold sh_X9_command at hsh
  refine z_iload_n (pc' := 1) 1 dX9_command_0 rfl rfl rfl ?_
  refine z_sipush (pc' := 4) dX9_command_1 (by decide) rfl ?_
  have g1 := zkr_p hsh
  replace hsh := zkr_k hsh
  refine z_idiv (pc' := 5) dX9_command_4 g1 (by decide) (by decide) rfl ?_
  refine z_istore_n (pc' := 6) [(2, .int (zi (zdiv p0 (1000 : Int)))), (0, .ref a_t), (1, .int (zi p0))] dX9_command_5 rfl (by decide) rfl rfl ?_
  refine z_iload_n (pc' := 7) 2 dX9_command_6 rfl rfl rfl ?_
  refine z_bipush (pc' := 9) dX9_command_7 (by decide) rfl ?_
  refine z_idiv (pc' := 10) dX9_command_9 g1 (by decide) (by decide) rfl ?_
  refine z_bipush (pc' := 12) dX9_command_10 (by decide) rfl ?_
  have g2 := zkr_p hsh
  replace hsh := zkr_k hsh
  refine z_irem (pc' := 13) dX9_command_12 g2 (by decide) (by decide) rfl ?_
  refine z_istore_n (pc' := 14) [(3, .int (zi (zmod (zdiv p0 (10 : Int)) (100 : Int)))), (2, .int (zi (zdiv p0 (1000 : Int)))), (0, .ref a_t), (1, .int (zi p0))] dX9_command_13 rfl (by decide) rfl rfl ?_
  refine z_iload_n (pc' := 15) 3 dX9_command_14 rfl rfl rfl ?_
  refine z_bipush (pc' := 17) dX9_command_15 (by decide) rfl ?_
  refine z_irem (pc' := 18) dX9_command_17 g1 (by decide) (by decide) rfl ?_
  refine z_istore (pc' := 20) [(4, .int (zi (zmod p0 (10 : Int)))), (3, .int (zi (zmod (zdiv p0 (10 : Int)) (100 : Int)))), (2, .int (zi (zdiv p0 (1000 : Int)))), (0, .ref a_t), (1, .int (zi p0))] dX9_command_18 (by decide) rfl rfl ?_
  refine z_iload_n (pc' := 21) 2 dX9_command_20 rfl rfl rfl ?_
  refine z_bipush (pc' := 23) dX9_command_21 (by decide) rfl ?_
  have g3 := zkr_p hsh
  replace hsh := zkr_k hsh
  refine z_icmp_ne (pc' := 26) (tgt := 68) dX9_command_23 (by decide) g3 (by decide) rfl (fun q => ?_) (fun q => ?_)
  · replace hsh := zif_f q hsh
    refine z_aload_n (pc' := 69) 3 dX9_command_68 rfl rfl rfl ?_
    refine z_iload_n (pc' := 70) 1 dX9_command_69 rfl rfl rfl ?_
    obtain ⟨q4, h5, hsh⟩ := zbind hsh
    refine z_callV (pc' := 73) (C := RX9) (As := [.int (zi (zmod (zdiv p0 (10 : Int)) (100 : Int)))]) (rest := []) (wr := [(a_t_trial, zI J 243 f_t_trial)]) 1 (zc_X9_isPoint l D J F (a_t := a_t) (a_t_now := a_t_now) (a_t_trial := a_t_trial) (a_t_diary := a_t_diary) (a_t_kept := a_t_kept) (a_t_isKept := a_t_isKept) (a_t_script := a_t_script) (a_t_read := a_t_read) (a_t_wanted := a_t_wanted) (a_t_level := a_t_level) (a_t_chosen := a_t_chosen) (a_t_best := a_t_best) (c_t_refusal := c_t_refusal) (c_t_high := c_t_high) (c_t_wide := c_t_wide) (c_t_acts := c_t_acts) (c_t_next := c_t_next) (c_t_scriptSize := c_t_scriptSize) (c_t_spot := c_t_spot) (c_t_readHigh := c_t_readHigh) (c_t_readWide := c_t_readWide) (p0 := (zmod (zdiv p0 (10 : Int)) (100 : Int)))  q4 h5) dX9_command_70 gX9_command_X9_isPoint rfl rfl rfl (by decide +kernel) ⟨Nat.le_of_ble_eq_true rfl, Nat.le_of_ble_eq_true rfl⟩ ⟨Nat.le_of_ble_eq_true rfl, Nat.le_of_ble_eq_true rfl⟩ (z_spl_of [0, 1] rfl rfl) rfl rfl rfl rfl (Nat.le_of_ble_eq_true rfl) rfl (fun rv w9 hq => ?_)
    obtain ⟨rfl, rfl⟩ := hq
    refine z_ws [(a_t_trial, zI J 243 f_t_trial), (a_t, .inr (8, [.int (zi c_t_refusal), .int (zi c_t_high), .int (zi c_t_wide), .ref a_t_now, .ref a_t_trial, .ref a_t_diary, .int (zi c_t_acts), .int (zi c_t_next), .ref a_t_kept, .ref a_t_isKept, .ref a_t_script, .int (zi c_t_scriptSize), .int (zi c_t_spot), .ref a_t_read, .int (zi c_t_readHigh), .int (zi c_t_readWide), .ref a_t_wanted, .ref a_t_level, .ref a_t_chosen, .ref a_t_best]))] rfl ?_
    have g6 := zkr_p hsh
    replace hsh := zkr_k hsh
    refine z_if_ne (pc' := 76) (tgt := 78) dX9_command_73 (by decide) g6 rfl (fun q => ?_) (fun q => ?_)
    · replace hsh := zif_f q hsh
      refine z_iload_n (pc' := 79) 2 dX9_command_78 rfl rfl rfl ?_
      by_cases q1 : (zdiv p0 (1000 : Int)) = (1 : Int)
      · replace hsh := zif_t q1 hsh
        refine z_tableIn (k := (1 : Int)) (off := 33) (tgt := 112) dX9_command_79 q1 g3 (by decide) (by decide) rfl (by decide) ?_
        refine z_aload_n (pc' := 113) 3 dX9_command_112 rfl rfl rfl ?_
        refine z_iload_n (pc' := 114) 1 dX9_command_113 rfl rfl rfl ?_
        refine z_iload (pc' := 116) 0 dX9_command_114 rfl rfl ?_
        obtain ⟨q7, h8, hsh⟩ := zbind hsh
        refine z_callV (pc' := 119) (C := RX9) (As := [.int (zi (zmod (zdiv p0 (10 : Int)) (100 : Int))), .int (zi (zmod p0 (10 : Int)))]) (rest := []) (wr := []) 2 (zc_X9_drawMany l D J F (a_t := a_t) (a_t_now := a_t_now) (a_t_trial := a_t_trial) (a_t_diary := a_t_diary) (a_t_kept := a_t_kept) (a_t_isKept := a_t_isKept) (a_t_script := a_t_script) (a_t_read := a_t_read) (a_t_wanted := a_t_wanted) (a_t_level := a_t_level) (a_t_chosen := a_t_chosen) (a_t_best := a_t_best) (c_t_refusal := c_t_refusal) (c_t_high := c_t_high) (c_t_wide := c_t_wide) (c_t_acts := c_t_acts) (c_t_next := c_t_next) (c_t_scriptSize := c_t_scriptSize) (c_t_spot := c_t_spot) (c_t_readHigh := c_t_readHigh) (c_t_readWide := c_t_readWide) (f_t_trial := f_t_trial) (p0 := (zmod (zdiv p0 (10 : Int)) (100 : Int))) (p1 := (zmod p0 (10 : Int)))  q7 h8) dX9_command_116 gX9_command_X9_drawMany rfl rfl rfl (by decide +kernel) ⟨Nat.le_of_ble_eq_true rfl, Nat.le_of_ble_eq_true rfl⟩ ⟨Nat.le_of_ble_eq_true rfl, Nat.le_of_ble_eq_true rfl⟩ (z_spl_of [1, 0] rfl rfl) rfl rfl rfl rfl (Nat.le_of_ble_eq_true rfl) rfl (fun rv w9 hq => ?_)
        obtain ⟨rfl, rfl⟩ := hq
        refine z_ws [(a_t, .inr (8, [.int (zi c_t_refusal), .int (zi c_t_high), .int (zi c_t_wide), .ref a_t_now, .ref a_t_trial, .ref a_t_diary, .int (zi c_t_acts), .int (zi c_t_next), .ref a_t_kept, .ref a_t_isKept, .ref a_t_script, .int (zi c_t_scriptSize), .int (zi c_t_spot), .ref a_t_read, .int (zi c_t_readHigh), .int (zi c_t_readWide), .ref a_t_wanted, .ref a_t_level, .ref a_t_chosen, .ref a_t_best])), (a_t_trial, zI J 243 q7.2)] rfl ?_
        have g9 := zkc_p hsh
        replace hsh := zkc_k hsh
        cases hsh
        exact z_zret rfl (zn_z g9) dX9_command_119 ⟨rfl, rfl⟩
      replace hsh := zif_f q1 hsh
      by_cases q2 : (zdiv p0 (1000 : Int)) = (2 : Int)
      · replace hsh := zif_t q2 hsh
        refine z_tableIn (k := (2 : Int)) (off := 41) (tgt := 120) dX9_command_79 q2 g3 (by decide) (by decide) rfl (by decide) ?_
        refine z_iload (pc' := 122) 0 dX9_command_120 rfl rfl ?_
        have g10 := zkr_p hsh
        replace hsh := zkr_k hsh
        refine z_if_ne (pc' := 125) (tgt := 138) dX9_command_122 (by decide) g10 rfl (fun q => ?_) (fun q => ?_)
        · replace hsh := zif_f q hsh
          refine z_iconst (pc' := 139) dX9_command_138 rfl ?_
          refine z_perm [(a_t, .inr (8, [.int (zi c_t_refusal), .int (zi c_t_high), .int (zi c_t_wide), .ref a_t_now, .ref a_t_trial, .ref a_t_diary, .int (zi c_t_acts), .int (zi c_t_next), .ref a_t_kept, .ref a_t_isKept, .ref a_t_script, .int (zi c_t_scriptSize), .int (zi c_t_spot), .ref a_t_read, .int (zi c_t_readHigh), .int (zi c_t_readWide), .ref a_t_wanted, .ref a_t_level, .ref a_t_chosen, .ref a_t_best])), (a_t_trial, zI J 243 f_t_trial)] [(4, .int (zi (zmod p0 (10 : Int)))), (3, .int (zi (zmod (zdiv p0 (10 : Int)) (100 : Int)))), (2, .int (zi (zdiv p0 (1000 : Int)))), (0, .ref a_t), (1, .int (zi p0))] [1, 0] [0, 1, 2, 3, 4] rfl rfl rfl ?_
          cases hsh
          exact z_zret rfl (by decide) dX9_command_139 ⟨rfl, rfl⟩
        · replace hsh := zif_t q hsh
          refine z_aload_n (pc' := 126) 3 dX9_command_125 rfl rfl rfl ?_
          refine z_iload_n (pc' := 127) 1 dX9_command_126 rfl rfl rfl ?_
          refine z_iconst (pc' := 128) dX9_command_127 rfl ?_
          obtain ⟨q11, h12, hsh⟩ := zbind hsh
          refine z_callV (pc' := 131) (C := RX9) (As := [.int (zi (zmod (zdiv p0 (10 : Int)) (100 : Int))), .int (zi (1 : Int))]) (rest := []) (wr := []) 2 (zc_X9_turn l D J F (a_t := a_t) (a_t_now := a_t_now) (a_t_trial := a_t_trial) (a_t_diary := a_t_diary) (a_t_kept := a_t_kept) (a_t_isKept := a_t_isKept) (a_t_script := a_t_script) (a_t_read := a_t_read) (a_t_wanted := a_t_wanted) (a_t_level := a_t_level) (a_t_chosen := a_t_chosen) (a_t_best := a_t_best) (c_t_refusal := c_t_refusal) (c_t_high := c_t_high) (c_t_wide := c_t_wide) (c_t_acts := c_t_acts) (c_t_next := c_t_next) (c_t_scriptSize := c_t_scriptSize) (c_t_spot := c_t_spot) (c_t_readHigh := c_t_readHigh) (c_t_readWide := c_t_readWide) (f_t_trial := f_t_trial) (p0 := (zmod (zdiv p0 (10 : Int)) (100 : Int))) (p1 := (1 : Int))  q11 h12) dX9_command_128 gX9_command_X9_turn rfl rfl rfl (by decide +kernel) ⟨Nat.le_of_ble_eq_true rfl, Nat.le_of_ble_eq_true rfl⟩ ⟨Nat.le_of_ble_eq_true rfl, Nat.le_of_ble_eq_true rfl⟩ (z_spl_of [1, 0] rfl rfl) rfl rfl rfl rfl (Nat.le_of_ble_eq_true rfl) rfl (fun rv w9 hq => ?_)
          obtain ⟨rfl, rfl⟩ := hq
          refine z_ws [(a_t, .inr (8, [.int (zi c_t_refusal), .int (zi c_t_high), .int (zi c_t_wide), .ref a_t_now, .ref a_t_trial, .ref a_t_diary, .int (zi c_t_acts), .int (zi c_t_next), .ref a_t_kept, .ref a_t_isKept, .ref a_t_script, .int (zi c_t_scriptSize), .int (zi c_t_spot), .ref a_t_read, .int (zi c_t_readHigh), .int (zi c_t_readWide), .ref a_t_wanted, .ref a_t_level, .ref a_t_chosen, .ref a_t_best])), (a_t_trial, zI J 243 q11.2)] rfl ?_
          have g13 := zkr_p hsh
          replace hsh := zkr_k hsh
          refine z_if_eq (pc' := 134) (tgt := 138) dX9_command_131 (by decide) g13 rfl (fun q => ?_) (fun q => ?_)
          · replace hsh := zif_t q hsh
            refine z_iconst (pc' := 139) dX9_command_138 rfl ?_
            cases hsh
            exact z_zret rfl (by decide) dX9_command_139 ⟨rfl, rfl⟩
          · replace hsh := zif_f q hsh
            refine z_iconst (pc' := 135) dX9_command_134 rfl ?_
            refine z_goto (tgt := 139) dX9_command_135 (by decide) ?_
            cases hsh
            exact z_zret rfl (by decide) dX9_command_139 ⟨rfl, rfl⟩
      replace hsh := zif_f q2 hsh
      by_cases q3 : (zdiv p0 (1000 : Int)) = (3 : Int)
      · replace hsh := zif_t q3 hsh
        refine z_tableIn (k := (3 : Int)) (off := 61) (tgt := 140) dX9_command_79 q3 g3 (by decide) (by decide) rfl (by decide) ?_
        refine z_iload (pc' := 142) 0 dX9_command_140 rfl rfl ?_
        have g14 := zkr_p hsh
        replace hsh := zkr_k hsh
        refine z_if_ne (pc' := 145) (tgt := 158) dX9_command_142 (by decide) g14 rfl (fun q => ?_) (fun q => ?_)
        · replace hsh := zif_f q hsh
          refine z_iconst (pc' := 159) dX9_command_158 rfl ?_
          refine z_perm [(a_t, .inr (8, [.int (zi c_t_refusal), .int (zi c_t_high), .int (zi c_t_wide), .ref a_t_now, .ref a_t_trial, .ref a_t_diary, .int (zi c_t_acts), .int (zi c_t_next), .ref a_t_kept, .ref a_t_isKept, .ref a_t_script, .int (zi c_t_scriptSize), .int (zi c_t_spot), .ref a_t_read, .int (zi c_t_readHigh), .int (zi c_t_readWide), .ref a_t_wanted, .ref a_t_level, .ref a_t_chosen, .ref a_t_best])), (a_t_trial, zI J 243 f_t_trial)] [(4, .int (zi (zmod p0 (10 : Int)))), (3, .int (zi (zmod (zdiv p0 (10 : Int)) (100 : Int)))), (2, .int (zi (zdiv p0 (1000 : Int)))), (0, .ref a_t), (1, .int (zi p0))] [1, 0] [0, 1, 2, 3, 4] rfl rfl rfl ?_
          cases hsh
          exact z_zret rfl (by decide) dX9_command_159 ⟨rfl, rfl⟩
        · replace hsh := zif_t q hsh
          refine z_aload_n (pc' := 146) 3 dX9_command_145 rfl rfl rfl ?_
          refine z_iload_n (pc' := 147) 1 dX9_command_146 rfl rfl rfl ?_
          refine z_iconst (pc' := 148) dX9_command_147 rfl ?_
          obtain ⟨q15, h16, hsh⟩ := zbind hsh
          refine z_callV (pc' := 151) (C := RX9) (As := [.int (zi (zmod (zdiv p0 (10 : Int)) (100 : Int))), .int (zi (0 : Int))]) (rest := []) (wr := []) 2 (zc_X9_turn l D J F (a_t := a_t) (a_t_now := a_t_now) (a_t_trial := a_t_trial) (a_t_diary := a_t_diary) (a_t_kept := a_t_kept) (a_t_isKept := a_t_isKept) (a_t_script := a_t_script) (a_t_read := a_t_read) (a_t_wanted := a_t_wanted) (a_t_level := a_t_level) (a_t_chosen := a_t_chosen) (a_t_best := a_t_best) (c_t_refusal := c_t_refusal) (c_t_high := c_t_high) (c_t_wide := c_t_wide) (c_t_acts := c_t_acts) (c_t_next := c_t_next) (c_t_scriptSize := c_t_scriptSize) (c_t_spot := c_t_spot) (c_t_readHigh := c_t_readHigh) (c_t_readWide := c_t_readWide) (f_t_trial := f_t_trial) (p0 := (zmod (zdiv p0 (10 : Int)) (100 : Int))) (p1 := (0 : Int))  q15 h16) dX9_command_148 gX9_command_X9_turn rfl rfl rfl (by decide +kernel) ⟨Nat.le_of_ble_eq_true rfl, Nat.le_of_ble_eq_true rfl⟩ ⟨Nat.le_of_ble_eq_true rfl, Nat.le_of_ble_eq_true rfl⟩ (z_spl_of [1, 0] rfl rfl) rfl rfl rfl rfl (Nat.le_of_ble_eq_true rfl) rfl (fun rv w9 hq => ?_)
          obtain ⟨rfl, rfl⟩ := hq
          refine z_ws [(a_t, .inr (8, [.int (zi c_t_refusal), .int (zi c_t_high), .int (zi c_t_wide), .ref a_t_now, .ref a_t_trial, .ref a_t_diary, .int (zi c_t_acts), .int (zi c_t_next), .ref a_t_kept, .ref a_t_isKept, .ref a_t_script, .int (zi c_t_scriptSize), .int (zi c_t_spot), .ref a_t_read, .int (zi c_t_readHigh), .int (zi c_t_readWide), .ref a_t_wanted, .ref a_t_level, .ref a_t_chosen, .ref a_t_best])), (a_t_trial, zI J 243 q15.2)] rfl ?_
          have g17 := zkr_p hsh
          replace hsh := zkr_k hsh
          refine z_if_eq (pc' := 154) (tgt := 158) dX9_command_151 (by decide) g17 rfl (fun q => ?_) (fun q => ?_)
          · replace hsh := zif_t q hsh
            refine z_iconst (pc' := 159) dX9_command_158 rfl ?_
            cases hsh
            exact z_zret rfl (by decide) dX9_command_159 ⟨rfl, rfl⟩
          · replace hsh := zif_f q hsh
            refine z_iconst (pc' := 155) dX9_command_154 rfl ?_
            refine z_goto (tgt := 159) dX9_command_155 (by decide) ?_
            cases hsh
            exact z_zret rfl (by decide) dX9_command_159 ⟨rfl, rfl⟩
      replace hsh := zif_f q3 hsh
      by_cases q4 : (zdiv p0 (1000 : Int)) = (4 : Int)
      · replace hsh := zif_t q4 hsh
        refine z_tableIn (k := (4 : Int)) (off := 81) (tgt := 160) dX9_command_79 q4 g3 (by decide) (by decide) rfl (by decide) ?_
        refine z_aload_n (pc' := 161) 3 dX9_command_160 rfl rfl rfl ?_
        refine z_aload_n (pc' := 162) 3 dX9_command_161 rfl rfl rfl ?_
        refine z_getfield (pc' := 165) (C := RX9) (T := TX9) (N := 20) 1 4 dX9_command_162 iX9_command_X9 rfl rfl (by decide) mX9_command_f20 rfl rfl ?_
        refine z_iconst (pc' := 166) dX9_command_165 rfl ?_
        refine z_iload_n (pc' := 167) 1 dX9_command_166 rfl rfl rfl ?_
        obtain ⟨q18, h19, hsh⟩ := zbind hsh
        refine z_callV (pc' := 170) (C := RX9) (As := [.ref a_t_trial, .int (zi (0 : Int)), .int (zi (zmod (zdiv p0 (10 : Int)) (100 : Int)))]) (rest := []) (wr := []) 3 (zc_X9_slackOf l D J F (a_t := a_t) (a_p0 := a_t_trial) (a_t_now := a_t_now) (a_t_trial := a_t_trial) (a_t_diary := a_t_diary) (a_t_kept := a_t_kept) (a_t_isKept := a_t_isKept) (a_t_script := a_t_script) (a_t_read := a_t_read) (a_t_wanted := a_t_wanted) (a_t_level := a_t_level) (a_t_chosen := a_t_chosen) (a_t_best := a_t_best) (c_t_refusal := c_t_refusal) (c_t_high := c_t_high) (c_t_wide := c_t_wide) (c_t_acts := c_t_acts) (c_t_next := c_t_next) (c_t_scriptSize := c_t_scriptSize) (c_t_spot := c_t_spot) (c_t_readHigh := c_t_readHigh) (c_t_readWide := c_t_readWide) (f_p0 := f_t_trial) (n_p0 := 243) (p1 := (0 : Int)) (p2 := (zmod (zdiv p0 (10 : Int)) (100 : Int))) (hn_p0 := (by decide)) q18 h19) dX9_command_167 gX9_command_X9_slackOf rfl rfl rfl (by decide +kernel) ⟨Nat.le_of_ble_eq_true rfl, Nat.le_of_ble_eq_true rfl⟩ ⟨Nat.le_of_ble_eq_true rfl, Nat.le_of_ble_eq_true rfl⟩ (z_spl_of [1, 0] rfl rfl) rfl rfl rfl rfl (Nat.le_of_ble_eq_true rfl) rfl (fun rv w9 hq => ?_)
        obtain ⟨rfl, rfl⟩ := hq
        refine z_ws [(a_t, .inr (8, [.int (zi c_t_refusal), .int (zi c_t_high), .int (zi c_t_wide), .ref a_t_now, .ref a_t_trial, .ref a_t_diary, .int (zi c_t_acts), .int (zi c_t_next), .ref a_t_kept, .ref a_t_isKept, .ref a_t_script, .int (zi c_t_scriptSize), .int (zi c_t_spot), .ref a_t_read, .int (zi c_t_readHigh), .int (zi c_t_readWide), .ref a_t_wanted, .ref a_t_level, .ref a_t_chosen, .ref a_t_best])), (a_t_trial, zI J 243 f_t_trial)] rfl ?_
        refine z_iload (pc' := 172) 0 dX9_command_170 rfl rfl ?_
        have g20 := zkr_p hsh
        replace hsh := zkr_k hsh
        have g21 := zkr_p hsh
        replace hsh := zkr_k hsh
        refine z_icmp_ne (pc' := 175) (tgt := 179) dX9_command_172 (by decide) g20 g21 rfl (fun q => ?_) (fun q => ?_)
        · replace hsh := zif_f q hsh
          refine z_iconst (pc' := 180) dX9_command_179 rfl ?_
          cases hsh
          exact z_zret rfl (by decide) dX9_command_180 ⟨rfl, rfl⟩
        · replace hsh := zif_t q hsh
          refine z_iconst (pc' := 176) dX9_command_175 rfl ?_
          refine z_goto (tgt := 180) dX9_command_176 (by decide) ?_
          cases hsh
          exact z_zret rfl (by decide) dX9_command_180 ⟨rfl, rfl⟩
      replace hsh := zif_f q4 hsh
      by_cases q5 : (zdiv p0 (1000 : Int)) = (5 : Int)
      · replace hsh := zif_t q5 hsh
        refine z_tableIn (k := (5 : Int)) (off := 102) (tgt := 181) dX9_command_79 q5 g3 (by decide) (by decide) rfl (by decide) ?_
        refine z_aload_n (pc' := 182) 3 dX9_command_181 rfl rfl rfl ?_
        refine z_getfield (pc' := 185) (C := RX9) (T := TX9) (N := 20) 1 4 dX9_command_182 iX9_command_X9 rfl rfl (by decide) mX9_command_f20 rfl rfl ?_
        refine z_bipush (pc' := 187) dX9_command_185 (by decide) rfl ?_
        refine z_iload_n (pc' := 188) 1 dX9_command_187 rfl rfl rfl ?_
        refine z_imul (pc' := 189) dX9_command_188 rfl ?_
        refine z_iconst (pc' := 190) dX9_command_189 rfl ?_
        refine z_iadd (pc' := 191) dX9_command_190 rfl ?_
        have g22 := zkx_p hsh
        replace hsh := zkx_k hsh
        refine z_iaload (pc' := 192) 0 dX9_command_191 rfl (by decide) g22 rfl ?_
        have g23 := zkr_p hsh
        replace hsh := zkr_k hsh
        refine z_if_le (pc' := 195) (tgt := 214) dX9_command_192 (by decide) g23 rfl (fun q => ?_) (fun q => ?_)
        · replace hsh := zif_f q hsh
          refine z_iconst (pc' := 215) dX9_command_214 rfl ?_
          refine z_perm [(a_t, .inr (8, [.int (zi c_t_refusal), .int (zi c_t_high), .int (zi c_t_wide), .ref a_t_now, .ref a_t_trial, .ref a_t_diary, .int (zi c_t_acts), .int (zi c_t_next), .ref a_t_kept, .ref a_t_isKept, .ref a_t_script, .int (zi c_t_scriptSize), .int (zi c_t_spot), .ref a_t_read, .int (zi c_t_readHigh), .int (zi c_t_readWide), .ref a_t_wanted, .ref a_t_level, .ref a_t_chosen, .ref a_t_best])), (a_t_trial, zI J 243 f_t_trial)] [(4, .int (zi (zmod p0 (10 : Int)))), (3, .int (zi (zmod (zdiv p0 (10 : Int)) (100 : Int)))), (2, .int (zi (zdiv p0 (1000 : Int)))), (0, .ref a_t), (1, .int (zi p0))] [1, 0] [0, 1, 2, 3, 4] rfl rfl rfl ?_
          cases hsh
          exact z_zret rfl (by decide) dX9_command_215 ⟨rfl, rfl⟩
        · replace hsh := zif_t q hsh
          refine z_aload_n (pc' := 196) 3 dX9_command_195 rfl rfl rfl ?_
          refine z_getfield (pc' := 199) (C := RX9) (T := TX9) (N := 20) 1 4 dX9_command_196 iX9_command_X9 rfl rfl (by decide) mX9_command_f20 rfl rfl ?_
          refine z_iconst (pc' := 200) dX9_command_199 rfl ?_
          refine z_iload_n (pc' := 201) 1 dX9_command_200 rfl rfl rfl ?_
          refine z_iconst (pc' := 202) dX9_command_201 rfl ?_
          obtain ⟨q24, h25, hsh⟩ := zbind hsh
          refine z_callS (pc' := 205) (As := [.ref a_t_trial, .int (zi (0 : Int)), .int (zi (zmod (zdiv p0 (10 : Int)) (100 : Int))), .int (zi (0 : Int))]) (rest := []) (wr := [(a_t, .inr (8, [.int (zi c_t_refusal), .int (zi c_t_high), .int (zi c_t_wide), .ref a_t_now, .ref a_t_trial, .ref a_t_diary, .int (zi c_t_acts), .int (zi c_t_next), .ref a_t_kept, .ref a_t_isKept, .ref a_t_script, .int (zi c_t_scriptSize), .int (zi c_t_spot), .ref a_t_read, .int (zi c_t_readHigh), .int (zi c_t_readWide), .ref a_t_wanted, .ref a_t_level, .ref a_t_chosen, .ref a_t_best]))]) 4 (zc_X9_gradeOf l D J F (a_p0 := a_t_trial) (f_p0 := f_t_trial) (n_p0 := 243) (p1 := (0 : Int)) (p2 := (zmod (zdiv p0 (10 : Int)) (100 : Int))) (p3 := (0 : Int)) (hn_p0 := (by decide)) q24 h25) dX9_command_202 gX9_command_X9_gradeOf rfl rfl rfl (by decide +kernel) ⟨Nat.le_of_ble_eq_true rfl, Nat.le_of_ble_eq_true rfl⟩ ⟨Nat.le_of_ble_eq_true rfl, Nat.le_of_ble_eq_true rfl⟩ (z_spl_of [0, 1] rfl rfl) rfl rfl (Nat.le_of_ble_eq_true rfl) rfl (fun rv w9 hq => ?_)
          obtain ⟨rfl, rfl⟩ := hq
          refine z_ws [(a_t, .inr (8, [.int (zi c_t_refusal), .int (zi c_t_high), .int (zi c_t_wide), .ref a_t_now, .ref a_t_trial, .ref a_t_diary, .int (zi c_t_acts), .int (zi c_t_next), .ref a_t_kept, .ref a_t_isKept, .ref a_t_script, .int (zi c_t_scriptSize), .int (zi c_t_spot), .ref a_t_read, .int (zi c_t_readHigh), .int (zi c_t_readWide), .ref a_t_wanted, .ref a_t_level, .ref a_t_chosen, .ref a_t_best])), (a_t_trial, zI J 243 f_t_trial)] rfl ?_
          refine z_iload (pc' := 207) 0 dX9_command_205 rfl rfl ?_
          have g26 := zkr_p hsh
          replace hsh := zkr_k hsh
          have g27 := zkr_p hsh
          replace hsh := zkr_k hsh
          refine z_icmp_lt (pc' := 210) (tgt := 214) dX9_command_207 (by decide) g26 g27 rfl (fun q => ?_) (fun q => ?_)
          · replace hsh := zif_t q hsh
            refine z_iconst (pc' := 215) dX9_command_214 rfl ?_
            cases hsh
            exact z_zret rfl (by decide) dX9_command_215 ⟨rfl, rfl⟩
          · replace hsh := zif_f q hsh
            refine z_iconst (pc' := 211) dX9_command_210 rfl ?_
            refine z_goto (tgt := 215) dX9_command_211 (by decide) ?_
            cases hsh
            exact z_zret rfl (by decide) dX9_command_215 ⟨rfl, rfl⟩
      replace hsh := zif_f q5 hsh
      refine z_tableOut (tgt := 216) dX9_command_79 g3 (by omega) (by decide) ?_
      refine z_iconst (pc' := 217) dX9_command_216 rfl ?_
      refine z_perm [(a_t, .inr (8, [.int (zi c_t_refusal), .int (zi c_t_high), .int (zi c_t_wide), .ref a_t_now, .ref a_t_trial, .ref a_t_diary, .int (zi c_t_acts), .int (zi c_t_next), .ref a_t_kept, .ref a_t_isKept, .ref a_t_script, .int (zi c_t_scriptSize), .int (zi c_t_spot), .ref a_t_read, .int (zi c_t_readHigh), .int (zi c_t_readWide), .ref a_t_wanted, .ref a_t_level, .ref a_t_chosen, .ref a_t_best])), (a_t_trial, zI J 243 f_t_trial)] [(4, .int (zi (zmod p0 (10 : Int)))), (3, .int (zi (zmod (zdiv p0 (10 : Int)) (100 : Int)))), (2, .int (zi (zdiv p0 (1000 : Int)))), (0, .ref a_t), (1, .int (zi p0))] [1, 0] [0, 1, 2, 3, 4] rfl rfl rfl ?_
      cases hsh
      exact z_zret rfl (by decide) dX9_command_217 ⟨rfl, rfl⟩
    · replace hsh := zif_t q hsh
      refine z_iconst (pc' := 77) dX9_command_76 rfl ?_
      refine z_perm [(a_t, .inr (8, [.int (zi c_t_refusal), .int (zi c_t_high), .int (zi c_t_wide), .ref a_t_now, .ref a_t_trial, .ref a_t_diary, .int (zi c_t_acts), .int (zi c_t_next), .ref a_t_kept, .ref a_t_isKept, .ref a_t_script, .int (zi c_t_scriptSize), .int (zi c_t_spot), .ref a_t_read, .int (zi c_t_readHigh), .int (zi c_t_readWide), .ref a_t_wanted, .ref a_t_level, .ref a_t_chosen, .ref a_t_best])), (a_t_trial, zI J 243 f_t_trial)] [(4, .int (zi (zmod p0 (10 : Int)))), (3, .int (zi (zmod (zdiv p0 (10 : Int)) (100 : Int)))), (2, .int (zi (zdiv p0 (1000 : Int)))), (0, .ref a_t), (1, .int (zi p0))] [1, 0] [0, 1, 2, 3, 4] rfl rfl rfl ?_
      cases hsh
      exact z_zret rfl (by decide) dX9_command_77 ⟨rfl, rfl⟩
  · replace hsh := zif_t q hsh
    refine z_iload_n (pc' := 27) 4 dX9_command_26 rfl rfl rfl ?_
    refine z_bipush (pc' := 29) dX9_command_27 (by decide) rfl ?_
    refine z_irem (pc' := 30) dX9_command_29 g1 (by decide) (by decide) rfl ?_
    refine z_istore (pc' := 32) [(5, .int (zi (zmod p0 (100 : Int)))), (4, .int (zi (zmod p0 (10 : Int)))), (3, .int (zi (zmod (zdiv p0 (10 : Int)) (100 : Int)))), (2, .int (zi (zdiv p0 (1000 : Int)))), (0, .ref a_t), (1, .int (zi p0))] dX9_command_30 (by decide) rfl rfl ?_
    refine z_iload_n (pc' := 33) 5 dX9_command_32 rfl rfl rfl ?_
    refine z_bipush (pc' := 35) dX9_command_33 (by decide) rfl ?_
    refine z_idiv (pc' := 36) dX9_command_35 g1 (by decide) (by decide) rfl ?_
    refine z_bipush (pc' := 38) dX9_command_36 (by decide) rfl ?_
    have g28 := zkr_p hsh
    replace hsh := zkr_k hsh
    refine z_irem (pc' := 39) dX9_command_38 g28 (by decide) (by decide) rfl ?_
    have g29 := zkr_p hsh
    replace hsh := zkr_k hsh
    refine z_if_ne (pc' := 42) (tgt := 66) dX9_command_39 (by decide) g29 rfl (fun q => ?_) (fun q => ?_)
    · replace hsh := zif_f q hsh
      refine z_iconst (pc' := 67) dX9_command_66 rfl ?_
      cases hsh
      exact z_zret rfl (by decide) dX9_command_67 ⟨rfl, rfl⟩
    · replace hsh := zif_t q hsh
      refine z_iload (pc' := 44) 0 dX9_command_42 rfl rfl ?_
      have g30 := zkr_p hsh
      replace hsh := zkr_k hsh
      refine z_if_le (pc' := 47) (tgt := 66) dX9_command_44 (by decide) g30 rfl (fun q => ?_) (fun q => ?_)
      · replace hsh := zif_f q hsh
        refine z_iconst (pc' := 67) dX9_command_66 rfl ?_
        cases hsh
        exact z_zret rfl (by decide) dX9_command_67 ⟨rfl, rfl⟩
      · replace hsh := zif_t q hsh
        refine z_aload_n (pc' := 48) 4 dX9_command_47 rfl rfl rfl ?_
        refine z_aload_n (pc' := 49) 4 dX9_command_48 rfl rfl rfl ?_
        refine z_getfield (pc' := 52) (C := RX9) (T := TX9) (N := 20) 0 4 dX9_command_49 iX9_command_X9 rfl rfl (by decide) mX9_command_f20 rfl rfl ?_
        refine z_iload (pc' := 54) 0 dX9_command_52 rfl rfl ?_
        obtain ⟨q31, h32, hsh⟩ := zbind hsh
        refine z_callV (pc' := 57) (C := RX9) (As := [.ref a_t_trial, .int (zi (zmod p0 (100 : Int)))]) (rest := []) (wr := []) 2 (zc_X9_goByOrder l D J F (a_t := a_t) (a_p0 := a_t_trial) (a_t_now := a_t_now) (a_t_trial := a_t_trial) (a_t_diary := a_t_diary) (a_t_kept := a_t_kept) (a_t_isKept := a_t_isKept) (a_t_script := a_t_script) (a_t_read := a_t_read) (a_t_wanted := a_t_wanted) (a_t_level := a_t_level) (a_t_chosen := a_t_chosen) (a_t_best := a_t_best) (c_t_refusal := c_t_refusal) (c_t_high := c_t_high) (c_t_wide := c_t_wide) (c_t_acts := c_t_acts) (c_t_next := c_t_next) (c_t_scriptSize := c_t_scriptSize) (c_t_spot := c_t_spot) (c_t_readHigh := c_t_readHigh) (c_t_readWide := c_t_readWide) (f_p0 := f_t_trial) (n_p0 := 243) (p1 := (zmod p0 (100 : Int))) (hn_p0 := (by decide)) q31 h32) dX9_command_54 gX9_command_X9_goByOrder rfl rfl rfl (by decide +kernel) ⟨Nat.le_of_ble_eq_true rfl, Nat.le_of_ble_eq_true rfl⟩ ⟨Nat.le_of_ble_eq_true rfl, Nat.le_of_ble_eq_true rfl⟩ (z_spl_of [0, 1] rfl rfl) rfl rfl rfl rfl (Nat.le_of_ble_eq_true rfl) rfl (fun rv w9 hq => ?_)
        obtain ⟨rfl, rfl⟩ := hq
        refine z_ws [(a_t, .inr (8, [.int (zi c_t_refusal), .int (zi c_t_high), .int (zi c_t_wide), .ref a_t_now, .ref a_t_trial, .ref a_t_diary, .int (zi c_t_acts), .int (zi c_t_next), .ref a_t_kept, .ref a_t_isKept, .ref a_t_script, .int (zi c_t_scriptSize), .int (zi c_t_spot), .ref a_t_read, .int (zi c_t_readHigh), .int (zi c_t_readWide), .ref a_t_wanted, .ref a_t_level, .ref a_t_chosen, .ref a_t_best])), (a_t_trial, zI J 243 q31.2)] rfl ?_
        refine z_iload (pc' := 59) 0 dX9_command_57 rfl rfl ?_
        have g33 := zkr_p hsh
        replace hsh := zkr_k hsh
        refine z_icmp_ne (pc' := 62) (tgt := 66) dX9_command_59 (by decide) g33 g30 rfl (fun q => ?_) (fun q => ?_)
        · replace hsh := zif_f q hsh
          refine z_iconst (pc' := 67) dX9_command_66 rfl ?_
          cases hsh
          exact z_zret rfl (by decide) dX9_command_67 ⟨rfl, rfl⟩
        · replace hsh := zif_t q hsh
          refine z_iconst (pc' := 63) dX9_command_62 rfl ?_
          refine z_goto (tgt := 67) dX9_command_63 (by decide) ?_
          cases hsh
          exact z_zret rfl (by decide) dX9_command_67 ⟨rfl, rfl⟩
