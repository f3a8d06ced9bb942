def sh_X9_points (F : Nat) (c_t_high : Int) (c_t_wide : Int) : Option (Int) := some ((c_t_high * c_t_wide))
theorem mX9_points_f7 : Cond.fieldLink RX9 7 (TX9 1).1 (TX9 1).2.1 (TX9 1).2.2.1 ∈ wsX9_points := List.mem_of_getElem? (i := 1) rfl
theorem iX9_points_X9 : ∀ w ∈ wsX90, w ∈ wsX9_points := fun _ h => (List.mem_cons_of_mem _ (List.mem_append_right _ h))
theorem mX9_points_f13 : Cond.fieldLink RX9 13 (TX9 2).1 (TX9 2).2.1 (TX9 2).2.2.1 ∈ wsX9_points := List.mem_of_getElem? (i := 2) rfl
set_option maxRecDepth 100000 in
set_option maxHeartbeats 4000000 in
theorem zc_X9_points (l : Launch) (D : va_G) (J : Nat → ClassId) (F : Nat) (a_t : Nat) (a_t_now : Nat) (a_t_trial : Nat) (a_t_diary : Nat) (a_t_kept : Nat) (a_t_isKept : Nat) (a_t_script : Nat) (a_t_read : Nat) (a_t_wanted : Nat) (a_t_level : Nat) (a_t_chosen : Nat) (a_t_best : Nat) (c_t_refusal : Int) (c_t_high : Int) (c_t_wide : Int) (c_t_acts : Int) (c_t_next : Int) (c_t_scriptSize : Int) (c_t_spot : Int) (c_t_readHigh : Int) (c_t_readWide : Int) (res : Int) (hsh : sh_X9_points F c_t_high c_t_wide = some res) : ZM l D J yX9_points wsX9_points ({ frames := 0, cells := 0, slots := 0, locals := 0 } : Room) 0 0 [.ref a_t] [(a_t, .inr (8, [.int (zi c_t_refusal), .int (zi c_t_high), .int (zi c_t_wide), .ref a_t_now, .ref a_t_trial, .ref a_t_diary, .int (zi c_t_acts), .int (zi c_t_next), .ref a_t_kept, .ref a_t_isKept, .ref a_t_script, .int (zi c_t_scriptSize), .int (zi c_t_spot), .ref a_t_read, .int (zi c_t_readHigh), .int (zi c_t_readWide), .ref a_t_wanted, .ref a_t_level, .ref a_t_chosen, .ref a_t_best]))] (fun rv w9 => rv = some (.int (zi res)) ∧ w9 = [(a_t, .inr (8, [.int (zi c_t_refusal), .int (zi c_t_high), .int (zi c_t_wide), .ref a_t_now, .ref a_t_trial, .ref a_t_diary, .int (zi c_t_acts), .int (zi c_t_next), .ref a_t_kept, .ref a_t_isKept, .ref a_t_script, .int (zi c_t_scriptSize), .int (zi c_t_spot), .ref a_t_read, .int (zi c_t_readHigh), .int (zi c_t_readWide), .ref a_t_wanted, .ref a_t_level, .ref a_t_chosen, .ref a_t_best]))]) := by
  refine z_ofZ (cc := cX9_points) (maxL := 1) (ret := (some .int)) 0 0 (by decide) rfl (Nat.le_of_ble_eq_true rfl) [(0, .ref a_t)] rfl ?_
  intro p e s m args below meth c A
  unfold sh_X9_points at hsh
  refine z_aload_n (pc' := 1) 0 dX9_points_0 rfl rfl rfl ?_
  refine z_getfield (pc' := 4) (C := RX9) (T := TX9) (N := 20) 0 1 dX9_points_1 iX9_points_X9 rfl rfl (by decide) mX9_points_f7 rfl rfl ?_
  refine z_aload_n (pc' := 5) 0 dX9_points_4 rfl rfl rfl ?_
  refine z_getfield (pc' := 8) (C := RX9) (T := TX9) (N := 20) 0 2 dX9_points_5 iX9_points_X9 rfl rfl (by decide) mX9_points_f13 rfl rfl ?_
  refine z_imul (pc' := 9) dX9_points_8 rfl ?_
  cases hsh
  exact z_iret rfl dX9_points_9 ⟨rfl, rfl⟩
def sh_X9_load (F : Nat) (c_t_high : Int) (c_t_wide : Int) (c_t_acts : Int) (c_t_scriptSize : Int) (c_t_readHigh : Int) (c_t_readWide : Int) (f_t_now : Nat → Int) (f_t_isKept : Nat → Int) (f_t_script : Nat → Int) (f_t_read : Nat → Int) : Option (Int × Int × Int × Int × Int × Int × Int × Int × (Nat → Int) × (Nat → Int) × (Nat → Int)) := (sh_X9_readText F c_t_scriptSize c_t_readHigh c_t_readWide f_t_script f_t_read).bind (fun (q1 : Int × Int × Int × Int × (Nat → Int)) => zkr q1.1 (if q1.1 = (-9 : Int) then (sh_X9_refused F (0 : Int)).bind (fun (q11 : Int × Int) => zkr q11.1 (if q11.1 = (0 : Int) then (sh_X9_copy F q1.2.2.2.2 f_t_now 243 243 (0 : Int) (0 : Int)).bind (fun (q14 : (Nat → Int)) => (sh_X9_points F q1.2.2.1 q1.2.2.2.1).bind (fun (q16 : Int) => some (q16, q11.2, q1.2.2.1, q1.2.2.2.1, (0 : Int), q1.2.1, q1.2.2.1, q1.2.2.2.1, q14, (va_up (va_up f_t_isKept ((0 : Int)).toNat (0 : Int)) ((1 : Int)).toNat (0 : Int)), q1.2.2.2.2))) else some ((0 : Int), q11.2, c_t_high, c_t_wide, c_t_acts, q1.2.1, q1.2.2.1, q1.2.2.2.1, f_t_now, f_t_isKept, q1.2.2.2.2))) else (sh_X9_refused F (1 : Int)).bind (fun (q4 : Int × Int) => zkr q4.1 (if q4.1 = (0 : Int) then (sh_X9_copy F q1.2.2.2.2 f_t_now 243 243 (0 : Int) (0 : Int)).bind (fun (q7 : (Nat → Int)) => (sh_X9_points F q1.2.2.1 q1.2.2.2.1).bind (fun (q9 : Int) => some (q9, q4.2, q1.2.2.1, q1.2.2.2.1, (0 : Int), q1.2.1, q1.2.2.1, q1.2.2.2.1, q7, (va_up (va_up f_t_isKept ((0 : Int)).toNat (0 : Int)) ((1 : Int)).toNat (0 : Int)), q1.2.2.2.2))) else some ((0 : Int), q4.2, c_t_high, c_t_wide, c_t_acts, q1.2.1, q1.2.2.1, q1.2.2.2.1, f_t_now, f_t_isKept, q1.2.2.2.2)))))
theorem mX9_load_f94 : Cond.fieldLink RX9 94 (TX9 14).1 (TX9 14).2.1 (TX9 14).2.2.1 ∈ wsX9_load := List.mem_of_getElem? (i := 1) rfl
theorem iX9_load_X9 : ∀ w ∈ wsX90, w ∈ wsX9_load := fun _ h => (List.mem_cons_of_mem _ (List.mem_append_right _ h))
theorem mX9_load_f7 : Cond.fieldLink RX9 7 (TX9 1).1 (TX9 1).2.1 (TX9 1).2.2.1 ∈ wsX9_load := List.mem_of_getElem? (i := 2) rfl
theorem mX9_load_f97 : Cond.fieldLink RX9 97 (TX9 15).1 (TX9 15).2.1 (TX9 15).2.2.1 ∈ wsX9_load := List.mem_of_getElem? (i := 3) rfl
theorem mX9_load_f13 : Cond.fieldLink RX9 13 (TX9 2).1 (TX9 2).2.1 (TX9 2).2.2.1 ∈ wsX9_load := List.mem_of_getElem? (i := 4) rfl
theorem mX9_load_f36 : Cond.fieldLink RX9 36 (TX9 13).1 (TX9 13).2.1 (TX9 13).2.2.1 ∈ wsX9_load := List.mem_of_getElem? (i := 5) rfl
theorem mX9_load_f16 : Cond.fieldLink RX9 16 (TX9 3).1 (TX9 3).2.1 (TX9 3).2.2.1 ∈ wsX9_load := List.mem_of_getElem? (i := 6) rfl
theorem mX9_load_f69 : Cond.fieldLink RX9 69 (TX9 6).1 (TX9 6).2.1 (TX9 6).2.2.1 ∈ wsX9_load := List.mem_of_getElem? (i := 7) rfl
theorem mX9_load_f29 : Cond.fieldLink RX9 29 (TX9 9).1 (TX9 9).2.1 (TX9 9).2.2.1 ∈ wsX9_load := List.mem_of_getElem? (i := 8) rfl
set_option maxRecDepth 100000 in
set_option maxHeartbeats 4000000 in
theorem zc_X9_load (l : Launch) (D : va_G) (J : Nat → ClassId) (F : Nat) (a_t : Nat) (a_t_now : Nat) (a_t_trial : Nat) (a_t_diary : Nat) (a_t_kept : Nat) (a_t_isKept : Nat) (a_t_script : Nat) (a_t_read : Nat) (a_t_wanted : Nat) (a_t_level : Nat) (a_t_chosen : Nat) (a_t_best : Nat) (c_t_refusal : Int) (c_t_high : Int) (c_t_wide : Int) (c_t_acts : Int) (c_t_next : Int) (c_t_scriptSize : Int) (c_t_spot : Int) (c_t_readHigh : Int) (c_t_readWide : Int) (f_t_now : Nat → Int) (f_t_isKept : Nat → Int) (f_t_script : Nat → Int) (f_t_read : Nat → Int) (res : Int × Int × Int × Int × Int × Int × Int × Int × (Nat → Int) × (Nat → Int) × (Nat → Int)) (hsh : sh_X9_load F c_t_high c_t_wide c_t_acts c_t_scriptSize c_t_readHigh c_t_readWide f_t_now f_t_isKept f_t_script f_t_read = some res) : ZM l D J yX9_load wsX9_load ({ frames := 5, cells := 0, slots := 0, locals := 114 } : Room) 0 0 [.ref a_t] [(a_t, .inr (8, [.int (zi c_t_refusal), .int (zi c_t_high), .int (zi c_t_wide), .ref a_t_now, .ref a_t_trial, .ref a_t_diary, .int (zi c_t_acts), .int (zi c_t_next), .ref a_t_kept, .ref a_t_isKept, .ref a_t_script, .int (zi c_t_scriptSize), .int (zi c_t_spot), .ref a_t_read, .int (zi c_t_readHigh), .int (zi c_t_readWide), .ref a_t_wanted, .ref a_t_level, .ref a_t_chosen, .ref a_t_best])), (a_t_now, zI J 243 f_t_now), (a_t_isKept, zB J 2 f_t_isKept), (a_t_script, zI J 120 f_t_script), (a_t_read, zI J 243 f_t_read)] (fun rv w9 => rv = some (.int (zi res.1)) ∧ w9 = [(a_t, .inr (8, [.int (zi res.2.1), .int (zi res.2.2.1), .int (zi res.2.2.2.1), .ref a_t_now, .ref a_t_trial, .ref a_t_diary, .int (zi res.2.2.2.2.1), .int (zi c_t_next), .ref a_t_kept, .ref a_t_isKept, .ref a_t_script, .int (zi c_t_scriptSize), .int (zi res.2.2.2.2.2.1), .ref a_t_read, .int (zi res.2.2.2.2.2.2.1), .int (zi res.2.2.2.2.2.2.2.1), .ref a_t_wanted, .ref a_t_level, .ref a_t_chosen, .ref a_t_best])), (a_t_now, zI J 243 res.2.2.2.2.2.2.2.2.1), (a_t_isKept, zB J 2 res.2.2.2.2.2.2.2.2.2.1), (a_t_script, zI J 120 f_t_script), (a_t_read, zI J 243 res.2.2.2.2.2.2.2.2.2.2)]) := by
  refine z_ofZ (cc := cX9_load) (maxL := 1) (ret := (some .int)) 0 0 (by decide) rfl (Nat.le_of_ble_eq_true rfl) [(0, .ref a_t)] rfl ?_
  intro p e s m args below meth c A
  unfold sh_X9_load at hsh
  refine z_aload_n (pc' := 1) 0 dX9_load_0 rfl rfl rfl ?_
  refine z_aload_n (pc' := 2) 0 dX9_load_1 rfl rfl rfl ?_
  obtain ⟨q1, h2, hsh⟩ := zbind hsh
  refine z_callV (pc' := 5) (C := RX9) (As := []) (rest := [.ref a_t]) (wr := [(a_t_now, zI J 243 f_t_now), (a_t_isKept, zB J 2 f_t_isKept)]) 0 (zc_X9_readText l D J F (a_t := a_t) (a_t_now := a_t_now) (a_t_trial := a_t_trial) (a_t_diary := a_t_diary) (a_t_kept := a_t_kept) (a_t_isKept := a_t_isKept) (a_t_script := a_t_script) (a_t_read := a_t_read) (a_t_wanted := a_t_wanted) (a_t_level := a_t_level) (a_t_chosen := a_t_chosen) (a_t_best := a_t_best) (c_t_refusal := c_t_refusal) (c_t_high := c_t_high) (c_t_wide := c_t_wide) (c_t_acts := c_t_acts) (c_t_next := c_t_next) (c_t_scriptSize := c_t_scriptSize) (c_t_spot := c_t_spot) (c_t_readHigh := c_t_readHigh) (c_t_readWide := c_t_readWide) (f_t_script := f_t_script) (f_t_read := f_t_read)  q1 h2) dX9_load_2 gX9_load_X9_readText rfl rfl rfl (by decide +kernel) ⟨Nat.le_of_ble_eq_true rfl, Nat.le_of_ble_eq_true rfl⟩ ⟨Nat.le_of_ble_eq_true rfl, Nat.le_of_ble_eq_true rfl⟩ (z_spl_of [0, 3, 4, 1, 2] rfl rfl) rfl rfl rfl rfl (Nat.le_of_ble_eq_true rfl) rfl (fun rv w9 hq => ?_)
  obtain ⟨rfl, rfl⟩ := hq
  refine z_ws [(a_t_now, zI J 243 f_t_now), (a_t_isKept, zB J 2 f_t_isKept), (a_t, .inr (8, [.int (zi c_t_refusal), .int (zi c_t_high), .int (zi c_t_wide), .ref a_t_now, .ref a_t_trial, .ref a_t_diary, .int (zi c_t_acts), .int (zi c_t_next), .ref a_t_kept, .ref a_t_isKept, .ref a_t_script, .int (zi c_t_scriptSize), .int (zi q1.2.1), .ref a_t_read, .int (zi q1.2.2.1), .int (zi q1.2.2.2.1), .ref a_t_wanted, .ref a_t_level, .ref a_t_chosen, .ref a_t_best])), (a_t_script, zI J 120 f_t_script), (a_t_read, zI J 243 q1.2.2.2.2)] rfl ?_
  refine z_bipush (pc' := 7) dX9_load_5 (by decide) rfl ?_
  have g3 := zkr_p hsh
  replace hsh := zkr_k hsh
  refine z_icmp_ne (pc' := 10) (tgt := 14) dX9_load_7 (by decide) g3 (by decide) rfl (fun q => ?_) (fun q => ?_)
  · replace hsh := zif_f q hsh
    refine z_iconst (pc' := 15) dX9_load_14 rfl ?_
    obtain ⟨q4, h5, hsh⟩ := zbind hsh
    refine z_callV (pc' := 18) (C := RX9) (As := [.int (zi (1 : Int))]) (rest := []) (wr := [(a_t_now, zI J 243 f_t_now), (a_t_isKept, zB J 2 f_t_isKept), (a_t_script, zI J 120 f_t_script), (a_t_read, zI J 243 q1.2.2.2.2)]) 1 (zc_X9_refused l D J F (a_t := a_t) (a_t_now := a_t_now) (a_t_trial := a_t_trial) (a_t_diary := a_t_diary) (a_t_kept := a_t_kept) (a_t_isKept := a_t_isKept) (a_t_script := a_t_script) (a_t_read := a_t_read) (a_t_wanted := a_t_wanted) (a_t_level := a_t_level) (a_t_chosen := a_t_chosen) (a_t_best := a_t_best) (c_t_refusal := c_t_refusal) (c_t_high := c_t_high) (c_t_wide := c_t_wide) (c_t_acts := c_t_acts) (c_t_next := c_t_next) (c_t_scriptSize := c_t_scriptSize) (c_t_spot := q1.2.1) (c_t_readHigh := q1.2.2.1) (c_t_readWide := q1.2.2.2.1) (p0 := (1 : Int))  q4 h5) dX9_load_15 gX9_load_X9_refused rfl rfl rfl (by decide +kernel) ⟨Nat.le_of_ble_eq_true rfl, Nat.le_of_ble_eq_true rfl⟩ ⟨Nat.le_of_ble_eq_true rfl, Nat.le_of_ble_eq_true rfl⟩ (z_spl_of [2, 0, 1, 3, 4] rfl rfl) rfl rfl rfl rfl (Nat.le_of_ble_eq_true rfl) rfl (fun rv w9 hq => ?_)
    obtain ⟨rfl, rfl⟩ := hq
    refine z_ws [(a_t_now, zI J 243 f_t_now), (a_t_isKept, zB J 2 f_t_isKept), (a_t_script, zI J 120 f_t_script), (a_t_read, zI J 243 q1.2.2.2.2), (a_t, .inr (8, [.int (zi q4.2), .int (zi c_t_high), .int (zi c_t_wide), .ref a_t_now, .ref a_t_trial, .ref a_t_diary, .int (zi c_t_acts), .int (zi c_t_next), .ref a_t_kept, .ref a_t_isKept, .ref a_t_script, .int (zi c_t_scriptSize), .int (zi q1.2.1), .ref a_t_read, .int (zi q1.2.2.1), .int (zi q1.2.2.2.1), .ref a_t_wanted, .ref a_t_level, .ref a_t_chosen, .ref a_t_best]))] rfl ?_
    have g6 := zkr_p hsh
    replace hsh := zkr_k hsh
    refine z_if_eq (pc' := 21) (tgt := 23) dX9_load_18 (by decide) g6 rfl (fun q => ?_) (fun q => ?_)
    · replace hsh := zif_t q hsh
      refine z_aload_n (pc' := 24) 0 dX9_load_23 rfl rfl rfl ?_
      refine z_aload_n (pc' := 25) 0 dX9_load_24 rfl rfl rfl ?_
      refine z_getfield (pc' := 28) (C := RX9) (T := TX9) (N := 20) 4 14 dX9_load_25 iX9_load_X9 rfl rfl (by decide) mX9_load_f94 rfl rfl ?_
      refine z_putfield (pc' := 31) (C := RX9) (T := TX9) (N := 20) (ty := .int) 4 1 [(a_t_now, zI J 243 f_t_now), (a_t_isKept, zB J 2 f_t_isKept), (a_t_script, zI J 120 f_t_script), (a_t_read, zI J 243 q1.2.2.2.2), (a_t, .inr (8, [.int (zi q4.2), .int (zi q1.2.2.1), .int (zi c_t_wide), .ref a_t_now, .ref a_t_trial, .ref a_t_diary, .int (zi c_t_acts), .int (zi c_t_next), .ref a_t_kept, .ref a_t_isKept, .ref a_t_script, .int (zi c_t_scriptSize), .int (zi q1.2.1), .ref a_t_read, .int (zi q1.2.2.1), .int (zi q1.2.2.2.1), .ref a_t_wanted, .ref a_t_level, .ref a_t_chosen, .ref a_t_best]))] tyX9 tyX9_ok nmX9 dX9_load_28 iX9_load_X9 rfl rfl (by decide) mX9_load_f7 rfl (by decide +kernel) rfl rfl (Nat.le_of_ble_eq_true rfl) rfl rfl rfl ?_
      refine z_aload_n (pc' := 32) 0 dX9_load_31 rfl rfl rfl ?_
      refine z_aload_n (pc' := 33) 0 dX9_load_32 rfl rfl rfl ?_
      refine z_getfield (pc' := 36) (C := RX9) (T := TX9) (N := 20) 4 15 dX9_load_33 iX9_load_X9 rfl rfl (by decide) mX9_load_f97 rfl rfl ?_
      refine z_putfield (pc' := 39) (C := RX9) (T := TX9) (N := 20) (ty := .int) 4 2 [(a_t_now, zI J 243 f_t_now), (a_t_isKept, zB J 2 f_t_isKept), (a_t_script, zI J 120 f_t_script), (a_t_read, zI J 243 q1.2.2.2.2), (a_t, .inr (8, [.int (zi q4.2), .int (zi q1.2.2.1), .int (zi q1.2.2.2.1), .ref a_t_now, .ref a_t_trial, .ref a_t_diary, .int (zi c_t_acts), .int (zi c_t_next), .ref a_t_kept, .ref a_t_isKept, .ref a_t_script, .int (zi c_t_scriptSize), .int (zi q1.2.1), .ref a_t_read, .int (zi q1.2.2.1), .int (zi q1.2.2.2.1), .ref a_t_wanted, .ref a_t_level, .ref a_t_chosen, .ref a_t_best]))] tyX9 tyX9_ok nmX9 dX9_load_36 iX9_load_X9 rfl rfl (by decide) mX9_load_f13 rfl (by decide +kernel) rfl rfl (Nat.le_of_ble_eq_true rfl) rfl rfl rfl ?_
      refine z_aload_n (pc' := 40) 0 dX9_load_39 rfl rfl rfl ?_
      refine z_getfield (pc' := 43) (C := RX9) (T := TX9) (N := 20) 4 13 dX9_load_40 iX9_load_X9 rfl rfl (by decide) mX9_load_f36 rfl rfl ?_
      refine z_iconst (pc' := 44) dX9_load_43 rfl ?_
      refine z_aload_n (pc' := 45) 0 dX9_load_44 rfl rfl rfl ?_
      refine z_getfield (pc' := 48) (C := RX9) (T := TX9) (N := 20) 4 3 dX9_load_45 iX9_load_X9 rfl rfl (by decide) mX9_load_f16 rfl rfl ?_
      refine z_iconst (pc' := 49) dX9_load_48 rfl ?_
      obtain ⟨q7, h8, hsh⟩ := zbind hsh
      refine z_callS (pc' := 52) (As := [.ref a_t_read, .int (zi (0 : Int)), .ref a_t_now, .int (zi (0 : Int))]) (rest := []) (wr := [(a_t_isKept, zB J 2 f_t_isKept), (a_t_script, zI J 120 f_t_script), (a_t, .inr (8, [.int (zi q4.2), .int (zi q1.2.2.1), .int (zi q1.2.2.2.1), .ref a_t_now, .ref a_t_trial, .ref a_t_diary, .int (zi c_t_acts), .int (zi c_t_next), .ref a_t_kept, .ref a_t_isKept, .ref a_t_script, .int (zi c_t_scriptSize), .int (zi q1.2.1), .ref a_t_read, .int (zi q1.2.2.1), .int (zi q1.2.2.2.1), .ref a_t_wanted, .ref a_t_level, .ref a_t_chosen, .ref a_t_best]))]) 4 (zc_X9_copy l D J F (a_p0 := a_t_read) (a_p2 := a_t_now) (f_p0 := q1.2.2.2.2) (f_p2 := f_t_now) (n_p0 := 243) (n_p2 := 243) (p1 := (0 : Int)) (p3 := (0 : Int)) (hn_p0 := (by decide)) (hn_p2 := (by decide)) q7 h8) dX9_load_49 gX9_load_X9_copy rfl rfl rfl (by decide +kernel) ⟨Nat.le_of_ble_eq_true rfl, Nat.le_of_ble_eq_true rfl⟩ ⟨Nat.le_of_ble_eq_true rfl, Nat.le_of_ble_eq_true rfl⟩ (z_spl_of [3, 0, 1, 2, 4] rfl rfl) rfl rfl (Nat.le_of_ble_eq_true rfl) rfl (fun rv w9 hq => ?_)
      obtain ⟨rfl, rfl⟩ := hq
      refine z_ws [(a_t_isKept, zB J 2 f_t_isKept), (a_t_script, zI J 120 f_t_script), (a_t, .inr (8, [.int (zi q4.2), .int (zi q1.2.2.1), .int (zi q1.2.2.2.1), .ref a_t_now, .ref a_t_trial, .ref a_t_diary, .int (zi c_t_acts), .int (zi c_t_next), .ref a_t_kept, .ref a_t_isKept, .ref a_t_script, .int (zi c_t_scriptSize), .int (zi q1.2.1), .ref a_t_read, .int (zi q1.2.2.1), .int (zi q1.2.2.2.1), .ref a_t_wanted, .ref a_t_level, .ref a_t_chosen, .ref a_t_best])), (a_t_read, zI J 243 q1.2.2.2.2), (a_t_now, zI J 243 q7)] rfl ?_
      refine z_aload_n (pc' := 53) 0 dX9_load_52 rfl rfl rfl ?_
      refine z_iconst (pc' := 54) dX9_load_53 rfl ?_
      refine z_putfield (pc' := 57) (C := RX9) (T := TX9) (N := 20) (ty := .int) 2 6 [(a_t_isKept, zB J 2 f_t_isKept), (a_t_script, zI J 120 f_t_script), (a_t, .inr (8, [.int (zi q4.2), .int (zi q1.2.2.1), .int (zi q1.2.2.2.1), .ref a_t_now, .ref a_t_trial, .ref a_t_diary, .int (zi (0 : Int)), .int (zi c_t_next), .ref a_t_kept, .ref a_t_isKept, .ref a_t_script, .int (zi c_t_scriptSize), .int (zi q1.2.1), .ref a_t_read, .int (zi q1.2.2.1), .int (zi q1.2.2.2.1), .ref a_t_wanted, .ref a_t_level, .ref a_t_chosen, .ref a_t_best])), (a_t_read, zI J 243 q1.2.2.2.2), (a_t_now, zI J 243 q7)] tyX9 tyX9_ok nmX9 dX9_load_54 iX9_load_X9 rfl rfl (by decide) mX9_load_f69 rfl (by decide +kernel) rfl rfl (Nat.le_of_ble_eq_true rfl) rfl rfl rfl ?_
      refine z_aload_n (pc' := 58) 0 dX9_load_57 rfl rfl rfl ?_
      refine z_getfield (pc' := 61) (C := RX9) (T := TX9) (N := 20) 2 9 dX9_load_58 iX9_load_X9 rfl rfl (by decide) mX9_load_f29 rfl rfl ?_
      refine z_iconst (pc' := 62) dX9_load_61 rfl ?_
      refine z_iconst (pc' := 63) dX9_load_62 rfl ?_
      refine z_bastore (pc' := 64) 0 [(a_t_isKept, zB J 2 (va_up f_t_isKept ((0 : Int)).toNat (0 : Int))), (a_t_script, zI J 120 f_t_script), (a_t, .inr (8, [.int (zi q4.2), .int (zi q1.2.2.1), .int (zi q1.2.2.2.1), .ref a_t_now, .ref a_t_trial, .ref a_t_diary, .int (zi (0 : Int)), .int (zi c_t_next), .ref a_t_kept, .ref a_t_isKept, .ref a_t_script, .int (zi c_t_scriptSize), .int (zi q1.2.1), .ref a_t_read, .int (zi q1.2.2.1), .int (zi q1.2.2.2.1), .ref a_t_wanted, .ref a_t_level, .ref a_t_chosen, .ref a_t_best])), (a_t_read, zI J 243 q1.2.2.2.2), (a_t_now, zI J 243 q7)] dX9_load_63 rfl (by decide) (by decide) (by decide) rfl rfl ?_
      refine z_aload_n (pc' := 65) 0 dX9_load_64 rfl rfl rfl ?_
      refine z_getfield (pc' := 68) (C := RX9) (T := TX9) (N := 20) 2 9 dX9_load_65 iX9_load_X9 rfl rfl (by decide) mX9_load_f29 rfl rfl ?_
      refine z_iconst (pc' := 69) dX9_load_68 rfl ?_
      refine z_iconst (pc' := 70) dX9_load_69 rfl ?_
      refine z_bastore (pc' := 71) 0 [(a_t_isKept, zB J 2 (va_up (va_up f_t_isKept ((0 : Int)).toNat (0 : Int)) ((1 : Int)).toNat (0 : Int))), (a_t_script, zI J 120 f_t_script), (a_t, .inr (8, [.int (zi q4.2), .int (zi q1.2.2.1), .int (zi q1.2.2.2.1), .ref a_t_now, .ref a_t_trial, .ref a_t_diary, .int (zi (0 : Int)), .int (zi c_t_next), .ref a_t_kept, .ref a_t_isKept, .ref a_t_script, .int (zi c_t_scriptSize), .int (zi q1.2.1), .ref a_t_read, .int (zi q1.2.2.1), .int (zi q1.2.2.2.1), .ref a_t_wanted, .ref a_t_level, .ref a_t_chosen, .ref a_t_best])), (a_t_read, zI J 243 q1.2.2.2.2), (a_t_now, zI J 243 q7)] dX9_load_70 rfl (by decide) (by decide) (by decide) rfl rfl ?_
      refine z_aload_n (pc' := 72) 0 dX9_load_71 rfl rfl rfl ?_
      obtain ⟨q9, h10, hsh⟩ := zbind hsh
      refine z_callV (pc' := 75) (C := RX9) (As := []) (rest := []) (wr := [(a_t_isKept, zB J 2 (va_up (va_up f_t_isKept ((0 : Int)).toNat (0 : Int)) ((1 : Int)).toNat (0 : Int))), (a_t_script, zI J 120 f_t_script), (a_t_read, zI J 243 q1.2.2.2.2), (a_t_now, zI J 243 q7)]) 0 (zc_X9_points l D J F (a_t := a_t) (a_t_now := a_t_now) (a_t_trial := a_t_trial) (a_t_diary := a_t_diary) (a_t_kept := a_t_kept) (a_t_isKept := a_t_isKept) (a_t_script := a_t_script) (a_t_read := a_t_read) (a_t_wanted := a_t_wanted) (a_t_level := a_t_level) (a_t_chosen := a_t_chosen) (a_t_best := a_t_best) (c_t_refusal := q4.2) (c_t_high := q1.2.2.1) (c_t_wide := q1.2.2.2.1) (c_t_acts := (0 : Int)) (c_t_next := c_t_next) (c_t_scriptSize := c_t_scriptSize) (c_t_spot := q1.2.1) (c_t_readHigh := q1.2.2.1) (c_t_readWide := q1.2.2.2.1)  q9 h10) dX9_load_72 gX9_load_X9_points rfl rfl rfl (by decide +kernel) ⟨Nat.le_of_ble_eq_true rfl, Nat.le_of_ble_eq_true rfl⟩ ⟨Nat.le_of_ble_eq_true rfl, Nat.le_of_ble_eq_true rfl⟩ (z_spl_of [2, 0, 1, 3, 4] rfl rfl) rfl rfl rfl rfl (Nat.le_of_ble_eq_true rfl) rfl (fun rv w9 hq => ?_)
      obtain ⟨rfl, rfl⟩ := hq
      refine z_ws [(a_t_isKept, zB J 2 (va_up (va_up f_t_isKept ((0 : Int)).toNat (0 : Int)) ((1 : Int)).toNat (0 : Int))), (a_t_script, zI J 120 f_t_script), (a_t_read, zI J 243 q1.2.2.2.2), (a_t_now, zI J 243 q7), (a_t, .inr (8, [.int (zi q4.2), .int (zi q1.2.2.1), .int (zi q1.2.2.2.1), .ref a_t_now, .ref a_t_trial, .ref a_t_diary, .int (zi (0 : Int)), .int (zi c_t_next), .ref a_t_kept, .ref a_t_isKept, .ref a_t_script, .int (zi c_t_scriptSize), .int (zi q1.2.1), .ref a_t_read, .int (zi q1.2.2.1), .int (zi q1.2.2.2.1), .ref a_t_wanted, .ref a_t_level, .ref a_t_chosen, .ref a_t_best]))] rfl ?_
      refine z_perm [(a_t, .inr (8, [.int (zi q4.2), .int (zi q1.2.2.1), .int (zi q1.2.2.2.1), .ref a_t_now, .ref a_t_trial, .ref a_t_diary, .int (zi (0 : Int)), .int (zi c_t_next), .ref a_t_kept, .ref a_t_isKept, .ref a_t_script, .int (zi c_t_scriptSize), .int (zi q1.2.1), .ref a_t_read, .int (zi q1.2.2.1), .int (zi q1.2.2.2.1), .ref a_t_wanted, .ref a_t_level, .ref a_t_chosen, .ref a_t_best])), (a_t_now, zI J 243 q7), (a_t_isKept, zB J 2 (va_up (va_up f_t_isKept ((0 : Int)).toNat (0 : Int)) ((1 : Int)).toNat (0 : Int))), (a_t_script, zI J 120 f_t_script), (a_t_read, zI J 243 q1.2.2.2.2)] [(0, .ref a_t)] [4, 3, 0, 1, 2] [0] rfl rfl rfl ?_
      cases hsh
      exact z_iret rfl dX9_load_75 ⟨rfl, rfl⟩
    · replace hsh := zif_f q hsh
      refine z_iconst (pc' := 22) dX9_load_21 rfl ?_
      refine z_perm [(a_t, .inr (8, [.int (zi q4.2), .int (zi c_t_high), .int (zi c_t_wide), .ref a_t_now, .ref a_t_trial, .ref a_t_diary, .int (zi c_t_acts), .int (zi c_t_next), .ref a_t_kept, .ref a_t_isKept, .ref a_t_script, .int (zi c_t_scriptSize), .int (zi q1.2.1), .ref a_t_read, .int (zi q1.2.2.1), .int (zi q1.2.2.2.1), .ref a_t_wanted, .ref a_t_level, .ref a_t_chosen, .ref a_t_best])), (a_t_now, zI J 243 f_t_now), (a_t_isKept, zB J 2 f_t_isKept), (a_t_script, zI J 120 f_t_script), (a_t_read, zI J 243 q1.2.2.2.2)] [(0, .ref a_t)] [4, 0, 1, 2, 3] [0] rfl rfl rfl ?_
      cases hsh
      exact z_iret rfl dX9_load_22 ⟨rfl, rfl⟩
  · replace hsh := zif_t q hsh
    refine z_iconst (pc' := 11) dX9_load_10 rfl ?_
    refine z_goto (tgt := 15) dX9_load_11 (by decide) ?_
    obtain ⟨q11, h12, hsh⟩ := zbind hsh
    refine z_callV (pc' := 18) (C := RX9) (As := [.int (zi (0 : Int))]) (rest := []) (wr := [(a_t_now, zI J 243 f_t_now), (a_t_isKept, zB J 2 f_t_isKept), (a_t_script, zI J 120 f_t_script), (a_t_read, zI J 243 q1.2.2.2.2)]) 1 (zc_X9_refused l D J F (a_t := a_t) (a_t_now := a_t_now) (a_t_trial := a_t_trial) (a_t_diary := a_t_diary) (a_t_kept := a_t_kept) (a_t_isKept := a_t_isKept) (a_t_script := a_t_script) (a_t_read := a_t_read) (a_t_wanted := a_t_wanted) (a_t_level := a_t_level) (a_t_chosen := a_t_chosen) (a_t_best := a_t_best) (c_t_refusal := c_t_refusal) (c_t_high := c_t_high) (c_t_wide := c_t_wide) (c_t_acts := c_t_acts) (c_t_next := c_t_next) (c_t_scriptSize := c_t_scriptSize) (c_t_spot := q1.2.1) (c_t_readHigh := q1.2.2.1) (c_t_readWide := q1.2.2.2.1) (p0 := (0 : Int))  q11 h12) dX9_load_15 gX9_load_X9_refused rfl rfl rfl (by decide +kernel) ⟨Nat.le_of_ble_eq_true rfl, Nat.le_of_ble_eq_true rfl⟩ ⟨Nat.le_of_ble_eq_true rfl, Nat.le_of_ble_eq_true rfl⟩ (z_spl_of [2, 0, 1, 3, 4] rfl rfl) rfl rfl rfl rfl (Nat.le_of_ble_eq_true rfl) rfl (fun rv w9 hq => ?_)
    obtain ⟨rfl, rfl⟩ := hq
    refine z_ws [(a_t_now, zI J 243 f_t_now), (a_t_isKept, zB J 2 f_t_isKept), (a_t_script, zI J 120 f_t_script), (a_t_read, zI J 243 q1.2.2.2.2), (a_t, .inr (8, [.int (zi q11.2), .int (zi c_t_high), .int (zi c_t_wide), .ref a_t_now, .ref a_t_trial, .ref a_t_diary, .int (zi c_t_acts), .int (zi c_t_next), .ref a_t_kept, .ref a_t_isKept, .ref a_t_script, .int (zi c_t_scriptSize), .int (zi q1.2.1), .ref a_t_read, .int (zi q1.2.2.1), .int (zi q1.2.2.2.1), .ref a_t_wanted, .ref a_t_level, .ref a_t_chosen, .ref a_t_best]))] rfl ?_
    have g13 := zkr_p hsh
    replace hsh := zkr_k hsh
    refine z_if_eq (pc' := 21) (tgt := 23) dX9_load_18 (by decide) g13 rfl (fun q => ?_) (fun q => ?_)
    · replace hsh := zif_t q hsh
      refine z_aload_n (pc' := 24) 0 dX9_load_23 rfl rfl rfl ?_
      refine z_aload_n (pc' := 25) 0 dX9_load_24 rfl rfl rfl ?_
      refine z_getfield (pc' := 28) (C := RX9) (T := TX9) (N := 20) 4 14 dX9_load_25 iX9_load_X9 rfl rfl (by decide) mX9_load_f94 rfl rfl ?_
      refine z_putfield (pc' := 31) (C := RX9) (T := TX9) (N := 20) (ty := .int) 4 1 [(a_t_now, zI J 243 f_t_now), (a_t_isKept, zB J 2 f_t_isKept), (a_t_script, zI J 120 f_t_script), (a_t_read, zI J 243 q1.2.2.2.2), (a_t, .inr (8, [.int (zi q11.2), .int (zi q1.2.2.1), .int (zi c_t_wide), .ref a_t_now, .ref a_t_trial, .ref a_t_diary, .int (zi c_t_acts), .int (zi c_t_next), .ref a_t_kept, .ref a_t_isKept, .ref a_t_script, .int (zi c_t_scriptSize), .int (zi q1.2.1), .ref a_t_read, .int (zi q1.2.2.1), .int (zi q1.2.2.2.1), .ref a_t_wanted, .ref a_t_level, .ref a_t_chosen, .ref a_t_best]))] tyX9 tyX9_ok nmX9 dX9_load_28 iX9_load_X9 rfl rfl (by decide) mX9_load_f7 rfl (by decide +kernel) rfl rfl (Nat.le_of_ble_eq_true rfl) rfl rfl rfl ?_
      refine z_aload_n (pc' := 32) 0 dX9_load_31 rfl rfl rfl ?_
      refine z_aload_n (pc' := 33) 0 dX9_load_32 rfl rfl rfl ?_
      refine z_getfield (pc' := 36) (C := RX9) (T := TX9) (N := 20) 4 15 dX9_load_33 iX9_load_X9 rfl rfl (by decide) mX9_load_f97 rfl rfl ?_
      refine z_putfield (pc' := 39) (C := RX9) (T := TX9) (N := 20) (ty := .int) 4 2 [(a_t_now, zI J 243 f_t_now), (a_t_isKept, zB J 2 f_t_isKept), (a_t_script, zI J 120 f_t_script), (a_t_read, zI J 243 q1.2.2.2.2), (a_t, .inr (8, [.int (zi q11.2), .int (zi q1.2.2.1), .int (zi q1.2.2.2.1), .ref a_t_now, .ref a_t_trial, .ref a_t_diary, .int (zi c_t_acts), .int (zi c_t_next), .ref a_t_kept, .ref a_t_isKept, .ref a_t_script, .int (zi c_t_scriptSize), .int (zi q1.2.1), .ref a_t_read, .int (zi q1.2.2.1), .int (zi q1.2.2.2.1), .ref a_t_wanted, .ref a_t_level, .ref a_t_chosen, .ref a_t_best]))] tyX9 tyX9_ok nmX9 dX9_load_36 iX9_load_X9 rfl rfl (by decide) mX9_load_f13 rfl (by decide +kernel) rfl rfl (Nat.le_of_ble_eq_true rfl) rfl rfl rfl ?_
      refine z_aload_n (pc' := 40) 0 dX9_load_39 rfl rfl rfl ?_
      refine z_getfield (pc' := 43) (C := RX9) (T := TX9) (N := 20) 4 13 dX9_load_40 iX9_load_X9 rfl rfl (by decide) mX9_load_f36 rfl rfl ?_
      refine z_iconst (pc' := 44) dX9_load_43 rfl ?_
      refine z_aload_n (pc' := 45) 0 dX9_load_44 rfl rfl rfl ?_
      refine z_getfield (pc' := 48) (C := RX9) (T := TX9) (N := 20) 4 3 dX9_load_45 iX9_load_X9 rfl rfl (by decide) mX9_load_f16 rfl rfl ?_
      refine z_iconst (pc' := 49) dX9_load_48 rfl ?_
      obtain ⟨q14, h15, hsh⟩ := zbind hsh
      refine z_callS (pc' := 52) (As := [.ref a_t_read, .int (zi (0 : Int)), .ref a_t_now, .int (zi (0 : Int))]) (rest := []) (wr := [(a_t_isKept, zB J 2 f_t_isKept), (a_t_script, zI J 120 f_t_script), (a_t, .inr (8, [.int (zi q11.2), .int (zi q1.2.2.1), .int (zi q1.2.2.2.1), .ref a_t_now, .ref a_t_trial, .ref a_t_diary, .int (zi c_t_acts), .int (zi c_t_next), .ref a_t_kept, .ref a_t_isKept, .ref a_t_script, .int (zi c_t_scriptSize), .int (zi q1.2.1), .ref a_t_read, .int (zi q1.2.2.1), .int (zi q1.2.2.2.1), .ref a_t_wanted, .ref a_t_level, .ref a_t_chosen, .ref a_t_best]))]) 4 (zc_X9_copy l D J F (a_p0 := a_t_read) (a_p2 := a_t_now) (f_p0 := q1.2.2.2.2) (f_p2 := f_t_now) (n_p0 := 243) (n_p2 := 243) (p1 := (0 : Int)) (p3 := (0 : Int)) (hn_p0 := (by decide)) (hn_p2 := (by decide)) q14 h15) dX9_load_49 gX9_load_X9_copy rfl rfl rfl (by decide +kernel) ⟨Nat.le_of_ble_eq_true rfl, Nat.le_of_ble_eq_true rfl⟩ ⟨Nat.le_of_ble_eq_true rfl, Nat.le_of_ble_eq_true rfl⟩ (z_spl_of [3, 0, 1, 2, 4] rfl rfl) rfl rfl (Nat.le_of_ble_eq_true rfl) rfl (fun rv w9 hq => ?_)
      obtain ⟨rfl, rfl⟩ := hq
      refine z_ws [(a_t_isKept, zB J 2 f_t_isKept), (a_t_script, zI J 120 f_t_script), (a_t, .inr (8, [.int (zi q11.2), .int (zi q1.2.2.1), .int (zi q1.2.2.2.1), .ref a_t_now, .ref a_t_trial, .ref a_t_diary, .int (zi c_t_acts), .int (zi c_t_next), .ref a_t_kept, .ref a_t_isKept, .ref a_t_script, .int (zi c_t_scriptSize), .int (zi q1.2.1), .ref a_t_read, .int (zi q1.2.2.1), .int (zi q1.2.2.2.1), .ref a_t_wanted, .ref a_t_level, .ref a_t_chosen, .ref a_t_best])), (a_t_read, zI J 243 q1.2.2.2.2), (a_t_now, zI J 243 q14)] rfl ?_
      refine z_aload_n (pc' := 53) 0 dX9_load_52 rfl rfl rfl ?_
      refine z_iconst (pc' := 54) dX9_load_53 rfl ?_
      refine z_putfield (pc' := 57) (C := RX9) (T := TX9) (N := 20) (ty := .int) 2 6 [(a_t_isKept, zB J 2 f_t_isKept), (a_t_script, zI J 120 f_t_script), (a_t, .inr (8, [.int (zi q11.2), .int (zi q1.2.2.1), .int (zi q1.2.2.2.1), .ref a_t_now, .ref a_t_trial, .ref a_t_diary, .int (zi (0 : Int)), .int (zi c_t_next), .ref a_t_kept, .ref a_t_isKept, .ref a_t_script, .int (zi c_t_scriptSize), .int (zi q1.2.1), .ref a_t_read, .int (zi q1.2.2.1), .int (zi q1.2.2.2.1), .ref a_t_wanted, .ref a_t_level, .ref a_t_chosen, .ref a_t_best])), (a_t_read, zI J 243 q1.2.2.2.2), (a_t_now, zI J 243 q14)] tyX9 tyX9_ok nmX9 dX9_load_54 iX9_load_X9 rfl rfl (by decide) mX9_load_f69 rfl (by decide +kernel) rfl rfl (Nat.le_of_ble_eq_true rfl) rfl rfl rfl ?_
      refine z_aload_n (pc' := 58) 0 dX9_load_57 rfl rfl rfl ?_
      refine z_getfield (pc' := 61) (C := RX9) (T := TX9) (N := 20) 2 9 dX9_load_58 iX9_load_X9 rfl rfl (by decide) mX9_load_f29 rfl rfl ?_
      refine z_iconst (pc' := 62) dX9_load_61 rfl ?_
      refine z_iconst (pc' := 63) dX9_load_62 rfl ?_
      refine z_bastore (pc' := 64) 0 [(a_t_isKept, zB J 2 (va_up f_t_isKept ((0 : Int)).toNat (0 : Int))), (a_t_script, zI J 120 f_t_script), (a_t, .inr (8, [.int (zi q11.2), .int (zi q1.2.2.1), .int (zi q1.2.2.2.1), .ref a_t_now, .ref a_t_trial, .ref a_t_diary, .int (zi (0 : Int)), .int (zi c_t_next), .ref a_t_kept, .ref a_t_isKept, .ref a_t_script, .int (zi c_t_scriptSize), .int (zi q1.2.1), .ref a_t_read, .int (zi q1.2.2.1), .int (zi q1.2.2.2.1), .ref a_t_wanted, .ref a_t_level, .ref a_t_chosen, .ref a_t_best])), (a_t_read, zI J 243 q1.2.2.2.2), (a_t_now, zI J 243 q14)] dX9_load_63 rfl (by decide) (by decide) (by decide) rfl rfl ?_
      refine z_aload_n (pc' := 65) 0 dX9_load_64 rfl rfl rfl ?_
      refine z_getfield (pc' := 68) (C := RX9) (T := TX9) (N := 20) 2 9 dX9_load_65 iX9_load_X9 rfl rfl (by decide) mX9_load_f29 rfl rfl ?_
      refine z_iconst (pc' := 69) dX9_load_68 rfl ?_
      refine z_iconst (pc' := 70) dX9_load_69 rfl ?_
      refine z_bastore (pc' := 71) 0 [(a_t_isKept, zB J 2 (va_up (va_up f_t_isKept ((0 : Int)).toNat (0 : Int)) ((1 : Int)).toNat (0 : Int))), (a_t_script, zI J 120 f_t_script), (a_t, .inr (8, [.int (zi q11.2), .int (zi q1.2.2.1), .int (zi q1.2.2.2.1), .ref a_t_now, .ref a_t_trial, .ref a_t_diary, .int (zi (0 : Int)), .int (zi c_t_next), .ref a_t_kept, .ref a_t_isKept, .ref a_t_script, .int (zi c_t_scriptSize), .int (zi q1.2.1), .ref a_t_read, .int (zi q1.2.2.1), .int (zi q1.2.2.2.1), .ref a_t_wanted, .ref a_t_level, .ref a_t_chosen, .ref a_t_best])), (a_t_read, zI J 243 q1.2.2.2.2), (a_t_now, zI J 243 q14)] dX9_load_70 rfl (by decide) (by decide) (by decide) rfl rfl ?_
      refine z_aload_n (pc' := 72) 0 dX9_load_71 rfl rfl rfl ?_
      obtain ⟨q16, h17, hsh⟩ := zbind hsh
      refine z_callV (pc' := 75) (C := RX9) (As := []) (rest := []) (wr := [(a_t_isKept, zB J 2 (va_up (va_up f_t_isKept ((0 : Int)).toNat (0 : Int)) ((1 : Int)).toNat (0 : Int))), (a_t_script, zI J 120 f_t_script), (a_t_read, zI J 243 q1.2.2.2.2), (a_t_now, zI J 243 q14)]) 0 (zc_X9_points l D J F (a_t := a_t) (a_t_now := a_t_now) (a_t_trial := a_t_trial) (a_t_diary := a_t_diary) (a_t_kept := a_t_kept) (a_t_isKept := a_t_isKept) (a_t_script := a_t_script) (a_t_read := a_t_read) (a_t_wanted := a_t_wanted) (a_t_level := a_t_level) (a_t_chosen := a_t_chosen) (a_t_best := a_t_best) (c_t_refusal := q11.2) (c_t_high := q1.2.2.1) (c_t_wide := q1.2.2.2.1) (c_t_acts := (0 : Int)) (c_t_next := c_t_next) (c_t_scriptSize := c_t_scriptSize) (c_t_spot := q1.2.1) (c_t_readHigh := q1.2.2.1) (c_t_readWide := q1.2.2.2.1)  q16 h17) dX9_load_72 gX9_load_X9_points rfl rfl rfl (by decide +kernel) ⟨Nat.le_of_ble_eq_true rfl, Nat.le_of_ble_eq_true rfl⟩ ⟨Nat.le_of_ble_eq_true rfl, Nat.le_of_ble_eq_true rfl⟩ (z_spl_of [2, 0, 1, 3, 4] rfl rfl) rfl rfl rfl rfl (Nat.le_of_ble_eq_true rfl) rfl (fun rv w9 hq => ?_)
      obtain ⟨rfl, rfl⟩ := hq
      refine z_ws [(a_t_isKept, zB J 2 (va_up (va_up f_t_isKept ((0 : Int)).toNat (0 : Int)) ((1 : Int)).toNat (0 : Int))), (a_t_script, zI J 120 f_t_script), (a_t_read, zI J 243 q1.2.2.2.2), (a_t_now, zI J 243 q14), (a_t, .inr (8, [.int (zi q11.2), .int (zi q1.2.2.1), .int (zi q1.2.2.2.1), .ref a_t_now, .ref a_t_trial, .ref a_t_diary, .int (zi (0 : Int)), .int (zi c_t_next), .ref a_t_kept, .ref a_t_isKept, .ref a_t_script, .int (zi c_t_scriptSize), .int (zi q1.2.1), .ref a_t_read, .int (zi q1.2.2.1), .int (zi q1.2.2.2.1), .ref a_t_wanted, .ref a_t_level, .ref a_t_chosen, .ref a_t_best]))] rfl ?_
      refine z_perm [(a_t, .inr (8, [.int (zi q11.2), .int (zi q1.2.2.1), .int (zi q1.2.2.2.1), .ref a_t_now, .ref a_t_trial, .ref a_t_diary, .int (zi (0 : Int)), .int (zi c_t_next), .ref a_t_kept, .ref a_t_isKept, .ref a_t_script, .int (zi c_t_scriptSize), .int (zi q1.2.1), .ref a_t_read, .int (zi q1.2.2.1), .int (zi q1.2.2.2.1), .ref a_t_wanted, .ref a_t_level, .ref a_t_chosen, .ref a_t_best])), (a_t_now, zI J 243 q14), (a_t_isKept, zB J 2 (va_up (va_up f_t_isKept ((0 : Int)).toNat (0 : Int)) ((1 : Int)).toNat (0 : Int))), (a_t_script, zI J 120 f_t_script), (a_t_read, zI J 243 q1.2.2.2.2)] [(0, .ref a_t)] [4, 3, 0, 1, 2] [0] rfl rfl rfl ?_
      cases hsh
      exact z_iret rfl dX9_load_75 ⟨rfl, rfl⟩
    · replace hsh := zif_f q hsh
      refine z_iconst (pc' := 22) dX9_load_21 rfl ?_
      refine z_perm [(a_t, .inr (8, [.int (zi q11.2), .int (zi c_t_high), .int (zi c_t_wide), .ref a_t_now, .ref a_t_trial, .ref a_t_diary, .int (zi c_t_acts), .int (zi c_t_next), .ref a_t_kept, .ref a_t_isKept, .ref a_t_script, .int (zi c_t_scriptSize), .int (zi q1.2.1), .ref a_t_read, .int (zi q1.2.2.1), .int (zi q1.2.2.2.1), .ref a_t_wanted, .ref a_t_level, .ref a_t_chosen, .ref a_t_best])), (a_t_now, zI J 243 f_t_now), (a_t_isKept, zB J 2 f_t_isKept), (a_t_script, zI J 120 f_t_script), (a_t_read, zI J 243 q1.2.2.2.2)] [(0, .ref a_t)] [4, 0, 1, 2, 3] [0] rfl rfl rfl ?_
      cases hsh
      exact z_iret rfl dX9_load_22 ⟨rfl, rfl⟩
def sh_X9_pointCount (F : Nat) (c_t_high : Int) (c_t_wide : Int) : Option (Int × Int) := (sh_X9_points F c_t_high c_t_wide).bind (fun (q1 : Int) => some (q1, (0 : Int)))
theorem mX9_pointCount_f51 : Cond.fieldLink RX9 51 (TX9 0).1 (TX9 0).2.1 (TX9 0).2.2.1 ∈ wsX9_pointCount := List.mem_of_getElem? (i := 1) rfl
theorem iX9_pointCount_X9 : ∀ w ∈ wsX90, w ∈ wsX9_pointCount := fun _ h => (List.mem_cons_of_mem _ (List.mem_append_right _ h))
set_option maxRecDepth 100000 in
set_option maxHeartbeats 4000000 in
theorem zc_X9_pointCount (l : Launch) (D : va_G) (J : Nat → ClassId) (F : Nat) (a_t : Nat) (a_t_now : Nat) (a_t_trial : Nat) (a_t_diary : Nat) (a_t_kept : Nat) (a_t_isKept : Nat) (a_t_script : Nat) (a_t_read : Nat) (a_t_wanted : Nat) (a_t_level : Nat) (a_t_chosen : Nat) (a_t_best : Nat) (c_t_refusal : Int) (c_t_high : Int) (c_t_wide : Int) (c_t_acts : Int) (c_t_next : Int) (c_t_scriptSize : Int) (c_t_spot : Int) (c_t_readHigh : Int) (c_t_readWide : Int) (res : Int × Int) (hsh : sh_X9_pointCount F c_t_high c_t_wide = some res) : ZM l D J yX9_pointCount wsX9_pointCount ({ frames := 1, cells := 0, slots := 0, locals := 20 } : Room) 0 0 [.ref a_t] [(a_t, .inr (8, [.int (zi c_t_refusal), .int (zi c_t_high), .int (zi c_t_wide), .ref a_t_now, .ref a_t_trial, .ref a_t_diary, .int (zi c_t_acts), .int (zi c_t_next), .ref a_t_kept, .ref a_t_isKept, .ref a_t_script, .int (zi c_t_scriptSize), .int (zi c_t_spot), .ref a_t_read, .int (zi c_t_readHigh), .int (zi c_t_readWide), .ref a_t_wanted, .ref a_t_level, .ref a_t_chosen, .ref a_t_best]))] (fun rv w9 => rv = some (.int (zi res.1)) ∧ w9 = [(a_t, .inr (8, [.int (zi res.2), .int (zi c_t_high), .int (zi c_t_wide), .ref a_t_now, .ref a_t_trial, .ref a_t_diary, .int (zi c_t_acts), .int (zi c_t_next), .ref a_t_kept, .ref a_t_isKept, .ref a_t_script, .int (zi c_t_scriptSize), .int (zi c_t_spot), .ref a_t_read, .int (zi c_t_readHigh), .int (zi c_t_readWide), .ref a_t_wanted, .ref a_t_level, .ref a_t_chosen, .ref a_t_best]))]) := by
  refine z_ofZ (cc := cX9_pointCount) (maxL := 1) (ret := (some .int)) 0 0 (by decide) rfl (Nat.le_of_ble_eq_true rfl) [(0, .ref a_t)] rfl ?_
  intro p e s m args below meth c A
  unfold sh_X9_pointCount at hsh
  refine z_aload_n (pc' := 1) 0 dX9_pointCount_0 rfl rfl rfl ?_
  refine z_iconst (pc' := 2) dX9_pointCount_1 rfl ?_
  refine z_putfield (pc' := 5) (C := RX9) (T := TX9) (N := 20) (ty := .int) 0 0 [(a_t, .inr (8, [.int (zi (0 : Int)), .int (zi c_t_high), .int (zi c_t_wide), .ref a_t_now, .ref a_t_trial, .ref a_t_diary, .int (zi c_t_acts), .int (zi c_t_next), .ref a_t_kept, .ref a_t_isKept, .ref a_t_script, .int (zi c_t_scriptSize), .int (zi c_t_spot), .ref a_t_read, .int (zi c_t_readHigh), .int (zi c_t_readWide), .ref a_t_wanted, .ref a_t_level, .ref a_t_chosen, .ref a_t_best]))] tyX9 tyX9_ok nmX9 dX9_pointCount_2 iX9_pointCount_X9 rfl rfl (by decide) mX9_pointCount_f51 rfl (by decide +kernel) rfl rfl (Nat.le_of_ble_eq_true rfl) rfl rfl rfl ?_
  refine z_aload_n (pc' := 6) 0 dX9_pointCount_5 rfl rfl rfl ?_
  obtain ⟨q1, h2, hsh⟩ := zbind hsh
  refine z_callV (pc' := 9) (C := RX9) (As := []) (rest := []) (wr := []) 0 (zc_X9_points l D J F (a_t := a_t) (a_t_now := a_t_now) (a_t_trial := a_t_trial) (a_t_diary := a_t_diary) (a_t_kept := a_t_kept) (a_t_isKept := a_t_isKept) (a_t_script := a_t_script) (a_t_read := a_t_read) (a_t_wanted := a_t_wanted) (a_t_level := a_t_level) (a_t_chosen := a_t_chosen) (a_t_best := a_t_best) (c_t_refusal := (0 : Int)) (c_t_high := c_t_high) (c_t_wide := c_t_wide) (c_t_acts := c_t_acts) (c_t_next := c_t_next) (c_t_scriptSize := c_t_scriptSize) (c_t_spot := c_t_spot) (c_t_readHigh := c_t_readHigh) (c_t_readWide := c_t_readWide)  q1 h2) dX9_pointCount_6 gX9_pointCount_X9_points rfl rfl rfl (by decide +kernel) ⟨Nat.le_of_ble_eq_true rfl, Nat.le_of_ble_eq_true rfl⟩ ⟨Nat.le_of_ble_eq_true rfl, Nat.le_of_ble_eq_true rfl⟩ (z_spl_of [0] rfl rfl) rfl rfl rfl rfl (Nat.le_of_ble_eq_true rfl) rfl (fun rv w9 hq => ?_)
  obtain ⟨rfl, rfl⟩ := hq
  refine z_ws [(a_t, .inr (8, [.int (zi (0 : Int)), .int (zi c_t_high), .int (zi c_t_wide), .ref a_t_now, .ref a_t_trial, .ref a_t_diary, .int (zi c_t_acts), .int (zi c_t_next), .ref a_t_kept, .ref a_t_isKept, .ref a_t_script, .int (zi c_t_scriptSize), .int (zi c_t_spot), .ref a_t_read, .int (zi c_t_readHigh), .int (zi c_t_readWide), .ref a_t_wanted, .ref a_t_level, .ref a_t_chosen, .ref a_t_best]))] rfl ?_
  cases hsh
  exact z_iret rfl dX9_pointCount_9 ⟨rfl, rfl⟩
def sh_X9_bound (F : Nat) (f_t_now : Nat → Int) : Option (Int × Int) := some ((f_t_now ((240 : Int)).toNat), (0 : Int))
theorem mX9_bound_f51 : Cond.fieldLink RX9 51 (TX9 0).1 (TX9 0).2.1 (TX9 0).2.2.1 ∈ wsX9_bound := List.mem_of_getElem? (i := 1) rfl
theorem iX9_bound_X9 : ∀ w ∈ wsX90, w ∈ wsX9_bound := fun _ h => (List.mem_cons_of_mem _ (List.mem_append_right _ h))
theorem mX9_bound_f16 : Cond.fieldLink RX9 16 (TX9 3).1 (TX9 3).2.1 (TX9 3).2.2.1 ∈ wsX9_bound := List.mem_of_getElem? (i := 2) rfl
set_option maxRecDepth 100000 in
set_option maxHeartbeats 4000000 in
theorem zc_X9_bound (l : Launch) (D : va_G) (J : Nat → ClassId) (F : Nat) (a_t : Nat) (a_t_now : Nat) (a_t_trial : Nat) (a_t_diary : Nat) (a_t_kept : Nat) (a_t_isKept : Nat) (a_t_script : Nat) (a_t_read : Nat) (a_t_wanted : Nat) (a_t_level : Nat) (a_t_chosen : Nat) (a_t_best : Nat) (c_t_refusal : Int) (c_t_high : Int) (c_t_wide : Int) (c_t_acts : Int) (c_t_next : Int) (c_t_scriptSize : Int) (c_t_spot : Int) (c_t_readHigh : Int) (c_t_readWide : Int) (f_t_now : Nat → Int) (res : Int × Int) (hsh : sh_X9_bound F f_t_now = some res) : ZM l D J yX9_bound wsX9_bound ({ frames := 0, cells := 0, slots := 0, locals := 0 } : Room) 0 0 [.ref a_t] [(a_t, .inr (8, [.int (zi c_t_refusal), .int (zi c_t_high), .int (zi c_t_wide), .ref a_t_now, .ref a_t_trial, .ref a_t_diary, .int (zi c_t_acts), .int (zi c_t_next), .ref a_t_kept, .ref a_t_isKept, .ref a_t_script, .int (zi c_t_scriptSize), .int (zi c_t_spot), .ref a_t_read, .int (zi c_t_readHigh), .int (zi c_t_readWide), .ref a_t_wanted, .ref a_t_level, .ref a_t_chosen, .ref a_t_best])), (a_t_now, zI J 243 f_t_now)] (fun rv w9 => rv = some (.int (zi res.1)) ∧ w9 = [(a_t, .inr (8, [.int (zi res.2), .int (zi c_t_high), .int (zi c_t_wide), .ref a_t_now, .ref a_t_trial, .ref a_t_diary, .int (zi c_t_acts), .int (zi c_t_next), .ref a_t_kept, .ref a_t_isKept, .ref a_t_script, .int (zi c_t_scriptSize), .int (zi c_t_spot), .ref a_t_read, .int (zi c_t_readHigh), .int (zi c_t_readWide), .ref a_t_wanted, .ref a_t_level, .ref a_t_chosen, .ref a_t_best])), (a_t_now, zI J 243 f_t_now)]) := by
  refine z_ofZ (cc := cX9_bound) (maxL := 1) (ret := (some .int)) 0 0 (by decide) rfl (Nat.le_of_ble_eq_true rfl) [(0, .ref a_t)] rfl ?_
  intro p e s m args below meth c A
  unfold sh_X9_bound at hsh
  refine z_aload_n (pc' := 1) 0 dX9_bound_0 rfl rfl rfl ?_
  refine z_iconst (pc' := 2) dX9_bound_1 rfl ?_
  refine z_putfield (pc' := 5) (C := RX9) (T := TX9) (N := 20) (ty := .int) 0 0 [(a_t, .inr (8, [.int (zi (0 : Int)), .int (zi c_t_high), .int (zi c_t_wide), .ref a_t_now, .ref a_t_trial, .ref a_t_diary, .int (zi c_t_acts), .int (zi c_t_next), .ref a_t_kept, .ref a_t_isKept, .ref a_t_script, .int (zi c_t_scriptSize), .int (zi c_t_spot), .ref a_t_read, .int (zi c_t_readHigh), .int (zi c_t_readWide), .ref a_t_wanted, .ref a_t_level, .ref a_t_chosen, .ref a_t_best])), (a_t_now, zI J 243 f_t_now)] tyX9 tyX9_ok nmX9 dX9_bound_2 iX9_bound_X9 rfl rfl (by decide) mX9_bound_f51 rfl (by decide +kernel) rfl rfl (Nat.le_of_ble_eq_true rfl) rfl rfl rfl ?_
  refine z_aload_n (pc' := 6) 0 dX9_bound_5 rfl rfl rfl ?_
  refine z_getfield (pc' := 9) (C := RX9) (T := TX9) (N := 20) 0 3 dX9_bound_6 iX9_bound_X9 rfl rfl (by decide) mX9_bound_f16 rfl rfl ?_
  refine z_sipush (pc' := 12) dX9_bound_9 (by decide) rfl ?_
  refine z_iaload (pc' := 13) 1 dX9_bound_12 rfl (by decide) (by decide) rfl ?_
  cases hsh
  exact z_iret rfl dX9_bound_13 ⟨rfl, rfl⟩
def sh_X9_isPoint (F : Nat) (c_t_high : Int) (c_t_wide : Int) (p0 : Int) : Option (Int) := zkr p0 ((sh_X9_points F c_t_high c_t_wide).bind (fun (q2 : Int) => zkr (q2 - (1 : Int)) ((sh_X9_in F p0 (0 : Int) (q2 - (1 : Int))).bind (fun (q5 : Int) => zkc (q5 = 0 ∨ q5 = 1) (some (q5))))))
set_option maxRecDepth 100000 in
set_option maxHeartbeats 4000000 in
theorem zc_X9_isPoint (l : Launch) (D : va_G) (J : Nat → ClassId) (F : Nat) (a_t : Nat) (a_t_now : Nat) (a_t_trial : Nat) (a_t_diary : Nat) (a_t_kept : Nat) (a_t_isKept : Nat) (a_t_script : Nat) (a_t_read : Nat) (a_t_wanted : Nat) (a_t_level : Nat) (a_t_chosen : Nat) (a_t_best : Nat) (c_t_refusal : Int) (c_t_high : Int) (c_t_wide : Int) (c_t_acts : Int) (c_t_next : Int) (c_t_scriptSize : Int) (c_t_spot : Int) (c_t_readHigh : Int) (c_t_readWide : Int) (p0 : Int) (res : Int) (hsh : sh_X9_isPoint F c_t_high c_t_wide p0 = some res) : ZM l D J yX9_isPoint wsX9_isPoint ({ frames := 1, cells := 0, slots := 0, locals := 25 } : Room) 0 0 [.ref a_t, .int (zi p0)] [(a_t, .inr (8, [.int (zi c_t_refusal), .int (zi c_t_high), .int (zi c_t_wide), .ref a_t_now, .ref a_t_trial, .ref a_t_diary, .int (zi c_t_acts), .int (zi c_t_next), .ref a_t_kept, .ref a_t_isKept, .ref a_t_script, .int (zi c_t_scriptSize), .int (zi c_t_spot), .ref a_t_read, .int (zi c_t_readHigh), .int (zi c_t_readWide), .ref a_t_wanted, .ref a_t_level, .ref a_t_chosen, .ref a_t_best]))] (fun rv w9 => rv = some (.int (zi res)) ∧ w9 = [(a_t, .inr (8, [.int (zi c_t_refusal), .int (zi c_t_high), .int (zi c_t_wide), .ref a_t_now, .ref a_t_trial, .ref a_t_diary, .int (zi c_t_acts), .int (zi c_t_next), .ref a_t_kept, .ref a_t_isKept, .ref a_t_script, .int (zi c_t_scriptSize), .int (zi c_t_spot), .ref a_t_read, .int (zi c_t_readHigh), .int (zi c_t_readWide), .ref a_t_wanted, .ref a_t_level, .ref a_t_chosen, .ref a_t_best]))]) := by
  refine z_ofZ (cc := cX9_isPoint) (maxL := 2) (ret := (some .boolean)) 0 0 (by decide) rfl (Nat.le_of_ble_eq_true rfl) [(0, .ref a_t), (1, .int (zi p0))] rfl ?_
  intro p e s m args below meth c A
  unfold sh_X9_isPoint at hsh
  refine z_iload_n (pc' := 1) 1 dX9_isPoint_0 rfl rfl rfl ?_
  have g1 := zkr_p hsh
  replace hsh := zkr_k hsh
  refine z_i2l (pc' := 2) dX9_isPoint_1 g1 rfl ?_
  refine z_lconst (pc' := 3) 0 dX9_isPoint_2 (by decide) rfl ?_
  refine z_aload_n (pc' := 4) 0 dX9_isPoint_3 rfl rfl rfl ?_
  obtain ⟨q2, h3, hsh⟩ := zbind hsh
  refine z_callV (pc' := 7) (C := RX9) (As := []) (rest := [.long (zl (0 : Int)), .long (zl p0)]) (wr := []) 0 (zc_X9_points l D J F (a_t := a_t) (a_t_now := a_t_now) (a_t_trial := a_t_trial) (a_t_diary := a_t_diary) (a_t_kept := a_t_kept) (a_t_isKept := a_t_isKept) (a_t_script := a_t_script) (a_t_read := a_t_read) (a_t_wanted := a_t_wanted) (a_t_level := a_t_level) (a_t_chosen := a_t_chosen) (a_t_best := a_t_best) (c_t_refusal := c_t_refusal) (c_t_high := c_t_high) (c_t_wide := c_t_wide) (c_t_acts := c_t_acts) (c_t_next := c_t_next) (c_t_scriptSize := c_t_scriptSize) (c_t_spot := c_t_spot) (c_t_readHigh := c_t_readHigh) (c_t_readWide := c_t_readWide)  q2 h3) dX9_isPoint_4 gX9_isPoint_X9_points rfl rfl rfl (by decide +kernel) ⟨Nat.le_of_ble_eq_true rfl, Nat.le_of_ble_eq_true rfl⟩ ⟨Nat.le_of_ble_eq_true rfl, Nat.le_of_ble_eq_true rfl⟩ (z_spl_of [0] rfl rfl) rfl rfl rfl rfl (Nat.le_of_ble_eq_true rfl) rfl (fun rv w9 hq => ?_)
  obtain ⟨rfl, rfl⟩ := hq
  refine z_ws [(a_t, .inr (8, [.int (zi c_t_refusal), .int (zi c_t_high), .int (zi c_t_wide), .ref a_t_now, .ref a_t_trial, .ref a_t_diary, .int (zi c_t_acts), .int (zi c_t_next), .ref a_t_kept, .ref a_t_isKept, .ref a_t_script, .int (zi c_t_scriptSize), .int (zi c_t_spot), .ref a_t_read, .int (zi c_t_readHigh), .int (zi c_t_readWide), .ref a_t_wanted, .ref a_t_level, .ref a_t_chosen, .ref a_t_best]))] rfl ?_
  refine z_iconst (pc' := 8) dX9_isPoint_7 rfl ?_
  refine z_isub (pc' := 9) dX9_isPoint_8 rfl ?_
  have g4 := zkr_p hsh
  replace hsh := zkr_k hsh
  refine z_i2l (pc' := 10) dX9_isPoint_9 g4 rfl ?_
  obtain ⟨q5, h6, hsh⟩ := zbind hsh
  refine z_callS (pc' := 13) (As := [.long (zl p0), .long (zl (0 : Int)), .long (zl (q2 - (1 : Int)))]) (rest := []) (wr := [(a_t, .inr (8, [.int (zi c_t_refusal), .int (zi c_t_high), .int (zi c_t_wide), .ref a_t_now, .ref a_t_trial, .ref a_t_diary, .int (zi c_t_acts), .int (zi c_t_next), .ref a_t_kept, .ref a_t_isKept, .ref a_t_script, .int (zi c_t_scriptSize), .int (zi c_t_spot), .ref a_t_read, .int (zi c_t_readHigh), .int (zi c_t_readWide), .ref a_t_wanted, .ref a_t_level, .ref a_t_chosen, .ref a_t_best]))]) 3 (zc_X9_in l D J F (p0 := p0) (p1 := (0 : Int)) (p2 := (q2 - (1 : Int)))  q5 h6) dX9_isPoint_10 gX9_isPoint_X9_in rfl rfl rfl (by decide +kernel) ⟨Nat.le_of_ble_eq_true rfl, Nat.le_of_ble_eq_true rfl⟩ ⟨Nat.le_of_ble_eq_true rfl, Nat.le_of_ble_eq_true rfl⟩ (z_spl_of [0] rfl rfl) rfl rfl (Nat.le_of_ble_eq_true rfl) rfl (fun rv w9 hq => ?_)
  obtain ⟨rfl, rfl⟩ := hq
  refine z_ws [(a_t, .inr (8, [.int (zi c_t_refusal), .int (zi c_t_high), .int (zi c_t_wide), .ref a_t_now, .ref a_t_trial, .ref a_t_diary, .int (zi c_t_acts), .int (zi c_t_next), .ref a_t_kept, .ref a_t_isKept, .ref a_t_script, .int (zi c_t_scriptSize), .int (zi c_t_spot), .ref a_t_read, .int (zi c_t_readHigh), .int (zi c_t_readWide), .ref a_t_wanted, .ref a_t_level, .ref a_t_chosen, .ref a_t_best]))] rfl ?_
  have g7 := zkc_p hsh
  replace hsh := zkc_k hsh
  cases hsh
  exact z_zret rfl (zn_z g7) dX9_isPoint_13 ⟨rfl, rfl⟩
def sh_X9_drawn (F : Nat) (c_t_high : Int) (c_t_wide : Int) (f_t_now : Nat → Int) (p0 : Int) : Option (Int × Int) := (sh_X9_isPoint F c_t_high c_t_wide p0).bind (fun (q1 : Int) => zkr q1 (if q1 = (0 : Int) then (sh_X9_refused F (1 : Int)).bind (fun (q4 : Int × Int) => zkr q4.1 (if q4.1 = (0 : Int) then zkx (((15 : Int) * p0) + (0 : Int)) 243 (some ((f_t_now ((((15 : Int) * p0) + (0 : Int))).toNat), q4.2)) else some ((0 : Int), q4.2))) else (sh_X9_refused F (0 : Int)).bind (fun (q8 : Int × Int) => zkr q8.1 (if q8.1 = (0 : Int) then zkx (((15 : Int) * p0) + (0 : Int)) 243 (some ((f_t_now ((((15 : Int) * p0) + (0 : Int))).toNat), q8.2)) else some ((0 : Int), q8.2)))))
theorem mX9_drawn_f16 : Cond.fieldLink RX9 16 (TX9 3).1 (TX9 3).2.1 (TX9 3).2.2.1 ∈ wsX9_drawn := List.mem_of_getElem? (i := 1) rfl
theorem iX9_drawn_X9 : ∀ w ∈ wsX90, w ∈ wsX9_drawn := fun _ h => (List.mem_cons_of_mem _ (List.mem_append_right _ h))
set_option maxRecDepth 100000 in
set_option maxHeartbeats 4000000 in
theorem zc_X9_drawn (l : Launch) (D : va_G) (J : Nat → ClassId) (F : Nat) (a_t : Nat) (a_t_now : Nat) (a_t_trial : Nat) (a_t_diary : Nat) (a_t_kept : Nat) (a_t_isKept : Nat) (a_t_script : Nat) (a_t_read : Nat) (a_t_wanted : Nat) (a_t_level : Nat) (a_t_chosen : Nat) (a_t_best : Nat) (c_t_refusal : Int) (c_t_high : Int) (c_t_wide : Int) (c_t_acts : Int) (c_t_next : Int) (c_t_scriptSize : Int) (c_t_spot : Int) (c_t_readHigh : Int) (c_t_readWide : Int) (f_t_now : Nat → Int) (p0 : Int) (res : Int × Int) (hsh : sh_X9_drawn F c_t_high c_t_wide f_t_now p0 = some res) : ZM l D J yX9_drawn wsX9_drawn ({ frames := 2, cells := 0, slots := 0, locals := 46 } : Room) 0 0 [.ref a_t, .int (zi p0)] [(a_t, .inr (8, [.int (zi c_t_refusal), .int (zi c_t_high), .int (zi c_t_wide), .ref a_t_now, .ref a_t_trial, .ref a_t_diary, .int (zi c_t_acts), .int (zi c_t_next), .ref a_t_kept, .ref a_t_isKept, .ref a_t_script, .int (zi c_t_scriptSize), .int (zi c_t_spot), .ref a_t_read, .int (zi c_t_readHigh), .int (zi c_t_readWide), .ref a_t_wanted, .ref a_t_level, .ref a_t_chosen, .ref a_t_best])), (a_t_now, zI J 243 f_t_now)] (fun rv w9 => rv = some (.int (zi res.1)) ∧ w9 = [(a_t, .inr (8, [.int (zi res.2), .int (zi c_t_high), .int (zi c_t_wide), .ref a_t_now, .ref a_t_trial, .ref a_t_diary, .int (zi c_t_acts), .int (zi c_t_next), .ref a_t_kept, .ref a_t_isKept, .ref a_t_script, .int (zi c_t_scriptSize), .int (zi c_t_spot), .ref a_t_read, .int (zi c_t_readHigh), .int (zi c_t_readWide), .ref a_t_wanted, .ref a_t_level, .ref a_t_chosen, .ref a_t_best])), (a_t_now, zI J 243 f_t_now)]) := by
  refine z_ofZ (cc := cX9_drawn) (maxL := 2) (ret := (some .int)) 0 0 (by decide) rfl (Nat.le_of_ble_eq_true rfl) [(0, .ref a_t), (1, .int (zi p0))] rfl ?_
  intro p e s m args below meth c A
  unfold sh_X9_drawn at hsh
  refine z_aload_n (pc' := 1) 0 dX9_drawn_0 rfl rfl rfl ?_
  refine z_aload_n (pc' := 2) 0 dX9_drawn_1 rfl rfl rfl ?_
  refine z_iload_n (pc' := 3) 1 dX9_drawn_2 rfl rfl rfl ?_
  obtain ⟨q1, h2, hsh⟩ := zbind hsh
  refine z_callV (pc' := 6) (C := RX9) (As := [.int (zi p0)]) (rest := [.ref a_t]) (wr := [(a_t_now, zI J 243 f_t_now)]) 1 (zc_X9_isPoint l D J F (a_t := a_t) (a_t_now := a_t_now) (a_t_trial := a_t_trial) (a_t_diary := a_t_diary) (a_t_kept := a_t_kept) (a_t_isKept := a_t_isKept) (a_t_script := a_t_script) (a_t_read := a_t_read) (a_t_wanted := a_t_wanted) (a_t_level := a_t_level) (a_t_chosen := a_t_chosen) (a_t_best := a_t_best) (c_t_refusal := c_t_refusal) (c_t_high := c_t_high) (c_t_wide := c_t_wide) (c_t_acts := c_t_acts) (c_t_next := c_t_next) (c_t_scriptSize := c_t_scriptSize) (c_t_spot := c_t_spot) (c_t_readHigh := c_t_readHigh) (c_t_readWide := c_t_readWide) (p0 := p0)  q1 h2) dX9_drawn_3 gX9_drawn_X9_isPoint rfl rfl rfl (by decide +kernel) ⟨Nat.le_of_ble_eq_true rfl, Nat.le_of_ble_eq_true rfl⟩ ⟨Nat.le_of_ble_eq_true rfl, Nat.le_of_ble_eq_true rfl⟩ (z_spl_of [0, 1] rfl rfl) rfl rfl rfl rfl (Nat.le_of_ble_eq_true rfl) rfl (fun rv w9 hq => ?_)
  obtain ⟨rfl, rfl⟩ := hq
  refine z_ws [(a_t_now, zI J 243 f_t_now), (a_t, .inr (8, [.int (zi c_t_refusal), .int (zi c_t_high), .int (zi c_t_wide), .ref a_t_now, .ref a_t_trial, .ref a_t_diary, .int (zi c_t_acts), .int (zi c_t_next), .ref a_t_kept, .ref a_t_isKept, .ref a_t_script, .int (zi c_t_scriptSize), .int (zi c_t_spot), .ref a_t_read, .int (zi c_t_readHigh), .int (zi c_t_readWide), .ref a_t_wanted, .ref a_t_level, .ref a_t_chosen, .ref a_t_best]))] rfl ?_
  have g3 := zkr_p hsh
  replace hsh := zkr_k hsh
  refine z_if_eq (pc' := 9) (tgt := 13) dX9_drawn_6 (by decide) g3 rfl (fun q => ?_) (fun q => ?_)
  · replace hsh := zif_t q hsh
    refine z_iconst (pc' := 14) dX9_drawn_13 rfl ?_
    obtain ⟨q4, h5, hsh⟩ := zbind hsh
    refine z_callV (pc' := 17) (C := RX9) (As := [.int (zi (1 : Int))]) (rest := []) (wr := [(a_t_now, zI J 243 f_t_now)]) 1 (zc_X9_refused l D J F (a_t := a_t) (a_t_now := a_t_now) (a_t_trial := a_t_trial) (a_t_diary := a_t_diary) (a_t_kept := a_t_kept) (a_t_isKept := a_t_isKept) (a_t_script := a_t_script) (a_t_read := a_t_read) (a_t_wanted := a_t_wanted) (a_t_level := a_t_level) (a_t_chosen := a_t_chosen) (a_t_best := a_t_best) (c_t_refusal := c_t_refusal) (c_t_high := c_t_high) (c_t_wide := c_t_wide) (c_t_acts := c_t_acts) (c_t_next := c_t_next) (c_t_scriptSize := c_t_scriptSize) (c_t_spot := c_t_spot) (c_t_readHigh := c_t_readHigh) (c_t_readWide := c_t_readWide) (p0 := (1 : Int))  q4 h5) dX9_drawn_14 gX9_drawn_X9_refused rfl rfl rfl (by decide +kernel) ⟨Nat.le_of_ble_eq_true rfl, Nat.le_of_ble_eq_true rfl⟩ ⟨Nat.le_of_ble_eq_true rfl, Nat.le_of_ble_eq_true rfl⟩ (z_spl_of [1, 0] rfl rfl) rfl rfl rfl rfl (Nat.le_of_ble_eq_true rfl) rfl (fun rv w9 hq => ?_)
    obtain ⟨rfl, rfl⟩ := hq
    refine z_ws [(a_t_now, zI J 243 f_t_now), (a_t, .inr (8, [.int (zi q4.2), .int (zi c_t_high), .int (zi c_t_wide), .ref a_t_now, .ref a_t_trial, .ref a_t_diary, .int (zi c_t_acts), .int (zi c_t_next), .ref a_t_kept, .ref a_t_isKept, .ref a_t_script, .int (zi c_t_scriptSize), .int (zi c_t_spot), .ref a_t_read, .int (zi c_t_readHigh), .int (zi c_t_readWide), .ref a_t_wanted, .ref a_t_level, .ref a_t_chosen, .ref a_t_best]))] rfl ?_
    have g6 := zkr_p hsh
    replace hsh := zkr_k hsh
    refine z_if_eq (pc' := 20) (tgt := 22) dX9_drawn_17 (by decide) g6 rfl (fun q => ?_) (fun q => ?_)
    · replace hsh := zif_t q hsh
      refine z_aload_n (pc' := 23) 0 dX9_drawn_22 rfl rfl rfl ?_
      refine z_getfield (pc' := 26) (C := RX9) (T := TX9) (N := 20) 1 3 dX9_drawn_23 iX9_drawn_X9 rfl rfl (by decide) mX9_drawn_f16 rfl rfl ?_
      refine z_bipush (pc' := 28) dX9_drawn_26 (by decide) rfl ?_
      refine z_iload_n (pc' := 29) 1 dX9_drawn_28 rfl rfl rfl ?_
      refine z_imul (pc' := 30) dX9_drawn_29 rfl ?_
      refine z_iconst (pc' := 31) dX9_drawn_30 rfl ?_
      refine z_iadd (pc' := 32) dX9_drawn_31 rfl ?_
      have g7 := zkx_p hsh
      replace hsh := zkx_k hsh
      refine z_iaload (pc' := 33) 0 dX9_drawn_32 rfl (by decide) g7 rfl ?_
      refine z_perm [(a_t, .inr (8, [.int (zi q4.2), .int (zi c_t_high), .int (zi c_t_wide), .ref a_t_now, .ref a_t_trial, .ref a_t_diary, .int (zi c_t_acts), .int (zi c_t_next), .ref a_t_kept, .ref a_t_isKept, .ref a_t_script, .int (zi c_t_scriptSize), .int (zi c_t_spot), .ref a_t_read, .int (zi c_t_readHigh), .int (zi c_t_readWide), .ref a_t_wanted, .ref a_t_level, .ref a_t_chosen, .ref a_t_best])), (a_t_now, zI J 243 f_t_now)] [(0, .ref a_t), (1, .int (zi p0))] [1, 0] [0, 1] rfl rfl rfl ?_
      cases hsh
      exact z_iret rfl dX9_drawn_33 ⟨rfl, rfl⟩
    · replace hsh := zif_f q hsh
      refine z_iconst (pc' := 21) dX9_drawn_20 rfl ?_
      refine z_perm [(a_t, .inr (8, [.int (zi q4.2), .int (zi c_t_high), .int (zi c_t_wide), .ref a_t_now, .ref a_t_trial, .ref a_t_diary, .int (zi c_t_acts), .int (zi c_t_next), .ref a_t_kept, .ref a_t_isKept, .ref a_t_script, .int (zi c_t_scriptSize), .int (zi c_t_spot), .ref a_t_read, .int (zi c_t_readHigh), .int (zi c_t_readWide), .ref a_t_wanted, .ref a_t_level, .ref a_t_chosen, .ref a_t_best])), (a_t_now, zI J 243 f_t_now)] [(0, .ref a_t), (1, .int (zi p0))] [1, 0] [0, 1] rfl rfl rfl ?_
      cases hsh
      exact z_iret rfl dX9_drawn_21 ⟨rfl, rfl⟩
  · replace hsh := zif_f q hsh
    refine z_iconst (pc' := 10) dX9_drawn_9 rfl ?_
    refine z_goto (tgt := 14) dX9_drawn_10 (by decide) ?_
    obtain ⟨q8, h9, hsh⟩ := zbind hsh
    refine z_callV (pc' := 17) (C := RX9) (As := [.int (zi (0 : Int))]) (rest := []) (wr := [(a_t_now, zI J 243 f_t_now)]) 1 (zc_X9_refused l D J F (a_t := a_t) (a_t_now := a_t_now) (a_t_trial := a_t_trial) (a_t_diary := a_t_diary) (a_t_kept := a_t_kept) (a_t_isKept := a_t_isKept) (a_t_script := a_t_script) (a_t_read := a_t_read) (a_t_wanted := a_t_wanted) (a_t_level := a_t_level) (a_t_chosen := a_t_chosen) (a_t_best := a_t_best) (c_t_refusal := c_t_refusal) (c_t_high := c_t_high) (c_t_wide := c_t_wide) (c_t_acts := c_t_acts) (c_t_next := c_t_next) (c_t_scriptSize := c_t_scriptSize) (c_t_spot := c_t_spot) (c_t_readHigh := c_t_readHigh) (c_t_readWide := c_t_readWide) (p0 := (0 : Int))  q8 h9) dX9_drawn_14 gX9_drawn_X9_refused rfl rfl rfl (by decide +kernel) ⟨Nat.le_of_ble_eq_true rfl, Nat.le_of_ble_eq_true rfl⟩ ⟨Nat.le_of_ble_eq_true rfl, Nat.le_of_ble_eq_true rfl⟩ (z_spl_of [1, 0] rfl rfl) rfl rfl rfl rfl (Nat.le_of_ble_eq_true rfl) rfl (fun rv w9 hq => ?_)
    obtain ⟨rfl, rfl⟩ := hq
    refine z_ws [(a_t_now, zI J 243 f_t_now), (a_t, .inr (8, [.int (zi q8.2), .int (zi c_t_high), .int (zi c_t_wide), .ref a_t_now, .ref a_t_trial, .ref a_t_diary, .int (zi c_t_acts), .int (zi c_t_next), .ref a_t_kept, .ref a_t_isKept, .ref a_t_script, .int (zi c_t_scriptSize), .int (zi c_t_spot), .ref a_t_read, .int (zi c_t_readHigh), .int (zi c_t_readWide), .ref a_t_wanted, .ref a_t_level, .ref a_t_chosen, .ref a_t_best]))] rfl ?_
    have g10 := zkr_p hsh
    replace hsh := zkr_k hsh
    refine z_if_eq (pc' := 20) (tgt := 22) dX9_drawn_17 (by decide) g10 rfl (fun q => ?_) (fun q => ?_)
    · replace hsh := zif_t q hsh
      refine z_aload_n (pc' := 23) 0 dX9_drawn_22 rfl rfl rfl ?_
      refine z_getfield (pc' := 26) (C := RX9) (T := TX9) (N := 20) 1 3 dX9_drawn_23 iX9_drawn_X9 rfl rfl (by decide) mX9_drawn_f16 rfl rfl ?_
      refine z_bipush (pc' := 28) dX9_drawn_26 (by decide) rfl ?_
      refine z_iload_n (pc' := 29) 1 dX9_drawn_28 rfl rfl rfl ?_
      refine z_imul (pc' := 30) dX9_drawn_29 rfl ?_
      refine z_iconst (pc' := 31) dX9_drawn_30 rfl ?_
      refine z_iadd (pc' := 32) dX9_drawn_31 rfl ?_
      have g11 := zkx_p hsh
      replace hsh := zkx_k hsh
      refine z_iaload (pc' := 33) 0 dX9_drawn_32 rfl (by decide) g11 rfl ?_
      refine z_perm [(a_t, .inr (8, [.int (zi q8.2), .int (zi c_t_high), .int (zi c_t_wide), .ref a_t_now, .ref a_t_trial, .ref a_t_diary, .int (zi c_t_acts), .int (zi c_t_next), .ref a_t_kept, .ref a_t_isKept, .ref a_t_script, .int (zi c_t_scriptSize), .int (zi c_t_spot), .ref a_t_read, .int (zi c_t_readHigh), .int (zi c_t_readWide), .ref a_t_wanted, .ref a_t_level, .ref a_t_chosen, .ref a_t_best])), (a_t_now, zI J 243 f_t_now)] [(0, .ref a_t), (1, .int (zi p0))] [1, 0] [0, 1] rfl rfl rfl ?_
      cases hsh
      exact z_iret rfl dX9_drawn_33 ⟨rfl, rfl⟩
    · replace hsh := zif_f q hsh
      refine z_iconst (pc' := 21) dX9_drawn_20 rfl ?_
      refine z_perm [(a_t, .inr (8, [.int (zi q8.2), .int (zi c_t_high), .int (zi c_t_wide), .ref a_t_now, .ref a_t_trial, .ref a_t_diary, .int (zi c_t_acts), .int (zi c_t_next), .ref a_t_kept, .ref a_t_isKept, .ref a_t_script, .int (zi c_t_scriptSize), .int (zi c_t_spot), .ref a_t_read, .int (zi c_t_readHigh), .int (zi c_t_readWide), .ref a_t_wanted, .ref a_t_level, .ref a_t_chosen, .ref a_t_best])), (a_t_now, zI J 243 f_t_now)] [(0, .ref a_t), (1, .int (zi p0))] [1, 0] [0, 1] rfl rfl rfl ?_
      cases hsh
      exact z_iret rfl dX9_drawn_21 ⟨rfl, rfl⟩
def sh_X9_remainingOf_L5 (F : Nat) (n_p0 : Nat) (p1 : Int) (p2 : Int) (f_p0 : Nat → Int) (k : Int → Int → Option (Int)) : Nat → Int → Int → Option (Int)
  | 0, _, _ => none
  | N + 1, v3, v4 => zkx ((p1 + ((15 : Int) * p2)) + (2 : Int)) n_p0 (zkr v4 (zkr (f_p0 (((p1 + ((15 : Int) * p2)) + (2 : Int))).toNat) (if v4 < (f_p0 (((p1 + ((15 : Int) * p2)) + (2 : Int))).toNat) then zkx (((p1 + ((15 : Int) * p2)) + (3 : Int)) + ((2 : Int) * v4)) n_p0 (sh_X9_remainingOf_L5 F n_p0 p1 p2 f_p0 k N (v3 + (f_p0 ((((p1 + ((15 : Int) * p2)) + (3 : Int)) + ((2 : Int) * v4))).toNat)) (v4 + (1 : Int))) else k v3 v4)))
def sh_X9_remainingOf (F : Nat) (f_p0 : Nat → Int) (n_p0 : Nat) (p1 : Int) (p2 : Int) : Option (Int) := sh_X9_remainingOf_L5 F n_p0 p1 p2 f_p0 (fun (v9 : Int) (v10 : Int) => some (v9)) F (0 : Int) (0 : Int)
set_option maxRecDepth 100000 in
set_option maxHeartbeats 4000000 in
theorem zl_X9_remainingOf_L5 {p : Program} {l : Launch} {e : Env} {s : State} {m : MethodId} {args : Array Value} {below : List Frame} {meth : Method} {c : Code} {A : Nat → Prop} {D : va_G} {J : Nat → ClassId} {F : Nat} {n_p0 : Nat} {p1 : Int} {p2 : Int} {f_p0 : Nat → Int} {a_p0 : Nat} {res : Int} (hn_p0 : n_p0 ≤ 2147483647) {k : Int → Int → Option (Int)} (hk : ∀ (v3' : Int) (v4' : Int), k v3' v4' = some res → Z p l e ({ frames := 0, cells := 0, slots := 0, locals := 0 } : Room) s m args below meth c (MQ below (zQ D J A (fun rv w9 => rv = some (.int (zi res)) ∧ w9 = [(a_p0, zI J n_p0 f_p0)])) args s 0 0 A) cX9_remainingOf 5 wsX9_remainingOf RX9 D J A (some .int) (yX9_remainingOf.name, []) 0 0 [(a_p0, zI J n_p0 f_p0)] [(3, .int (zi v3'))] 44 []) : ∀ (N : Nat) (v3 : Int) (v4 : Int), sh_X9_remainingOf_L5 F n_p0 p1 p2 f_p0 k N v3 v4 = some res → Z p l e ({ frames := 0, cells := 0, slots := 0, locals := 0 } : Room) s m args below meth c (MQ below (zQ D J A (fun rv w9 => rv = some (.int (zi res)) ∧ w9 = [(a_p0, zI J n_p0 f_p0)])) args s 0 0 A) cX9_remainingOf 5 wsX9_remainingOf RX9 D J A (some .int) (yX9_remainingOf.name, []) 0 0 [(a_p0, zI J n_p0 f_p0)] [(0, .ref a_p0), (1, .int (zi p1)), (2, .int (zi p2)), (3, .int (zi v3)), (4, .int (zi v4))] 5 [] := by
  intro N
  induction N with
  | zero =>
    intro v3 v4 hsh
    exact absurd hsh (by simp [sh_X9_remainingOf_L5])
  | succ N ih =>
    intro v3 v4 hsh
    rw [sh_X9_remainingOf_L5] at hsh
    refine z_iload (pc' := 7) 4 dX9_remainingOf_5 rfl rfl ?_
    refine z_aload_n (pc' := 8) 0 dX9_remainingOf_7 rfl rfl rfl ?_
    refine z_iload_n (pc' := 9) 1 dX9_remainingOf_8 rfl rfl rfl ?_
    refine z_bipush (pc' := 11) dX9_remainingOf_9 (by decide) rfl ?_
    refine z_iload_n (pc' := 12) 2 dX9_remainingOf_11 rfl rfl rfl ?_
    refine z_imul (pc' := 13) dX9_remainingOf_12 rfl ?_
    refine z_iadd (pc' := 14) dX9_remainingOf_13 rfl ?_
    refine z_iconst (pc' := 15) dX9_remainingOf_14 rfl ?_
    refine z_iadd (pc' := 16) dX9_remainingOf_15 rfl ?_
    have g5 := zkx_p hsh
    replace hsh := zkx_k hsh
    refine z_iaload (pc' := 17) 0 dX9_remainingOf_16 rfl hn_p0 g5 rfl ?_
    have g6 := zkr_p hsh
    replace hsh := zkr_k hsh
    have g7 := zkr_p hsh
    replace hsh := zkr_k hsh
    refine z_icmp_ge (pc' := 20) (tgt := 44) dX9_remainingOf_17 (by decide) g6 g7 rfl (fun q => ?_) (fun q => ?_)
    · replace hsh := zif_f q hsh
      refine z_perm [(a_p0, zI J n_p0 f_p0)] [(3, .int (zi v3))] [0] [3] rfl rfl rfl ?_
      exact hk _ _ hsh
    · replace hsh := zif_t q hsh
      refine z_iload_n (pc' := 21) 3 dX9_remainingOf_20 rfl rfl rfl ?_
      refine z_aload_n (pc' := 22) 0 dX9_remainingOf_21 rfl rfl rfl ?_
      refine z_iload_n (pc' := 23) 1 dX9_remainingOf_22 rfl rfl rfl ?_
      refine z_bipush (pc' := 25) dX9_remainingOf_23 (by decide) rfl ?_
      refine z_iload_n (pc' := 26) 2 dX9_remainingOf_25 rfl rfl rfl ?_
      refine z_imul (pc' := 27) dX9_remainingOf_26 rfl ?_
      refine z_iadd (pc' := 28) dX9_remainingOf_27 rfl ?_
      refine z_iconst (pc' := 29) dX9_remainingOf_28 rfl ?_
      refine z_iadd (pc' := 30) dX9_remainingOf_29 rfl ?_
      refine z_iconst (pc' := 31) dX9_remainingOf_30 rfl ?_
      refine z_iload (pc' := 33) 4 dX9_remainingOf_31 rfl rfl ?_
      refine z_imul (pc' := 34) dX9_remainingOf_33 rfl ?_
      refine z_iadd (pc' := 35) dX9_remainingOf_34 rfl ?_
      have g8 := zkx_p hsh
      replace hsh := zkx_k hsh
      refine z_iaload (pc' := 36) 0 dX9_remainingOf_35 rfl hn_p0 g8 rfl ?_
      refine z_iadd (pc' := 37) dX9_remainingOf_36 rfl ?_
      refine z_istore_n (pc' := 38) [(3, .int (zi (v3 + (f_p0 ((((p1 + ((15 : Int) * p2)) + (3 : Int)) + ((2 : Int) * v4))).toNat)))), (0, .ref a_p0), (1, .int (zi p1)), (2, .int (zi p2)), (4, .int (zi v4))] dX9_remainingOf_37 rfl (by decide) rfl rfl ?_
      refine z_iinc (pc' := 41) [(4, .int (zi (v4 + (1 : Int)))), (3, .int (zi (v3 + (f_p0 ((((p1 + ((15 : Int) * p2)) + (3 : Int)) + ((2 : Int) * v4))).toNat)))), (0, .ref a_p0), (1, .int (zi p1)), (2, .int (zi p2))] 4 dX9_remainingOf_38 rfl (by decide) rfl rfl ?_
      refine z_goto (tgt := 5) dX9_remainingOf_41 (by decide) ?_
      refine z_perm [(a_p0, zI J n_p0 f_p0)] [(0, .ref a_p0), (1, .int (zi p1)), (2, .int (zi p2)), (3, .int (zi (v3 + (f_p0 ((((p1 + ((15 : Int) * p2)) + (3 : Int)) + ((2 : Int) * v4))).toNat)))), (4, .int (zi (v4 + (1 : Int))))] [0] [2, 3, 4, 1, 0] rfl rfl rfl ?_
      exact ih _ _ hsh
set_option maxRecDepth 100000 in
set_option maxHeartbeats 4000000 in
theorem zc_X9_remainingOf (l : Launch) (D : va_G) (J : Nat → ClassId) (F : Nat) (a_p0 : Nat) (f_p0 : Nat → Int) (n_p0 : Nat) (p1 : Int) (p2 : Int) (hn_p0 : n_p0 ≤ 2147483647) (res : Int) (hsh : sh_X9_remainingOf F f_p0 n_p0 p1 p2 = some res) : ZM l D J yX9_remainingOf wsX9_remainingOf ({ frames := 0, cells := 0, slots := 0, locals := 0 } : Room) 0 0 [.ref a_p0, .int (zi p1), .int (zi p2)] [(a_p0, zI J n_p0 f_p0)] (fun rv w9 => rv = some (.int (zi res)) ∧ w9 = [(a_p0, zI J n_p0 f_p0)]) := by
  refine z_ofZ (cc := cX9_remainingOf) (maxL := 5) (ret := (some .int)) 0 0 (by decide) rfl (Nat.le_of_ble_eq_true rfl) [(0, .ref a_p0), (1, .int (zi p1)), (2, .int (zi p2))] rfl ?_
  intro p e s m args below meth c A
  unfold sh_X9_remainingOf at hsh
  refine z_iconst (pc' := 1) dX9_remainingOf_0 rfl ?_
  refine z_istore_n (pc' := 2) [(3, .int (zi (0 : Int))), (0, .ref a_p0), (1, .int (zi p1)), (2, .int (zi p2))] dX9_remainingOf_1 rfl (by decide) rfl rfl ?_
  refine z_iconst (pc' := 3) dX9_remainingOf_2 rfl ?_
  refine z_istore (pc' := 5) [(4, .int (zi (0 : Int))), (3, .int (zi (0 : Int))), (0, .ref a_p0), (1, .int (zi p1)), (2, .int (zi p2))] dX9_remainingOf_3 (by decide) rfl rfl ?_
  refine z_perm [(a_p0, zI J n_p0 f_p0)] [(0, .ref a_p0), (1, .int (zi p1)), (2, .int (zi p2)), (3, .int (zi (0 : Int))), (4, .int (zi (0 : Int)))] [0] [2, 3, 4, 1, 0] rfl rfl rfl ?_
  refine zl_X9_remainingOf_L5 (F := F) (hn_p0 := hn_p0) (hk := fun v9 v10 hsh => ?_) _ _ _ hsh
  refine z_iload_n (pc' := 45) 0 dX9_remainingOf_44 rfl rfl rfl ?_
  cases hsh
  exact z_iret rfl dX9_remainingOf_45 ⟨rfl, rfl⟩
def sh_X9_remaining (F : Nat) (c_t_high : Int) (c_t_wide : Int) (f_t_now : Nat → Int) (p0 : Int) : Option (Int × Int) := (sh_X9_isPoint F c_t_high c_t_wide p0).bind (fun (q1 : Int) => zkr q1 (if q1 = (0 : Int) then (sh_X9_refused F (1 : Int)).bind (fun (q4 : Int × Int) => zkr q4.1 (if q4.1 = (0 : Int) then (sh_X9_remainingOf F f_t_now 243 (0 : Int) p0).bind (fun (q7 : Int) => some (q7, q4.2)) else some ((0 : Int), q4.2))) else (sh_X9_refused F (0 : Int)).bind (fun (q9 : Int × Int) => zkr q9.1 (if q9.1 = (0 : Int) then (sh_X9_remainingOf F f_t_now 243 (0 : Int) p0).bind (fun (q12 : Int) => some (q12, q9.2)) else some ((0 : Int), q9.2)))))
theorem mX9_remaining_f16 : Cond.fieldLink RX9 16 (TX9 3).1 (TX9 3).2.1 (TX9 3).2.2.1 ∈ wsX9_remaining := List.mem_of_getElem? (i := 1) rfl
theorem iX9_remaining_X9 : ∀ w ∈ wsX90, w ∈ wsX9_remaining := fun _ h => (List.mem_cons_of_mem _ (List.mem_append_right _ h))
set_option maxRecDepth 100000 in
set_option maxHeartbeats 4000000 in
theorem zc_X9_remaining (l : Launch) (D : va_G) (J : Nat → ClassId) (F : Nat) (a_t : Nat) (a_t_now : Nat) (a_t_trial : Nat) (a_t_diary : Nat) (a_t_kept : Nat) (a_t_isKept : Nat) (a_t_script : Nat) (a_t_read : Nat) (a_t_wanted : Nat) (a_t_level : Nat) (a_t_chosen : Nat) (a_t_best : Nat) (c_t_refusal : Int) (c_t_high : Int) (c_t_wide : Int) (c_t_acts : Int) (c_t_next : Int) (c_t_scriptSize : Int) (c_t_spot : Int) (c_t_readHigh : Int) (c_t_readWide : Int) (f_t_now : Nat → Int) (p0 : Int) (res : Int × Int) (hsh : sh_X9_remaining F c_t_high c_t_wide f_t_now p0 = some res) : ZM l D J yX9_remaining wsX9_remaining ({ frames := 2, cells := 0, slots := 0, locals := 46 } : Room) 0 0 [.ref a_t, .int (zi p0)] [(a_t, .inr (8, [.int (zi c_t_refusal), .int (zi c_t_high), .int (zi c_t_wide), .ref a_t_now, .ref a_t_trial, .ref a_t_diary, .int (zi c_t_acts), .int (zi c_t_next), .ref a_t_kept, .ref a_t_isKept, .ref a_t_script, .int (zi c_t_scriptSize), .int (zi c_t_spot), .ref a_t_read, .int (zi c_t_readHigh), .int (zi c_t_readWide), .ref a_t_wanted, .ref a_t_level, .ref a_t_chosen, .ref a_t_best])), (a_t_now, zI J 243 f_t_now)] (fun rv w9 => rv = some (.int (zi res.1)) ∧ w9 = [(a_t, .inr (8, [.int (zi res.2), .int (zi c_t_high), .int (zi c_t_wide), .ref a_t_now, .ref a_t_trial, .ref a_t_diary, .int (zi c_t_acts), .int (zi c_t_next), .ref a_t_kept, .ref a_t_isKept, .ref a_t_script, .int (zi c_t_scriptSize), .int (zi c_t_spot), .ref a_t_read, .int (zi c_t_readHigh), .int (zi c_t_readWide), .ref a_t_wanted, .ref a_t_level, .ref a_t_chosen, .ref a_t_best])), (a_t_now, zI J 243 f_t_now)]) := by
  refine z_ofZ (cc := cX9_remaining) (maxL := 2) (ret := (some .int)) 0 0 (by decide) rfl (Nat.le_of_ble_eq_true rfl) [(0, .ref a_t), (1, .int (zi p0))] rfl ?_
  intro p e s m args below meth c A
  unfold sh_X9_remaining at hsh
  refine z_aload_n (pc' := 1) 0 dX9_remaining_0 rfl rfl rfl ?_
  refine z_aload_n (pc' := 2) 0 dX9_remaining_1 rfl rfl rfl ?_
  refine z_iload_n (pc' := 3) 1 dX9_remaining_2 rfl rfl rfl ?_
  obtain ⟨q1, h2, hsh⟩ := zbind hsh
  refine z_callV (pc' := 6) (C := RX9) (As := [.int (zi p0)]) (rest := [.ref a_t]) (wr := [(a_t_now, zI J 243 f_t_now)]) 1 (zc_X9_isPoint l D J F (a_t := a_t) (a_t_now := a_t_now) (a_t_trial := a_t_trial) (a_t_diary := a_t_diary) (a_t_kept := a_t_kept) (a_t_isKept := a_t_isKept) (a_t_script := a_t_script) (a_t_read := a_t_read) (a_t_wanted := a_t_wanted) (a_t_level := a_t_level) (a_t_chosen := a_t_chosen) (a_t_best := a_t_best) (c_t_refusal := c_t_refusal) (c_t_high := c_t_high) (c_t_wide := c_t_wide) (c_t_acts := c_t_acts) (c_t_next := c_t_next) (c_t_scriptSize := c_t_scriptSize) (c_t_spot := c_t_spot) (c_t_readHigh := c_t_readHigh) (c_t_readWide := c_t_readWide) (p0 := p0)  q1 h2) dX9_remaining_3 gX9_remaining_X9_isPoint rfl rfl rfl (by decide +kernel) ⟨Nat.le_of_ble_eq_true rfl, Nat.le_of_ble_eq_true rfl⟩ ⟨Nat.le_of_ble_eq_true rfl, Nat.le_of_ble_eq_true rfl⟩ (z_spl_of [0, 1] rfl rfl) rfl rfl rfl rfl (Nat.le_of_ble_eq_true rfl) rfl (fun rv w9 hq => ?_)
  obtain ⟨rfl, rfl⟩ := hq
  refine z_ws [(a_t_now, zI J 243 f_t_now), (a_t, .inr (8, [.int (zi c_t_refusal), .int (zi c_t_high), .int (zi c_t_wide), .ref a_t_now, .ref a_t_trial, .ref a_t_diary, .int (zi c_t_acts), .int (zi c_t_next), .ref a_t_kept, .ref a_t_isKept, .ref a_t_script, .int (zi c_t_scriptSize), .int (zi c_t_spot), .ref a_t_read, .int (zi c_t_readHigh), .int (zi c_t_readWide), .ref a_t_wanted, .ref a_t_level, .ref a_t_chosen, .ref a_t_best]))] rfl ?_
  have g3 := zkr_p hsh
  replace hsh := zkr_k hsh
  refine z_if_eq (pc' := 9) (tgt := 13) dX9_remaining_6 (by decide) g3 rfl (fun q => ?_) (fun q => ?_)
  · replace hsh := zif_t q hsh
    refine z_iconst (pc' := 14) dX9_remaining_13 rfl ?_
    obtain ⟨q4, h5, hsh⟩ := zbind hsh
    refine z_callV (pc' := 17) (C := RX9) (As := [.int (zi (1 : Int))]) (rest := []) (wr := [(a_t_now, zI J 243 f_t_now)]) 1 (zc_X9_refused l D J F (a_t := a_t) (a_t_now := a_t_now) (a_t_trial := a_t_trial) (a_t_diary := a_t_diary) (a_t_kept := a_t_kept) (a_t_isKept := a_t_isKept) (a_t_script := a_t_script) (a_t_read := a_t_read) (a_t_wanted := a_t_wanted) (a_t_level := a_t_level) (a_t_chosen := a_t_chosen) (a_t_best := a_t_best) (c_t_refusal := c_t_refusal) (c_t_high := c_t_high) (c_t_wide := c_t_wide) (c_t_acts := c_t_acts) (c_t_next := c_t_next) (c_t_scriptSize := c_t_scriptSize) (c_t_spot := c_t_spot) (c_t_readHigh := c_t_readHigh) (c_t_readWide := c_t_readWide) (p0 := (1 : Int))  q4 h5) dX9_remaining_14 gX9_remaining_X9_refused rfl rfl rfl (by decide +kernel) ⟨Nat.le_of_ble_eq_true rfl, Nat.le_of_ble_eq_true rfl⟩ ⟨Nat.le_of_ble_eq_true rfl, Nat.le_of_ble_eq_true rfl⟩ (z_spl_of [1, 0] rfl rfl) rfl rfl rfl rfl (Nat.le_of_ble_eq_true rfl) rfl (fun rv w9 hq => ?_)
    obtain ⟨rfl, rfl⟩ := hq
    refine z_ws [(a_t_now, zI J 243 f_t_now), (a_t, .inr (8, [.int (zi q4.2), .int (zi c_t_high), .int (zi c_t_wide), .ref a_t_now, .ref a_t_trial, .ref a_t_diary, .int (zi c_t_acts), .int (zi c_t_next), .ref a_t_kept, .ref a_t_isKept, .ref a_t_script, .int (zi c_t_scriptSize), .int (zi c_t_spot), .ref a_t_read, .int (zi c_t_readHigh), .int (zi c_t_readWide), .ref a_t_wanted, .ref a_t_level, .ref a_t_chosen, .ref a_t_best]))] rfl ?_
    have g6 := zkr_p hsh
    replace hsh := zkr_k hsh
    refine z_if_eq (pc' := 20) (tgt := 22) dX9_remaining_17 (by decide) g6 rfl (fun q => ?_) (fun q => ?_)
    · replace hsh := zif_t q hsh
      refine z_aload_n (pc' := 23) 0 dX9_remaining_22 rfl rfl rfl ?_
      refine z_getfield (pc' := 26) (C := RX9) (T := TX9) (N := 20) 1 3 dX9_remaining_23 iX9_remaining_X9 rfl rfl (by decide) mX9_remaining_f16 rfl rfl ?_
      refine z_iconst (pc' := 27) dX9_remaining_26 rfl ?_
      refine z_iload_n (pc' := 28) 1 dX9_remaining_27 rfl rfl rfl ?_
      obtain ⟨q7, h8, hsh⟩ := zbind hsh
      refine z_callS (pc' := 31) (As := [.ref a_t_now, .int (zi (0 : Int)), .int (zi p0)]) (rest := []) (wr := [(a_t, .inr (8, [.int (zi q4.2), .int (zi c_t_high), .int (zi c_t_wide), .ref a_t_now, .ref a_t_trial, .ref a_t_diary, .int (zi c_t_acts), .int (zi c_t_next), .ref a_t_kept, .ref a_t_isKept, .ref a_t_script, .int (zi c_t_scriptSize), .int (zi c_t_spot), .ref a_t_read, .int (zi c_t_readHigh), .int (zi c_t_readWide), .ref a_t_wanted, .ref a_t_level, .ref a_t_chosen, .ref a_t_best]))]) 3 (zc_X9_remainingOf l D J F (a_p0 := a_t_now) (f_p0 := f_t_now) (n_p0 := 243) (p1 := (0 : Int)) (p2 := p0) (hn_p0 := (by decide)) q7 h8) dX9_remaining_28 gX9_remaining_X9_remainingOf rfl rfl rfl (by decide +kernel) ⟨Nat.le_of_ble_eq_true rfl, Nat.le_of_ble_eq_true rfl⟩ ⟨Nat.le_of_ble_eq_true rfl, Nat.le_of_ble_eq_true rfl⟩ (z_spl_of [0, 1] rfl rfl) rfl rfl (Nat.le_of_ble_eq_true rfl) rfl (fun rv w9 hq => ?_)
      obtain ⟨rfl, rfl⟩ := hq
      refine z_ws [(a_t, .inr (8, [.int (zi q4.2), .int (zi c_t_high), .int (zi c_t_wide), .ref a_t_now, .ref a_t_trial, .ref a_t_diary, .int (zi c_t_acts), .int (zi c_t_next), .ref a_t_kept, .ref a_t_isKept, .ref a_t_script, .int (zi c_t_scriptSize), .int (zi c_t_spot), .ref a_t_read, .int (zi c_t_readHigh), .int (zi c_t_readWide), .ref a_t_wanted, .ref a_t_level, .ref a_t_chosen, .ref a_t_best])), (a_t_now, zI J 243 f_t_now)] rfl ?_
      cases hsh
      exact z_iret rfl dX9_remaining_31 ⟨rfl, rfl⟩
    · replace hsh := zif_f q hsh
      refine z_iconst (pc' := 21) dX9_remaining_20 rfl ?_
      refine z_perm [(a_t, .inr (8, [.int (zi q4.2), .int (zi c_t_high), .int (zi c_t_wide), .ref a_t_now, .ref a_t_trial, .ref a_t_diary, .int (zi c_t_acts), .int (zi c_t_next), .ref a_t_kept, .ref a_t_isKept, .ref a_t_script, .int (zi c_t_scriptSize), .int (zi c_t_spot), .ref a_t_read, .int (zi c_t_readHigh), .int (zi c_t_readWide), .ref a_t_wanted, .ref a_t_level, .ref a_t_chosen, .ref a_t_best])), (a_t_now, zI J 243 f_t_now)] [(0, .ref a_t), (1, .int (zi p0))] [1, 0] [0, 1] rfl rfl rfl ?_
      cases hsh
      exact z_iret rfl dX9_remaining_21 ⟨rfl, rfl⟩
  · replace hsh := zif_f q hsh
    refine z_iconst (pc' := 10) dX9_remaining_9 rfl ?_
    refine z_goto (tgt := 14) dX9_remaining_10 (by decide) ?_
    obtain ⟨q9, h10, hsh⟩ := zbind hsh
    refine z_callV (pc' := 17) (C := RX9) (As := [.int (zi (0 : Int))]) (rest := []) (wr := [(a_t_now, zI J 243 f_t_now)]) 1 (zc_X9_refused l D J F (a_t := a_t) (a_t_now := a_t_now) (a_t_trial := a_t_trial) (a_t_diary := a_t_diary) (a_t_kept := a_t_kept) (a_t_isKept := a_t_isKept) (a_t_script := a_t_script) (a_t_read := a_t_read) (a_t_wanted := a_t_wanted) (a_t_level := a_t_level) (a_t_chosen := a_t_chosen) (a_t_best := a_t_best) (c_t_refusal := c_t_refusal) (c_t_high := c_t_high) (c_t_wide := c_t_wide) (c_t_acts := c_t_acts) (c_t_next := c_t_next) (c_t_scriptSize := c_t_scriptSize) (c_t_spot := c_t_spot) (c_t_readHigh := c_t_readHigh) (c_t_readWide := c_t_readWide) (p0 := (0 : Int))  q9 h10) dX9_remaining_14 gX9_remaining_X9_refused rfl rfl rfl (by decide +kernel) ⟨Nat.le_of_ble_eq_true rfl, Nat.le_of_ble_eq_true rfl⟩ ⟨Nat.le_of_ble_eq_true rfl, Nat.le_of_ble_eq_true rfl⟩ (z_spl_of [1, 0] rfl rfl) rfl rfl rfl rfl (Nat.le_of_ble_eq_true rfl) rfl (fun rv w9 hq => ?_)
    obtain ⟨rfl, rfl⟩ := hq
    refine z_ws [(a_t_now, zI J 243 f_t_now), (a_t, .inr (8, [.int (zi q9.2), .int (zi c_t_high), .int (zi c_t_wide), .ref a_t_now, .ref a_t_trial, .ref a_t_diary, .int (zi c_t_acts), .int (zi c_t_next), .ref a_t_kept, .ref a_t_isKept, .ref a_t_script, .int (zi c_t_scriptSize), .int (zi c_t_spot), .ref a_t_read, .int (zi c_t_readHigh), .int (zi c_t_readWide), .ref a_t_wanted, .ref a_t_level, .ref a_t_chosen, .ref a_t_best]))] rfl ?_
    have g11 := zkr_p hsh
    replace hsh := zkr_k hsh
    refine z_if_eq (pc' := 20) (tgt := 22) dX9_remaining_17 (by decide) g11 rfl (fun q => ?_) (fun q => ?_)
    · replace hsh := zif_t q hsh
      refine z_aload_n (pc' := 23) 0 dX9_remaining_22 rfl rfl rfl ?_
      refine z_getfield (pc' := 26) (C := RX9) (T := TX9) (N := 20) 1 3 dX9_remaining_23 iX9_remaining_X9 rfl rfl (by decide) mX9_remaining_f16 rfl rfl ?_
      refine z_iconst (pc' := 27) dX9_remaining_26 rfl ?_
      refine z_iload_n (pc' := 28) 1 dX9_remaining_27 rfl rfl rfl ?_
      obtain ⟨q12, h13, hsh⟩ := zbind hsh
      refine z_callS (pc' := 31) (As := [.ref a_t_now, .int (zi (0 : Int)), .int (zi p0)]) (rest := []) (wr := [(a_t, .inr (8, [.int (zi q9.2), .int (zi c_t_high), .int (zi c_t_wide), .ref a_t_now, .ref a_t_trial, .ref a_t_diary, .int (zi c_t_acts), .int (zi c_t_next), .ref a_t_kept, .ref a_t_isKept, .ref a_t_script, .int (zi c_t_scriptSize), .int (zi c_t_spot), .ref a_t_read, .int (zi c_t_readHigh), .int (zi c_t_readWide), .ref a_t_wanted, .ref a_t_level, .ref a_t_chosen, .ref a_t_best]))]) 3 (zc_X9_remainingOf l D J F (a_p0 := a_t_now) (f_p0 := f_t_now) (n_p0 := 243) (p1 := (0 : Int)) (p2 := p0) (hn_p0 := (by decide)) q12 h13) dX9_remaining_28 gX9_remaining_X9_remainingOf rfl rfl rfl (by decide +kernel) ⟨Nat.le_of_ble_eq_true rfl, Nat.le_of_ble_eq_true rfl⟩ ⟨Nat.le_of_ble_eq_true rfl, Nat.le_of_ble_eq_true rfl⟩ (z_spl_of [0, 1] rfl rfl) rfl rfl (Nat.le_of_ble_eq_true rfl) rfl (fun rv w9 hq => ?_)
      obtain ⟨rfl, rfl⟩ := hq
      refine z_ws [(a_t, .inr (8, [.int (zi q9.2), .int (zi c_t_high), .int (zi c_t_wide), .ref a_t_now, .ref a_t_trial, .ref a_t_diary, .int (zi c_t_acts), .int (zi c_t_next), .ref a_t_kept, .ref a_t_isKept, .ref a_t_script, .int (zi c_t_scriptSize), .int (zi c_t_spot), .ref a_t_read, .int (zi c_t_readHigh), .int (zi c_t_readWide), .ref a_t_wanted, .ref a_t_level, .ref a_t_chosen, .ref a_t_best])), (a_t_now, zI J 243 f_t_now)] rfl ?_
      cases hsh
      exact z_iret rfl dX9_remaining_31 ⟨rfl, rfl⟩
    · replace hsh := zif_f q hsh
      refine z_iconst (pc' := 21) dX9_remaining_20 rfl ?_
      refine z_perm [(a_t, .inr (8, [.int (zi q9.2), .int (zi c_t_high), .int (zi c_t_wide), .ref a_t_now, .ref a_t_trial, .ref a_t_diary, .int (zi c_t_acts), .int (zi c_t_next), .ref a_t_kept, .ref a_t_isKept, .ref a_t_script, .int (zi c_t_scriptSize), .int (zi c_t_spot), .ref a_t_read, .int (zi c_t_readHigh), .int (zi c_t_readWide), .ref a_t_wanted, .ref a_t_level, .ref a_t_chosen, .ref a_t_best])), (a_t_now, zI J 243 f_t_now)] [(0, .ref a_t), (1, .int (zi p0))] [1, 0] [0, 1] rfl rfl rfl ?_
      cases hsh
      exact z_iret rfl dX9_remaining_21 ⟨rfl, rfl⟩
def sh_X9_sliceCount (F : Nat) (c_t_high : Int) (c_t_wide : Int) (f_t_now : Nat → Int) (p0 : Int) : Option (Int × Int) := (sh_X9_isPoint F c_t_high c_t_wide p0).bind (fun (q1 : Int) => zkr q1 (if q1 = (0 : Int) then (sh_X9_refused F (1 : Int)).bind (fun (q4 : Int × Int) => zkr q4.1 (if q4.1 = (0 : Int) then zkx (((15 : Int) * p0) + (2 : Int)) 243 (some ((f_t_now ((((15 : Int) * p0) + (2 : Int))).toNat), q4.2)) else some ((0 : Int), q4.2))) else (sh_X9_refused F (0 : Int)).bind (fun (q8 : Int × Int) => zkr q8.1 (if q8.1 = (0 : Int) then zkx (((15 : Int) * p0) + (2 : Int)) 243 (some ((f_t_now ((((15 : Int) * p0) + (2 : Int))).toNat), q8.2)) else some ((0 : Int), q8.2)))))
theorem mX9_sliceCount_f16 : Cond.fieldLink RX9 16 (TX9 3).1 (TX9 3).2.1 (TX9 3).2.2.1 ∈ wsX9_sliceCount := List.mem_of_getElem? (i := 1) rfl
theorem iX9_sliceCount_X9 : ∀ w ∈ wsX90, w ∈ wsX9_sliceCount := fun _ h => (List.mem_cons_of_mem _ (List.mem_append_right _ h))
set_option maxRecDepth 100000 in
set_option maxHeartbeats 4000000 in
theorem zc_X9_sliceCount (l : Launch) (D : va_G) (J : Nat → ClassId) (F : Nat) (a_t : Nat) (a_t_now : Nat) (a_t_trial : Nat) (a_t_diary : Nat) (a_t_kept : Nat) (a_t_isKept : Nat) (a_t_script : Nat) (a_t_read : Nat) (a_t_wanted : Nat) (a_t_level : Nat) (a_t_chosen : Nat) (a_t_best : Nat) (c_t_refusal : Int) (c_t_high : Int) (c_t_wide : Int) (c_t_acts : Int) (c_t_next : Int) (c_t_scriptSize : Int) (c_t_spot : Int) (c_t_readHigh : Int) (c_t_readWide : Int) (f_t_now : Nat → Int) (p0 : Int) (res : Int × Int) (hsh : sh_X9_sliceCount F c_t_high c_t_wide f_t_now p0 = some res) : ZM l D J yX9_sliceCount wsX9_sliceCount ({ frames := 2, cells := 0, slots := 0, locals := 46 } : Room) 0 0 [.ref a_t, .int (zi p0)] [(a_t, .inr (8, [.int (zi c_t_refusal), .int (zi c_t_high), .int (zi c_t_wide), .ref a_t_now, .ref a_t_trial, .ref a_t_diary, .int (zi c_t_acts), .int (zi c_t_next), .ref a_t_kept, .ref a_t_isKept, .ref a_t_script, .int (zi c_t_scriptSize), .int (zi c_t_spot), .ref a_t_read, .int (zi c_t_readHigh), .int (zi c_t_readWide), .ref a_t_wanted, .ref a_t_level, .ref a_t_chosen, .ref a_t_best])), (a_t_now, zI J 243 f_t_now)] (fun rv w9 => rv = some (.int (zi res.1)) ∧ w9 = [(a_t, .inr (8, [.int (zi res.2), .int (zi c_t_high), .int (zi c_t_wide), .ref a_t_now, .ref a_t_trial, .ref a_t_diary, .int (zi c_t_acts), .int (zi c_t_next), .ref a_t_kept, .ref a_t_isKept, .ref a_t_script, .int (zi c_t_scriptSize), .int (zi c_t_spot), .ref a_t_read, .int (zi c_t_readHigh), .int (zi c_t_readWide), .ref a_t_wanted, .ref a_t_level, .ref a_t_chosen, .ref a_t_best])), (a_t_now, zI J 243 f_t_now)]) := by
  refine z_ofZ (cc := cX9_sliceCount) (maxL := 2) (ret := (some .int)) 0 0 (by decide) rfl (Nat.le_of_ble_eq_true rfl) [(0, .ref a_t), (1, .int (zi p0))] rfl ?_
  intro p e s m args below meth c A
  unfold sh_X9_sliceCount at hsh
  refine z_aload_n (pc' := 1) 0 dX9_sliceCount_0 rfl rfl rfl ?_
  refine z_aload_n (pc' := 2) 0 dX9_sliceCount_1 rfl rfl rfl ?_
  refine z_iload_n (pc' := 3) 1 dX9_sliceCount_2 rfl rfl rfl ?_
  obtain ⟨q1, h2, hsh⟩ := zbind hsh
  refine z_callV (pc' := 6) (C := RX9) (As := [.int (zi p0)]) (rest := [.ref a_t]) (wr := [(a_t_now, zI J 243 f_t_now)]) 1 (zc_X9_isPoint l D J F (a_t := a_t) (a_t_now := a_t_now) (a_t_trial := a_t_trial) (a_t_diary := a_t_diary) (a_t_kept := a_t_kept) (a_t_isKept := a_t_isKept) (a_t_script := a_t_script) (a_t_read := a_t_read) (a_t_wanted := a_t_wanted) (a_t_level := a_t_level) (a_t_chosen := a_t_chosen) (a_t_best := a_t_best) (c_t_refusal := c_t_refusal) (c_t_high := c_t_high) (c_t_wide := c_t_wide) (c_t_acts := c_t_acts) (c_t_next := c_t_next) (c_t_scriptSize := c_t_scriptSize) (c_t_spot := c_t_spot) (c_t_readHigh := c_t_readHigh) (c_t_readWide := c_t_readWide) (p0 := p0)  q1 h2) dX9_sliceCount_3 gX9_sliceCount_X9_isPoint rfl rfl rfl (by decide +kernel) ⟨Nat.le_of_ble_eq_true rfl, Nat.le_of_ble_eq_true rfl⟩ ⟨Nat.le_of_ble_eq_true rfl, Nat.le_of_ble_eq_true rfl⟩ (z_spl_of [0, 1] rfl rfl) rfl rfl rfl rfl (Nat.le_of_ble_eq_true rfl) rfl (fun rv w9 hq => ?_)
  obtain ⟨rfl, rfl⟩ := hq
  refine z_ws [(a_t_now, zI J 243 f_t_now), (a_t, .inr (8, [.int (zi c_t_refusal), .int (zi c_t_high), .int (zi c_t_wide), .ref a_t_now, .ref a_t_trial, .ref a_t_diary, .int (zi c_t_acts), .int (zi c_t_next), .ref a_t_kept, .ref a_t_isKept, .ref a_t_script, .int (zi c_t_scriptSize), .int (zi c_t_spot), .ref a_t_read, .int (zi c_t_readHigh), .int (zi c_t_readWide), .ref a_t_wanted, .ref a_t_level, .ref a_t_chosen, .ref a_t_best]))] rfl ?_
  have g3 := zkr_p hsh
  replace hsh := zkr_k hsh
  refine z_if_eq (pc' := 9) (tgt := 13) dX9_sliceCount_6 (by decide) g3 rfl (fun q => ?_) (fun q => ?_)
  · replace hsh := zif_t q hsh
    refine z_iconst (pc' := 14) dX9_sliceCount_13 rfl ?_
    obtain ⟨q4, h5, hsh⟩ := zbind hsh
    refine z_callV (pc' := 17) (C := RX9) (As := [.int (zi (1 : Int))]) (rest := []) (wr := [(a_t_now, zI J 243 f_t_now)]) 1 (zc_X9_refused l D J F (a_t := a_t) (a_t_now := a_t_now) (a_t_trial := a_t_trial) (a_t_diary := a_t_diary) (a_t_kept := a_t_kept) (a_t_isKept := a_t_isKept) (a_t_script := a_t_script) (a_t_read := a_t_read) (a_t_wanted := a_t_wanted) (a_t_level := a_t_level) (a_t_chosen := a_t_chosen) (a_t_best := a_t_best) (c_t_refusal := c_t_refusal) (c_t_high := c_t_high) (c_t_wide := c_t_wide) (c_t_acts := c_t_acts) (c_t_next := c_t_next) (c_t_scriptSize := c_t_scriptSize) (c_t_spot := c_t_spot) (c_t_readHigh := c_t_readHigh) (c_t_readWide := c_t_readWide) (p0 := (1 : Int))  q4 h5) dX9_sliceCount_14 gX9_sliceCount_X9_refused rfl rfl rfl (by decide +kernel) ⟨Nat.le_of_ble_eq_true rfl, Nat.le_of_ble_eq_true rfl⟩ ⟨Nat.le_of_ble_eq_true rfl, Nat.le_of_ble_eq_true rfl⟩ (z_spl_of [1, 0] rfl rfl) rfl rfl rfl rfl (Nat.le_of_ble_eq_true rfl) rfl (fun rv w9 hq => ?_)
    obtain ⟨rfl, rfl⟩ := hq
    refine z_ws [(a_t_now, zI J 243 f_t_now), (a_t, .inr (8, [.int (zi q4.2), .int (zi c_t_high), .int (zi c_t_wide), .ref a_t_now, .ref a_t_trial, .ref a_t_diary, .int (zi c_t_acts), .int (zi c_t_next), .ref a_t_kept, .ref a_t_isKept, .ref a_t_script, .int (zi c_t_scriptSize), .int (zi c_t_spot), .ref a_t_read, .int (zi c_t_readHigh), .int (zi c_t_readWide), .ref a_t_wanted, .ref a_t_level, .ref a_t_chosen, .ref a_t_best]))] rfl ?_
    have g6 := zkr_p hsh
    replace hsh := zkr_k hsh
    refine z_if_eq (pc' := 20) (tgt := 22) dX9_sliceCount_17 (by decide) g6 rfl (fun q => ?_) (fun q => ?_)
    · replace hsh := zif_t q hsh
      refine z_aload_n (pc' := 23) 0 dX9_sliceCount_22 rfl rfl rfl ?_
      refine z_getfield (pc' := 26) (C := RX9) (T := TX9) (N := 20) 1 3 dX9_sliceCount_23 iX9_sliceCount_X9 rfl rfl (by decide) mX9_sliceCount_f16 rfl rfl ?_
      refine z_bipush (pc' := 28) dX9_sliceCount_26 (by decide) rfl ?_
      refine z_iload_n (pc' := 29) 1 dX9_sliceCount_28 rfl rfl rfl ?_
      refine z_imul (pc' := 30) dX9_sliceCount_29 rfl ?_
      refine z_iconst (pc' := 31) dX9_sliceCount_30 rfl ?_
      refine z_iadd (pc' := 32) dX9_sliceCount_31 rfl ?_
      have g7 := zkx_p hsh
      replace hsh := zkx_k hsh
      refine z_iaload (pc' := 33) 0 dX9_sliceCount_32 rfl (by decide) g7 rfl ?_
      refine z_perm [(a_t, .inr (8, [.int (zi q4.2), .int (zi c_t_high), .int (zi c_t_wide), .ref a_t_now, .ref a_t_trial, .ref a_t_diary, .int (zi c_t_acts), .int (zi c_t_next), .ref a_t_kept, .ref a_t_isKept, .ref a_t_script, .int (zi c_t_scriptSize), .int (zi c_t_spot), .ref a_t_read, .int (zi c_t_readHigh), .int (zi c_t_readWide), .ref a_t_wanted, .ref a_t_level, .ref a_t_chosen, .ref a_t_best])), (a_t_now, zI J 243 f_t_now)] [(0, .ref a_t), (1, .int (zi p0))] [1, 0] [0, 1] rfl rfl rfl ?_
      cases hsh
      exact z_iret rfl dX9_sliceCount_33 ⟨rfl, rfl⟩
    · replace hsh := zif_f q hsh
      refine z_iconst (pc' := 21) dX9_sliceCount_20 rfl ?_
      refine z_perm [(a_t, .inr (8, [.int (zi q4.2), .int (zi c_t_high), .int (zi c_t_wide), .ref a_t_now, .ref a_t_trial, .ref a_t_diary, .int (zi c_t_acts), .int (zi c_t_next), .ref a_t_kept, .ref a_t_isKept, .ref a_t_script, .int (zi c_t_scriptSize), .int (zi c_t_spot), .ref a_t_read, .int (zi c_t_readHigh), .int (zi c_t_readWide), .ref a_t_wanted, .ref a_t_level, .ref a_t_chosen, .ref a_t_best])), (a_t_now, zI J 243 f_t_now)] [(0, .ref a_t), (1, .int (zi p0))] [1, 0] [0, 1] rfl rfl rfl ?_
      cases hsh
      exact z_iret rfl dX9_sliceCount_21 ⟨rfl, rfl⟩
  · replace hsh := zif_f q hsh
    refine z_iconst (pc' := 10) dX9_sliceCount_9 rfl ?_
    refine z_goto (tgt := 14) dX9_sliceCount_10 (by decide) ?_
    obtain ⟨q8, h9, hsh⟩ := zbind hsh
    refine z_callV (pc' := 17) (C := RX9) (As := [.int (zi (0 : Int))]) (rest := []) (wr := [(a_t_now, zI J 243 f_t_now)]) 1 (zc_X9_refused l D J F (a_t := a_t) (a_t_now := a_t_now) (a_t_trial := a_t_trial) (a_t_diary := a_t_diary) (a_t_kept := a_t_kept) (a_t_isKept := a_t_isKept) (a_t_script := a_t_script) (a_t_read := a_t_read) (a_t_wanted := a_t_wanted) (a_t_level := a_t_level) (a_t_chosen := a_t_chosen) (a_t_best := a_t_best) (c_t_refusal := c_t_refusal) (c_t_high := c_t_high) (c_t_wide := c_t_wide) (c_t_acts := c_t_acts) (c_t_next := c_t_next) (c_t_scriptSize := c_t_scriptSize) (c_t_spot := c_t_spot) (c_t_readHigh := c_t_readHigh) (c_t_readWide := c_t_readWide) (p0 := (0 : Int))  q8 h9) dX9_sliceCount_14 gX9_sliceCount_X9_refused rfl rfl rfl (by decide +kernel) ⟨Nat.le_of_ble_eq_true rfl, Nat.le_of_ble_eq_true rfl⟩ ⟨Nat.le_of_ble_eq_true rfl, Nat.le_of_ble_eq_true rfl⟩ (z_spl_of [1, 0] rfl rfl) rfl rfl rfl rfl (Nat.le_of_ble_eq_true rfl) rfl (fun rv w9 hq => ?_)
    obtain ⟨rfl, rfl⟩ := hq
    refine z_ws [(a_t_now, zI J 243 f_t_now), (a_t, .inr (8, [.int (zi q8.2), .int (zi c_t_high), .int (zi c_t_wide), .ref a_t_now, .ref a_t_trial, .ref a_t_diary, .int (zi c_t_acts), .int (zi c_t_next), .ref a_t_kept, .ref a_t_isKept, .ref a_t_script, .int (zi c_t_scriptSize), .int (zi c_t_spot), .ref a_t_read, .int (zi c_t_readHigh), .int (zi c_t_readWide), .ref a_t_wanted, .ref a_t_level, .ref a_t_chosen, .ref a_t_best]))] rfl ?_
    have g10 := zkr_p hsh
    replace hsh := zkr_k hsh
    refine z_if_eq (pc' := 20) (tgt := 22) dX9_sliceCount_17 (by decide) g10 rfl (fun q => ?_) (fun q => ?_)
    · replace hsh := zif_t q hsh
      refine z_aload_n (pc' := 23) 0 dX9_sliceCount_22 rfl rfl rfl ?_
      refine z_getfield (pc' := 26) (C := RX9) (T := TX9) (N := 20) 1 3 dX9_sliceCount_23 iX9_sliceCount_X9 rfl rfl (by decide) mX9_sliceCount_f16 rfl rfl ?_
      refine z_bipush (pc' := 28) dX9_sliceCount_26 (by decide) rfl ?_
      refine z_iload_n (pc' := 29) 1 dX9_sliceCount_28 rfl rfl rfl ?_
      refine z_imul (pc' := 30) dX9_sliceCount_29 rfl ?_
      refine z_iconst (pc' := 31) dX9_sliceCount_30 rfl ?_
      refine z_iadd (pc' := 32) dX9_sliceCount_31 rfl ?_
      have g11 := zkx_p hsh
      replace hsh := zkx_k hsh
      refine z_iaload (pc' := 33) 0 dX9_sliceCount_32 rfl (by decide) g11 rfl ?_
      refine z_perm [(a_t, .inr (8, [.int (zi q8.2), .int (zi c_t_high), .int (zi c_t_wide), .ref a_t_now, .ref a_t_trial, .ref a_t_diary, .int (zi c_t_acts), .int (zi c_t_next), .ref a_t_kept, .ref a_t_isKept, .ref a_t_script, .int (zi c_t_scriptSize), .int (zi c_t_spot), .ref a_t_read, .int (zi c_t_readHigh), .int (zi c_t_readWide), .ref a_t_wanted, .ref a_t_level, .ref a_t_chosen, .ref a_t_best])), (a_t_now, zI J 243 f_t_now)] [(0, .ref a_t), (1, .int (zi p0))] [1, 0] [0, 1] rfl rfl rfl ?_
      cases hsh
      exact z_iret rfl dX9_sliceCount_33 ⟨rfl, rfl⟩
    · replace hsh := zif_f q hsh
      refine z_iconst (pc' := 21) dX9_sliceCount_20 rfl ?_
      refine z_perm [(a_t, .inr (8, [.int (zi q8.2), .int (zi c_t_high), .int (zi c_t_wide), .ref a_t_now, .ref a_t_trial, .ref a_t_diary, .int (zi c_t_acts), .int (zi c_t_next), .ref a_t_kept, .ref a_t_isKept, .ref a_t_script, .int (zi c_t_scriptSize), .int (zi c_t_spot), .ref a_t_read, .int (zi c_t_readHigh), .int (zi c_t_readWide), .ref a_t_wanted, .ref a_t_level, .ref a_t_chosen, .ref a_t_best])), (a_t_now, zI J 243 f_t_now)] [(0, .ref a_t), (1, .int (zi p0))] [1, 0] [0, 1] rfl rfl rfl ?_
      cases hsh
      exact z_iret rfl dX9_sliceCount_21 ⟨rfl, rfl⟩
def sh_X9_gradeOf_L6 (F : Nat) (n_p0 : Nat) (p1 : Int) (p2 : Int) (f_p0 : Nat → Int) (k : Int → Int → Option (Int)) : Nat → Int → Int → Option (Int)
  | 0, _, _ => none
  | N + 1, v3, v4 => zkx ((p1 + ((15 : Int) * p2)) + (2 : Int)) n_p0 (zkr v4 (zkr (f_p0 (((p1 + ((15 : Int) * p2)) + (2 : Int))).toNat) (if v4 < (f_p0 (((p1 + ((15 : Int) * p2)) + (2 : Int))).toNat) then zkx (((p1 + ((15 : Int) * p2)) + (3 : Int)) + ((2 : Int) * v4)) n_p0 (zkr v3 (zkr (f_p0 ((((p1 + ((15 : Int) * p2)) + (3 : Int)) + ((2 : Int) * v4))).toNat) (if v3 < (f_p0 ((((p1 + ((15 : Int) * p2)) + (3 : Int)) + ((2 : Int) * v4))).toNat) then zkx ((((p1 + ((15 : Int) * p2)) + (3 : Int)) + ((2 : Int) * v4)) + (1 : Int)) n_p0 (some ((f_p0 (((((p1 + ((15 : Int) * p2)) + (3 : Int)) + ((2 : Int) * v4)) + (1 : Int))).toNat))) else sh_X9_gradeOf_L6 F n_p0 p1 p2 f_p0 k N (v3 - (f_p0 ((((p1 + ((15 : Int) * p2)) + (3 : Int)) + ((2 : Int) * v4))).toNat)) (v4 + (1 : Int))))) else k v3 v4)))
def sh_X9_gradeOf (F : Nat) (f_p0 : Nat → Int) (n_p0 : Nat) (p1 : Int) (p2 : Int) (p3 : Int) : Option (Int) := sh_X9_gradeOf_L6 F n_p0 p1 p2 f_p0 (fun (v12 : Int) (v13 : Int) => some ((-9 : Int))) F p3 (0 : Int)
set_option maxRecDepth 100000 in
set_option maxHeartbeats 4000000 in
theorem zl_X9_gradeOf_L6 {p : Program} {l : Launch} {e : Env} {s : State} {m : MethodId} {args : Array Value} {below : List Frame} {meth : Method} {c : Code} {A : Nat → Prop} {D : va_G} {J : Nat → ClassId} {F : Nat} {n_p0 : Nat} {p1 : Int} {p2 : Int} {f_p0 : Nat → Int} {a_p0 : Nat} {res : Int} (hn_p0 : n_p0 ≤ 2147483647) {k : Int → Int → Option (Int)} (hk : ∀ (v3' : Int) (v4' : Int), k v3' v4' = some res → Z p l e ({ frames := 0, cells := 0, slots := 0, locals := 0 } : Room) s m args below meth c (MQ below (zQ D J A (fun rv w9 => rv = some (.int (zi res)) ∧ w9 = [(a_p0, zI J n_p0 f_p0)])) args s 0 0 A) cX9_gradeOf 7 wsX9_gradeOf RX9 D J A (some .int) (yX9_gradeOf.name, []) 0 0 [(a_p0, zI J n_p0 f_p0)] [] 76 []) : ∀ (N : Nat) (v3 : Int) (v4 : Int), sh_X9_gradeOf_L6 F n_p0 p1 p2 f_p0 k N v3 v4 = some res → Z p l e ({ frames := 0, cells := 0, slots := 0, locals := 0 } : Room) s m args below meth c (MQ below (zQ D J A (fun rv w9 => rv = some (.int (zi res)) ∧ w9 = [(a_p0, zI J n_p0 f_p0)])) args s 0 0 A) cX9_gradeOf 7 wsX9_gradeOf RX9 D J A (some .int) (yX9_gradeOf.name, []) 0 0 [(a_p0, zI J n_p0 f_p0)] [(0, .ref a_p0), (1, .int (zi p1)), (2, .int (zi p2)), (4, .int (zi v3)), (5, .int (zi v4))] 6 [] := by
  intro N
  induction N with
  | zero =>
    intro v3 v4 hsh
    exact absurd hsh (by simp [sh_X9_gradeOf_L6])
  | succ N ih =>
    intro v3 v4 hsh
    rw [sh_X9_gradeOf_L6] at hsh
    refine z_iload (pc' := 8) 4 dX9_gradeOf_6 rfl rfl ?_
    refine z_aload_n (pc' := 9) 0 dX9_gradeOf_8 rfl rfl rfl ?_
    refine z_iload_n (pc' := 10) 1 dX9_gradeOf_9 rfl rfl rfl ?_
    refine z_bipush (pc' := 12) dX9_gradeOf_10 (by decide) rfl ?_
    refine z_iload_n (pc' := 13) 2 dX9_gradeOf_12 rfl rfl rfl ?_
    refine z_imul (pc' := 14) dX9_gradeOf_13 rfl ?_
    refine z_iadd (pc' := 15) dX9_gradeOf_14 rfl ?_
    refine z_iconst (pc' := 16) dX9_gradeOf_15 rfl ?_
    refine z_iadd (pc' := 17) dX9_gradeOf_16 rfl ?_
    have g5 := zkx_p hsh
    replace hsh := zkx_k hsh
    refine z_iaload (pc' := 18) 0 dX9_gradeOf_17 rfl hn_p0 g5 rfl ?_
    have g6 := zkr_p hsh
    replace hsh := zkr_k hsh
    have g7 := zkr_p hsh
    replace hsh := zkr_k hsh
    refine z_icmp_ge (pc' := 21) (tgt := 76) dX9_gradeOf_18 (by decide) g6 g7 rfl (fun q => ?_) (fun q => ?_)
    · replace hsh := zif_f q hsh
      refine z_perm [(a_p0, zI J n_p0 f_p0)] [] [0] [] rfl rfl rfl ?_
      exact hk _ _ hsh
    · replace hsh := zif_t q hsh
      refine z_aload_n (pc' := 22) 0 dX9_gradeOf_21 rfl rfl rfl ?_
      refine z_iload_n (pc' := 23) 1 dX9_gradeOf_22 rfl rfl rfl ?_
      refine z_bipush (pc' := 25) dX9_gradeOf_23 (by decide) rfl ?_
      refine z_iload_n (pc' := 26) 2 dX9_gradeOf_25 rfl rfl rfl ?_
      refine z_imul (pc' := 27) dX9_gradeOf_26 rfl ?_
      refine z_iadd (pc' := 28) dX9_gradeOf_27 rfl ?_
      refine z_iconst (pc' := 29) dX9_gradeOf_28 rfl ?_
      refine z_iadd (pc' := 30) dX9_gradeOf_29 rfl ?_
      refine z_iconst (pc' := 31) dX9_gradeOf_30 rfl ?_
      refine z_iload (pc' := 33) 4 dX9_gradeOf_31 rfl rfl ?_
      refine z_imul (pc' := 34) dX9_gradeOf_33 rfl ?_
      refine z_iadd (pc' := 35) dX9_gradeOf_34 rfl ?_
      have g8 := zkx_p hsh
      replace hsh := zkx_k hsh
      refine z_iaload (pc' := 36) 0 dX9_gradeOf_35 rfl hn_p0 g8 rfl ?_
      refine z_istore (pc' := 38) [(6, .int (zi (f_p0 ((((p1 + ((15 : Int) * p2)) + (3 : Int)) + ((2 : Int) * v4))).toNat))), (0, .ref a_p0), (1, .int (zi p1)), (2, .int (zi p2)), (4, .int (zi v3)), (5, .int (zi v4))] dX9_gradeOf_36 (by decide) rfl rfl ?_
      refine z_iload (pc' := 40) 4 dX9_gradeOf_38 rfl rfl ?_
      refine z_iload (pc' := 42) 0 dX9_gradeOf_40 rfl rfl ?_
      have g9 := zkr_p hsh
      replace hsh := zkr_k hsh
      have g10 := zkr_p hsh
      replace hsh := zkr_k hsh
      refine z_icmp_ge (pc' := 45) (tgt := 63) dX9_gradeOf_42 (by decide) g9 g10 rfl (fun q => ?_) (fun q => ?_)
      · replace hsh := zif_f q hsh
        refine z_iload (pc' := 65) 4 dX9_gradeOf_63 rfl rfl ?_
        refine z_iload (pc' := 67) 0 dX9_gradeOf_65 rfl rfl ?_
        refine z_isub (pc' := 68) dX9_gradeOf_67 rfl ?_
        refine z_istore (pc' := 70) [(4, .int (zi (v3 - (f_p0 ((((p1 + ((15 : Int) * p2)) + (3 : Int)) + ((2 : Int) * v4))).toNat)))), (6, .int (zi (f_p0 ((((p1 + ((15 : Int) * p2)) + (3 : Int)) + ((2 : Int) * v4))).toNat))), (0, .ref a_p0), (1, .int (zi p1)), (2, .int (zi p2)), (5, .int (zi v4))] dX9_gradeOf_68 (by decide) rfl rfl ?_
        refine z_iinc (pc' := 73) [(5, .int (zi (v4 + (1 : Int)))), (4, .int (zi (v3 - (f_p0 ((((p1 + ((15 : Int) * p2)) + (3 : Int)) + ((2 : Int) * v4))).toNat)))), (6, .int (zi (f_p0 ((((p1 + ((15 : Int) * p2)) + (3 : Int)) + ((2 : Int) * v4))).toNat))), (0, .ref a_p0), (1, .int (zi p1)), (2, .int (zi p2))] 5 dX9_gradeOf_70 rfl (by decide) rfl rfl ?_
        refine z_goto (tgt := 6) dX9_gradeOf_73 (by decide) ?_
        refine z_perm [(a_p0, zI J n_p0 f_p0)] [(0, .ref a_p0), (1, .int (zi p1)), (2, .int (zi p2)), (4, .int (zi (v3 - (f_p0 ((((p1 + ((15 : Int) * p2)) + (3 : Int)) + ((2 : Int) * v4))).toNat)))), (5, .int (zi (v4 + (1 : Int))))] [0] [3, 4, 5, 1, 0] rfl rfl rfl ?_
        exact ih _ _ hsh
      · replace hsh := zif_t q hsh
        refine z_aload_n (pc' := 46) 1 dX9_gradeOf_45 rfl rfl rfl ?_
        refine z_iload_n (pc' := 47) 2 dX9_gradeOf_46 rfl rfl rfl ?_
        refine z_bipush (pc' := 49) dX9_gradeOf_47 (by decide) rfl ?_
        refine z_iload_n (pc' := 50) 3 dX9_gradeOf_49 rfl rfl rfl ?_
        refine z_imul (pc' := 51) dX9_gradeOf_50 rfl ?_
        refine z_iadd (pc' := 52) dX9_gradeOf_51 rfl ?_
        refine z_iconst (pc' := 53) dX9_gradeOf_52 rfl ?_
        refine z_iadd (pc' := 54) dX9_gradeOf_53 rfl ?_
        refine z_iconst (pc' := 55) dX9_gradeOf_54 rfl ?_
        refine z_iload (pc' := 57) 5 dX9_gradeOf_55 rfl rfl ?_
        refine z_imul (pc' := 58) dX9_gradeOf_57 rfl ?_
        refine z_iadd (pc' := 59) dX9_gradeOf_58 rfl ?_
        refine z_iconst (pc' := 60) dX9_gradeOf_59 rfl ?_
        refine z_iadd (pc' := 61) dX9_gradeOf_60 rfl ?_
        have g11 := zkx_p hsh
        replace hsh := zkx_k hsh
        refine z_iaload (pc' := 62) 0 dX9_gradeOf_61 rfl hn_p0 g11 rfl ?_
        cases hsh
        exact z_iret rfl dX9_gradeOf_62 ⟨rfl, rfl⟩
set_option maxRecDepth 100000 in
set_option maxHeartbeats 4000000 in
theorem zc_X9_gradeOf (l : Launch) (D : va_G) (J : Nat → ClassId) (F : Nat) (a_p0 : Nat) (f_p0 : Nat → Int) (n_p0 : Nat) (p1 : Int) (p2 : Int) (p3 : Int) (hn_p0 : n_p0 ≤ 2147483647) (res : Int) (hsh : sh_X9_gradeOf F f_p0 n_p0 p1 p2 p3 = some res) : ZM l D J yX9_gradeOf wsX9_gradeOf ({ frames := 0, cells := 0, slots := 0, locals := 0 } : Room) 0 0 [.ref a_p0, .int (zi p1), .int (zi p2), .int (zi p3)] [(a_p0, zI J n_p0 f_p0)] (fun rv w9 => rv = some (.int (zi res)) ∧ w9 = [(a_p0, zI J n_p0 f_p0)]) := by
  refine z_ofZ (cc := cX9_gradeOf) (maxL := 7) (ret := (some .int)) 0 0 (by decide) rfl (Nat.le_of_ble_eq_true rfl) [(0, .ref a_p0), (1, .int (zi p1)), (2, .int (zi p2)), (3, .int (zi p3))] rfl ?_
  intro p e s m args below meth c A
  unfold sh_X9_gradeOf at hsh
  refine z_iload_n (pc' := 1) 3 dX9_gradeOf_0 rfl rfl rfl ?_
  refine z_istore (pc' := 3) [(4, .int (zi p3)), (0, .ref a_p0), (1, .int (zi p1)), (2, .int (zi p2)), (3, .int (zi p3))] dX9_gradeOf_1 (by decide) rfl rfl ?_
  refine z_iconst (pc' := 4) dX9_gradeOf_3 rfl ?_
  refine z_istore (pc' := 6) [(5, .int (zi (0 : Int))), (4, .int (zi p3)), (0, .ref a_p0), (1, .int (zi p1)), (2, .int (zi p2)), (3, .int (zi p3))] dX9_gradeOf_4 (by decide) rfl rfl ?_
  refine z_perm [(a_p0, zI J n_p0 f_p0)] [(0, .ref a_p0), (1, .int (zi p1)), (2, .int (zi p2)), (4, .int (zi p3)), (5, .int (zi (0 : Int)))] [0] [2, 3, 4, 1, 0] rfl rfl rfl ?_
  refine zl_X9_gradeOf_L6 (F := F) (hn_p0 := hn_p0) (hk := fun v12 v13 hsh => ?_) _ _ _ hsh
  refine z_bipush (pc' := 78) dX9_gradeOf_76 (by decide) rfl ?_
  cases hsh
  exact z_iret rfl dX9_gradeOf_78 ⟨rfl, rfl⟩
def sh_X9_gradeAhead (F : Nat) (c_t_high : Int) (c_t_wide : Int) (f_t_now : Nat → Int) (p0 : Int) (p1 : Int) : Option (Int × Int) := (sh_X9_isPoint F c_t_high c_t_wide p0).bind (fun (q1 : Int) => zkr q1 (if q1 = (0 : Int) then (sh_X9_refused F (1 : Int)).bind (fun (q18 : Int × Int) => zkr q18.1 (if q18.1 = (0 : Int) then (sh_X9_gradeOf F f_t_now 243 (0 : Int) p0 p1).bind (fun (q21 : Int) => some (q21, q18.2)) else some ((0 : Int), q18.2))) else zkr p1 ((sh_X9_in F p1 (0 : Int) (99 : Int)).bind (fun (q5 : Int) => zkr q5 (if q5 = (0 : Int) then (sh_X9_refused F (2 : Int)).bind (fun (q13 : Int × Int) => zkr q13.1 (if q13.1 = (0 : Int) then (sh_X9_gradeOf F f_t_now 243 (0 : Int) p0 p1).bind (fun (q16 : Int) => some (q16, q13.2)) else some ((0 : Int), q13.2))) else (sh_X9_refused F (0 : Int)).bind (fun (q8 : Int × Int) => zkr q8.1 (if q8.1 = (0 : Int) then (sh_X9_gradeOf F f_t_now 243 (0 : Int) p0 p1).bind (fun (q11 : Int) => some (q11, q8.2)) else some ((0 : Int), q8.2))))))))
theorem mX9_gradeAhead_k128 : Cond.constantLong RX9 128 (99) ∈ wsX9_gradeAhead := List.mem_of_getElem? (i := 1) rfl
theorem mX9_gradeAhead_f16 : Cond.fieldLink RX9 16 (TX9 3).1 (TX9 3).2.1 (TX9 3).2.2.1 ∈ wsX9_gradeAhead := List.mem_of_getElem? (i := 2) rfl
theorem iX9_gradeAhead_X9 : ∀ w ∈ wsX90, w ∈ wsX9_gradeAhead := fun _ h => (List.mem_cons_of_mem _ (List.mem_append_right _ h))
set_option maxRecDepth 100000 in
set_option maxHeartbeats 4000000 in
theorem zc_X9_gradeAhead (l : Launch) (D : va_G) (J : Nat → ClassId) (F : Nat) (a_t : Nat) (a_t_now : Nat) (a_t_trial : Nat) (a_t_diary : Nat) (a_t_kept : Nat) (a_t_isKept : Nat) (a_t_script : Nat) (a_t_read : Nat) (a_t_wanted : Nat) (a_t_level : Nat) (a_t_chosen : Nat) (a_t_best : Nat) (c_t_refusal : Int) (c_t_high : Int) (c_t_wide : Int) (c_t_acts : Int) (c_t_next : Int) (c_t_scriptSize : Int) (c_t_spot : Int) (c_t_readHigh : Int) (c_t_readWide : Int) (f_t_now : Nat → Int) (p0 : Int) (p1 : Int) (res : Int × Int) (hsh : sh_X9_gradeAhead F c_t_high c_t_wide f_t_now p0 p1 = some res) : ZM l D J yX9_gradeAhead wsX9_gradeAhead ({ frames := 2, cells := 0, slots := 0, locals := 46 } : Room) 0 0 [.ref a_t, .int (zi p0), .int (zi p1)] [(a_t, .inr (8, [.int (zi c_t_refusal), .int (zi c_t_high), .int (zi c_t_wide), .ref a_t_now, .ref a_t_trial, .ref a_t_diary, .int (zi c_t_acts), .int (zi c_t_next), .ref a_t_kept, .ref a_t_isKept, .ref a_t_script, .int (zi c_t_scriptSize), .int (zi c_t_spot), .ref a_t_read, .int (zi c_t_readHigh), .int (zi c_t_readWide), .ref a_t_wanted, .ref a_t_level, .ref a_t_chosen, .ref a_t_best])), (a_t_now, zI J 243 f_t_now)] (fun rv w9 => rv = some (.int (zi res.1)) ∧ w9 = [(a_t, .inr (8, [.int (zi res.2), .int (zi c_t_high), .int (zi c_t_wide), .ref a_t_now, .ref a_t_trial, .ref a_t_diary, .int (zi c_t_acts), .int (zi c_t_next), .ref a_t_kept, .ref a_t_isKept, .ref a_t_script, .int (zi c_t_scriptSize), .int (zi c_t_spot), .ref a_t_read, .int (zi c_t_readHigh), .int (zi c_t_readWide), .ref a_t_wanted, .ref a_t_level, .ref a_t_chosen, .ref a_t_best])), (a_t_now, zI J 243 f_t_now)]) := by
  refine z_ofZ (cc := cX9_gradeAhead) (maxL := 3) (ret := (some .int)) 0 0 (by decide) rfl (Nat.le_of_ble_eq_true rfl) [(0, .ref a_t), (1, .int (zi p0)), (2, .int (zi p1))] rfl ?_
  intro p e s m args below meth c A
  unfold sh_X9_gradeAhead at hsh
  refine z_aload_n (pc' := 1) 0 dX9_gradeAhead_0 rfl rfl rfl ?_
  refine z_aload_n (pc' := 2) 0 dX9_gradeAhead_1 rfl rfl rfl ?_
  refine z_iload_n (pc' := 3) 1 dX9_gradeAhead_2 rfl rfl rfl ?_
  obtain ⟨q1, h2, hsh⟩ := zbind hsh
  refine z_callV (pc' := 6) (C := RX9) (As := [.int (zi p0)]) (rest := [.ref a_t]) (wr := [(a_t_now, zI J 243 f_t_now)]) 1 (zc_X9_isPoint l D J F (a_t := a_t) (a_t_now := a_t_now) (a_t_trial := a_t_trial) (a_t_diary := a_t_diary) (a_t_kept := a_t_kept) (a_t_isKept := a_t_isKept) (a_t_script := a_t_script) (a_t_read := a_t_read) (a_t_wanted := a_t_wanted) (a_t_level := a_t_level) (a_t_chosen := a_t_chosen) (a_t_best := a_t_best) (c_t_refusal := c_t_refusal) (c_t_high := c_t_high) (c_t_wide := c_t_wide) (c_t_acts := c_t_acts) (c_t_next := c_t_next) (c_t_scriptSize := c_t_scriptSize) (c_t_spot := c_t_spot) (c_t_readHigh := c_t_readHigh) (c_t_readWide := c_t_readWide) (p0 := p0)  q1 h2) dX9_gradeAhead_3 gX9_gradeAhead_X9_isPoint rfl rfl rfl (by decide +kernel) ⟨Nat.le_of_ble_eq_true rfl, Nat.le_of_ble_eq_true rfl⟩ ⟨Nat.le_of_ble_eq_true rfl, Nat.le_of_ble_eq_true rfl⟩ (z_spl_of [0, 1] rfl rfl) rfl rfl rfl rfl (Nat.le_of_ble_eq_true rfl) rfl (fun rv w9 hq => ?_)
  obtain ⟨rfl, rfl⟩ := hq
  refine z_ws [(a_t_now, zI J 243 f_t_now), (a_t, .inr (8, [.int (zi c_t_refusal), .int (zi c_t_high), .int (zi c_t_wide), .ref a_t_now, .ref a_t_trial, .ref a_t_diary, .int (zi c_t_acts), .int (zi c_t_next), .ref a_t_kept, .ref a_t_isKept, .ref a_t_script, .int (zi c_t_scriptSize), .int (zi c_t_spot), .ref a_t_read, .int (zi c_t_readHigh), .int (zi c_t_readWide), .ref a_t_wanted, .ref a_t_level, .ref a_t_chosen, .ref a_t_best]))] rfl ?_
  have g3 := zkr_p hsh
  replace hsh := zkr_k hsh
  refine z_if_ne (pc' := 9) (tgt := 13) dX9_gradeAhead_6 (by decide) g3 rfl (fun q => ?_) (fun q => ?_)
  · replace hsh := zif_f q hsh
    refine z_iload_n (pc' := 14) 2 dX9_gradeAhead_13 rfl rfl rfl ?_
    have g4 := zkr_p hsh
    replace hsh := zkr_k hsh
    refine z_i2l (pc' := 15) dX9_gradeAhead_14 g4 rfl ?_
    refine z_lconst (pc' := 16) 0 dX9_gradeAhead_15 (by decide) rfl ?_
    refine z_ldc2 (pc' := 19) (99 : Int) dX9_gradeAhead_16 mX9_gradeAhead_k128 (by decide) rfl ?_
    obtain ⟨q5, h6, hsh⟩ := zbind hsh
    refine z_callS (pc' := 22) (As := [.long (zl p1), .long (zl (0 : Int)), .long (zl (99 : Int))]) (rest := [.ref a_t]) (wr := [(a_t_now, zI J 243 f_t_now), (a_t, .inr (8, [.int (zi c_t_refusal), .int (zi c_t_high), .int (zi c_t_wide), .ref a_t_now, .ref a_t_trial, .ref a_t_diary, .int (zi c_t_acts), .int (zi c_t_next), .ref a_t_kept, .ref a_t_isKept, .ref a_t_script, .int (zi c_t_scriptSize), .int (zi c_t_spot), .ref a_t_read, .int (zi c_t_readHigh), .int (zi c_t_readWide), .ref a_t_wanted, .ref a_t_level, .ref a_t_chosen, .ref a_t_best]))]) 3 (zc_X9_in l D J F (p0 := p1) (p1 := (0 : Int)) (p2 := (99 : Int))  q5 h6) dX9_gradeAhead_19 gX9_gradeAhead_X9_in rfl rfl rfl (by decide +kernel) ⟨Nat.le_of_ble_eq_true rfl, Nat.le_of_ble_eq_true rfl⟩ ⟨Nat.le_of_ble_eq_true rfl, Nat.le_of_ble_eq_true rfl⟩ (z_spl_of [0, 1] rfl rfl) rfl rfl (Nat.le_of_ble_eq_true rfl) rfl (fun rv w9 hq => ?_)
    obtain ⟨rfl, rfl⟩ := hq
    refine z_ws [(a_t_now, zI J 243 f_t_now), (a_t, .inr (8, [.int (zi c_t_refusal), .int (zi c_t_high), .int (zi c_t_wide), .ref a_t_now, .ref a_t_trial, .ref a_t_diary, .int (zi c_t_acts), .int (zi c_t_next), .ref a_t_kept, .ref a_t_isKept, .ref a_t_script, .int (zi c_t_scriptSize), .int (zi c_t_spot), .ref a_t_read, .int (zi c_t_readHigh), .int (zi c_t_readWide), .ref a_t_wanted, .ref a_t_level, .ref a_t_chosen, .ref a_t_best]))] rfl ?_
    have g7 := zkr_p hsh
    replace hsh := zkr_k hsh
    refine z_if_ne (pc' := 25) (tgt := 29) dX9_gradeAhead_22 (by decide) g7 rfl (fun q => ?_) (fun q => ?_)
    · replace hsh := zif_f q hsh
      refine z_iconst (pc' := 30) dX9_gradeAhead_29 rfl ?_
      obtain ⟨q8, h9, hsh⟩ := zbind hsh
      refine z_callV (pc' := 33) (C := RX9) (As := [.int (zi (0 : Int))]) (rest := []) (wr := [(a_t_now, zI J 243 f_t_now)]) 1 (zc_X9_refused l D J F (a_t := a_t) (a_t_now := a_t_now) (a_t_trial := a_t_trial) (a_t_diary := a_t_diary) (a_t_kept := a_t_kept) (a_t_isKept := a_t_isKept) (a_t_script := a_t_script) (a_t_read := a_t_read) (a_t_wanted := a_t_wanted) (a_t_level := a_t_level) (a_t_chosen := a_t_chosen) (a_t_best := a_t_best) (c_t_refusal := c_t_refusal) (c_t_high := c_t_high) (c_t_wide := c_t_wide) (c_t_acts := c_t_acts) (c_t_next := c_t_next) (c_t_scriptSize := c_t_scriptSize) (c_t_spot := c_t_spot) (c_t_readHigh := c_t_readHigh) (c_t_readWide := c_t_readWide) (p0 := (0 : Int))  q8 h9) dX9_gradeAhead_30 gX9_gradeAhead_X9_refused rfl rfl rfl (by decide +kernel) ⟨Nat.le_of_ble_eq_true rfl, Nat.le_of_ble_eq_true rfl⟩ ⟨Nat.le_of_ble_eq_true rfl, Nat.le_of_ble_eq_true rfl⟩ (z_spl_of [1, 0] rfl rfl) rfl rfl rfl rfl (Nat.le_of_ble_eq_true rfl) rfl (fun rv w9 hq => ?_)
      obtain ⟨rfl, rfl⟩ := hq
      refine z_ws [(a_t_now, zI J 243 f_t_now), (a_t, .inr (8, [.int (zi q8.2), .int (zi c_t_high), .int (zi c_t_wide), .ref a_t_now, .ref a_t_trial, .ref a_t_diary, .int (zi c_t_acts), .int (zi c_t_next), .ref a_t_kept, .ref a_t_isKept, .ref a_t_script, .int (zi c_t_scriptSize), .int (zi c_t_spot), .ref a_t_read, .int (zi c_t_readHigh), .int (zi c_t_readWide), .ref a_t_wanted, .ref a_t_level, .ref a_t_chosen, .ref a_t_best]))] rfl ?_
      have g10 := zkr_p hsh
      replace hsh := zkr_k hsh
      refine z_if_eq (pc' := 36) (tgt := 38) dX9_gradeAhead_33 (by decide) g10 rfl (fun q => ?_) (fun q => ?_)
      · replace hsh := zif_t q hsh
        refine z_aload_n (pc' := 39) 0 dX9_gradeAhead_38 rfl rfl rfl ?_
        refine z_getfield (pc' := 42) (C := RX9) (T := TX9) (N := 20) 1 3 dX9_gradeAhead_39 iX9_gradeAhead_X9 rfl rfl (by decide) mX9_gradeAhead_f16 rfl rfl ?_
        refine z_iconst (pc' := 43) dX9_gradeAhead_42 rfl ?_
        refine z_iload_n (pc' := 44) 1 dX9_gradeAhead_43 rfl rfl rfl ?_
        refine z_iload_n (pc' := 45) 2 dX9_gradeAhead_44 rfl rfl rfl ?_
        obtain ⟨q11, h12, hsh⟩ := zbind hsh
        refine z_callS (pc' := 48) (As := [.ref a_t_now, .int (zi (0 : Int)), .int (zi p0), .int (zi p1)]) (rest := []) (wr := [(a_t, .inr (8, [.int (zi q8.2), .int (zi c_t_high), .int (zi c_t_wide), .ref a_t_now, .ref a_t_trial, .ref a_t_diary, .int (zi c_t_acts), .int (zi c_t_next), .ref a_t_kept, .ref a_t_isKept, .ref a_t_script, .int (zi c_t_scriptSize), .int (zi c_t_spot), .ref a_t_read, .int (zi c_t_readHigh), .int (zi c_t_readWide), .ref a_t_wanted, .ref a_t_level, .ref a_t_chosen, .ref a_t_best]))]) 4 (zc_X9_gradeOf l D J F (a_p0 := a_t_now) (f_p0 := f_t_now) (n_p0 := 243) (p1 := (0 : Int)) (p2 := p0) (p3 := p1) (hn_p0 := (by decide)) q11 h12) dX9_gradeAhead_45 gX9_gradeAhead_X9_gradeOf rfl rfl rfl (by decide +kernel) ⟨Nat.le_of_ble_eq_true rfl, Nat.le_of_ble_eq_true rfl⟩ ⟨Nat.le_of_ble_eq_true rfl, Nat.le_of_ble_eq_true rfl⟩ (z_spl_of [0, 1] rfl rfl) rfl rfl (Nat.le_of_ble_eq_true rfl) rfl (fun rv w9 hq => ?_)
        obtain ⟨rfl, rfl⟩ := hq
        refine z_ws [(a_t, .inr (8, [.int (zi q8.2), .int (zi c_t_high), .int (zi c_t_wide), .ref a_t_now, .ref a_t_trial, .ref a_t_diary, .int (zi c_t_acts), .int (zi c_t_next), .ref a_t_kept, .ref a_t_isKept, .ref a_t_script, .int (zi c_t_scriptSize), .int (zi c_t_spot), .ref a_t_read, .int (zi c_t_readHigh), .int (zi c_t_readWide), .ref a_t_wanted, .ref a_t_level, .ref a_t_chosen, .ref a_t_best])), (a_t_now, zI J 243 f_t_now)] rfl ?_
        cases hsh
        exact z_iret rfl dX9_gradeAhead_48 ⟨rfl, rfl⟩
      · replace hsh := zif_f q hsh
        refine z_iconst (pc' := 37) dX9_gradeAhead_36 rfl ?_
        refine z_perm [(a_t, .inr (8, [.int (zi q8.2), .int (zi c_t_high), .int (zi c_t_wide), .ref a_t_now, .ref a_t_trial, .ref a_t_diary, .int (zi c_t_acts), .int (zi c_t_next), .ref a_t_kept, .ref a_t_isKept, .ref a_t_script, .int (zi c_t_scriptSize), .int (zi c_t_spot), .ref a_t_read, .int (zi c_t_readHigh), .int (zi c_t_readWide), .ref a_t_wanted, .ref a_t_level, .ref a_t_chosen, .ref a_t_best])), (a_t_now, zI J 243 f_t_now)] [(0, .ref a_t), (1, .int (zi p0)), (2, .int (zi p1))] [1, 0] [0, 1, 2] rfl rfl rfl ?_
        cases hsh
        exact z_iret rfl dX9_gradeAhead_37 ⟨rfl, rfl⟩
    · replace hsh := zif_t q hsh
      refine z_iconst (pc' := 26) dX9_gradeAhead_25 rfl ?_
      refine z_goto (tgt := 30) dX9_gradeAhead_26 (by decide) ?_
      obtain ⟨q13, h14, hsh⟩ := zbind hsh
      refine z_callV (pc' := 33) (C := RX9) (As := [.int (zi (2 : Int))]) (rest := []) (wr := [(a_t_now, zI J 243 f_t_now)]) 1 (zc_X9_refused l D J F (a_t := a_t) (a_t_now := a_t_now) (a_t_trial := a_t_trial) (a_t_diary := a_t_diary) (a_t_kept := a_t_kept) (a_t_isKept := a_t_isKept) (a_t_script := a_t_script) (a_t_read := a_t_read) (a_t_wanted := a_t_wanted) (a_t_level := a_t_level) (a_t_chosen := a_t_chosen) (a_t_best := a_t_best) (c_t_refusal := c_t_refusal) (c_t_high := c_t_high) (c_t_wide := c_t_wide) (c_t_acts := c_t_acts) (c_t_next := c_t_next) (c_t_scriptSize := c_t_scriptSize) (c_t_spot := c_t_spot) (c_t_readHigh := c_t_readHigh) (c_t_readWide := c_t_readWide) (p0 := (2 : Int))  q13 h14) dX9_gradeAhead_30 gX9_gradeAhead_X9_refused rfl rfl rfl (by decide +kernel) ⟨Nat.le_of_ble_eq_true rfl, Nat.le_of_ble_eq_true rfl⟩ ⟨Nat.le_of_ble_eq_true rfl, Nat.le_of_ble_eq_true rfl⟩ (z_spl_of [1, 0] rfl rfl) rfl rfl rfl rfl (Nat.le_of_ble_eq_true rfl) rfl (fun rv w9 hq => ?_)
      obtain ⟨rfl, rfl⟩ := hq
      refine z_ws [(a_t_now, zI J 243 f_t_now), (a_t, .inr (8, [.int (zi q13.2), .int (zi c_t_high), .int (zi c_t_wide), .ref a_t_now, .ref a_t_trial, .ref a_t_diary, .int (zi c_t_acts), .int (zi c_t_next), .ref a_t_kept, .ref a_t_isKept, .ref a_t_script, .int (zi c_t_scriptSize), .int (zi c_t_spot), .ref a_t_read, .int (zi c_t_readHigh), .int (zi c_t_readWide), .ref a_t_wanted, .ref a_t_level, .ref a_t_chosen, .ref a_t_best]))] rfl ?_
      have g15 := zkr_p hsh
      replace hsh := zkr_k hsh
      refine z_if_eq (pc' := 36) (tgt := 38) dX9_gradeAhead_33 (by decide) g15 rfl (fun q => ?_) (fun q => ?_)
      · replace hsh := zif_t q hsh
        refine z_aload_n (pc' := 39) 0 dX9_gradeAhead_38 rfl rfl rfl ?_
        refine z_getfield (pc' := 42) (C := RX9) (T := TX9) (N := 20) 1 3 dX9_gradeAhead_39 iX9_gradeAhead_X9 rfl rfl (by decide) mX9_gradeAhead_f16 rfl rfl ?_
        refine z_iconst (pc' := 43) dX9_gradeAhead_42 rfl ?_
        refine z_iload_n (pc' := 44) 1 dX9_gradeAhead_43 rfl rfl rfl ?_
        refine z_iload_n (pc' := 45) 2 dX9_gradeAhead_44 rfl rfl rfl ?_
        obtain ⟨q16, h17, hsh⟩ := zbind hsh
        refine z_callS (pc' := 48) (As := [.ref a_t_now, .int (zi (0 : Int)), .int (zi p0), .int (zi p1)]) (rest := []) (wr := [(a_t, .inr (8, [.int (zi q13.2), .int (zi c_t_high), .int (zi c_t_wide), .ref a_t_now, .ref a_t_trial, .ref a_t_diary, .int (zi c_t_acts), .int (zi c_t_next), .ref a_t_kept, .ref a_t_isKept, .ref a_t_script, .int (zi c_t_scriptSize), .int (zi c_t_spot), .ref a_t_read, .int (zi c_t_readHigh), .int (zi c_t_readWide), .ref a_t_wanted, .ref a_t_level, .ref a_t_chosen, .ref a_t_best]))]) 4 (zc_X9_gradeOf l D J F (a_p0 := a_t_now) (f_p0 := f_t_now) (n_p0 := 243) (p1 := (0 : Int)) (p2 := p0) (p3 := p1) (hn_p0 := (by decide)) q16 h17) dX9_gradeAhead_45 gX9_gradeAhead_X9_gradeOf rfl rfl rfl (by decide +kernel) ⟨Nat.le_of_ble_eq_true rfl, Nat.le_of_ble_eq_true rfl⟩ ⟨Nat.le_of_ble_eq_true rfl, Nat.le_of_ble_eq_true rfl⟩ (z_spl_of [0, 1] rfl rfl) rfl rfl (Nat.le_of_ble_eq_true rfl) rfl (fun rv w9 hq => ?_)
        obtain ⟨rfl, rfl⟩ := hq
        refine z_ws [(a_t, .inr (8, [.int (zi q13.2), .int (zi c_t_high), .int (zi c_t_wide), .ref a_t_now, .ref a_t_trial, .ref a_t_diary, .int (zi c_t_acts), .int (zi c_t_next), .ref a_t_kept, .ref a_t_isKept, .ref a_t_script, .int (zi c_t_scriptSize), .int (zi c_t_spot), .ref a_t_read, .int (zi c_t_readHigh), .int (zi c_t_readWide), .ref a_t_wanted, .ref a_t_level, .ref a_t_chosen, .ref a_t_best])), (a_t_now, zI J 243 f_t_now)] rfl ?_
        cases hsh
        exact z_iret rfl dX9_gradeAhead_48 ⟨rfl, rfl⟩
      · replace hsh := zif_f q hsh
        refine z_iconst (pc' := 37) dX9_gradeAhead_36 rfl ?_
        refine z_perm [(a_t, .inr (8, [.int (zi q13.2), .int (zi c_t_high), .int (zi c_t_wide), .ref a_t_now, .ref a_t_trial, .ref a_t_diary, .int (zi c_t_acts), .int (zi c_t_next), .ref a_t_kept, .ref a_t_isKept, .ref a_t_script, .int (zi c_t_scriptSize), .int (zi c_t_spot), .ref a_t_read, .int (zi c_t_readHigh), .int (zi c_t_readWide), .ref a_t_wanted, .ref a_t_level, .ref a_t_chosen, .ref a_t_best])), (a_t_now, zI J 243 f_t_now)] [(0, .ref a_t), (1, .int (zi p0)), (2, .int (zi p1))] [1, 0] [0, 1, 2] rfl rfl rfl ?_
        cases hsh
        exact z_iret rfl dX9_gradeAhead_37 ⟨rfl, rfl⟩
  · replace hsh := zif_t q hsh
    refine z_iconst (pc' := 10) dX9_gradeAhead_9 rfl ?_
    refine z_goto (tgt := 30) dX9_gradeAhead_10 (by decide) ?_
    obtain ⟨q18, h19, hsh⟩ := zbind hsh
    refine z_callV (pc' := 33) (C := RX9) (As := [.int (zi (1 : Int))]) (rest := []) (wr := [(a_t_now, zI J 243 f_t_now)]) 1 (zc_X9_refused l D J F (a_t := a_t) (a_t_now := a_t_now) (a_t_trial := a_t_trial) (a_t_diary := a_t_diary) (a_t_kept := a_t_kept) (a_t_isKept := a_t_isKept) (a_t_script := a_t_script) (a_t_read := a_t_read) (a_t_wanted := a_t_wanted) (a_t_level := a_t_level) (a_t_chosen := a_t_chosen) (a_t_best := a_t_best) (c_t_refusal := c_t_refusal) (c_t_high := c_t_high) (c_t_wide := c_t_wide) (c_t_acts := c_t_acts) (c_t_next := c_t_next) (c_t_scriptSize := c_t_scriptSize) (c_t_spot := c_t_spot) (c_t_readHigh := c_t_readHigh) (c_t_readWide := c_t_readWide) (p0 := (1 : Int))  q18 h19) dX9_gradeAhead_30 gX9_gradeAhead_X9_refused rfl rfl rfl (by decide +kernel) ⟨Nat.le_of_ble_eq_true rfl, Nat.le_of_ble_eq_true rfl⟩ ⟨Nat.le_of_ble_eq_true rfl, Nat.le_of_ble_eq_true rfl⟩ (z_spl_of [1, 0] rfl rfl) rfl rfl rfl rfl (Nat.le_of_ble_eq_true rfl) rfl (fun rv w9 hq => ?_)
    obtain ⟨rfl, rfl⟩ := hq
    refine z_ws [(a_t_now, zI J 243 f_t_now), (a_t, .inr (8, [.int (zi q18.2), .int (zi c_t_high), .int (zi c_t_wide), .ref a_t_now, .ref a_t_trial, .ref a_t_diary, .int (zi c_t_acts), .int (zi c_t_next), .ref a_t_kept, .ref a_t_isKept, .ref a_t_script, .int (zi c_t_scriptSize), .int (zi c_t_spot), .ref a_t_read, .int (zi c_t_readHigh), .int (zi c_t_readWide), .ref a_t_wanted, .ref a_t_level, .ref a_t_chosen, .ref a_t_best]))] rfl ?_
    have g20 := zkr_p hsh
    replace hsh := zkr_k hsh
    refine z_if_eq (pc' := 36) (tgt := 38) dX9_gradeAhead_33 (by decide) g20 rfl (fun q => ?_) (fun q => ?_)
    · replace hsh := zif_t q hsh
      refine z_aload_n (pc' := 39) 0 dX9_gradeAhead_38 rfl rfl rfl ?_
      refine z_getfield (pc' := 42) (C := RX9) (T := TX9) (N := 20) 1 3 dX9_gradeAhead_39 iX9_gradeAhead_X9 rfl rfl (by decide) mX9_gradeAhead_f16 rfl rfl ?_
      refine z_iconst (pc' := 43) dX9_gradeAhead_42 rfl ?_
      refine z_iload_n (pc' := 44) 1 dX9_gradeAhead_43 rfl rfl rfl ?_
      refine z_iload_n (pc' := 45) 2 dX9_gradeAhead_44 rfl rfl rfl ?_
      obtain ⟨q21, h22, hsh⟩ := zbind hsh
      refine z_callS (pc' := 48) (As := [.ref a_t_now, .int (zi (0 : Int)), .int (zi p0), .int (zi p1)]) (rest := []) (wr := [(a_t, .inr (8, [.int (zi q18.2), .int (zi c_t_high), .int (zi c_t_wide), .ref a_t_now, .ref a_t_trial, .ref a_t_diary, .int (zi c_t_acts), .int (zi c_t_next), .ref a_t_kept, .ref a_t_isKept, .ref a_t_script, .int (zi c_t_scriptSize), .int (zi c_t_spot), .ref a_t_read, .int (zi c_t_readHigh), .int (zi c_t_readWide), .ref a_t_wanted, .ref a_t_level, .ref a_t_chosen, .ref a_t_best]))]) 4 (zc_X9_gradeOf l D J F (a_p0 := a_t_now) (f_p0 := f_t_now) (n_p0 := 243) (p1 := (0 : Int)) (p2 := p0) (p3 := p1) (hn_p0 := (by decide)) q21 h22) dX9_gradeAhead_45 gX9_gradeAhead_X9_gradeOf rfl rfl rfl (by decide +kernel) ⟨Nat.le_of_ble_eq_true rfl, Nat.le_of_ble_eq_true rfl⟩ ⟨Nat.le_of_ble_eq_true rfl, Nat.le_of_ble_eq_true rfl⟩ (z_spl_of [0, 1] rfl rfl) rfl rfl (Nat.le_of_ble_eq_true rfl) rfl (fun rv w9 hq => ?_)
      obtain ⟨rfl, rfl⟩ := hq
      refine z_ws [(a_t, .inr (8, [.int (zi q18.2), .int (zi c_t_high), .int (zi c_t_wide), .ref a_t_now, .ref a_t_trial, .ref a_t_diary, .int (zi c_t_acts), .int (zi c_t_next), .ref a_t_kept, .ref a_t_isKept, .ref a_t_script, .int (zi c_t_scriptSize), .int (zi c_t_spot), .ref a_t_read, .int (zi c_t_readHigh), .int (zi c_t_readWide), .ref a_t_wanted, .ref a_t_level, .ref a_t_chosen, .ref a_t_best])), (a_t_now, zI J 243 f_t_now)] rfl ?_
      cases hsh
      exact z_iret rfl dX9_gradeAhead_48 ⟨rfl, rfl⟩
    · replace hsh := zif_f q hsh
      refine z_iconst (pc' := 37) dX9_gradeAhead_36 rfl ?_
      refine z_perm [(a_t, .inr (8, [.int (zi q18.2), .int (zi c_t_high), .int (zi c_t_wide), .ref a_t_now, .ref a_t_trial, .ref a_t_diary, .int (zi c_t_acts), .int (zi c_t_next), .ref a_t_kept, .ref a_t_isKept, .ref a_t_script, .int (zi c_t_scriptSize), .int (zi c_t_spot), .ref a_t_read, .int (zi c_t_readHigh), .int (zi c_t_readWide), .ref a_t_wanted, .ref a_t_level, .ref a_t_chosen, .ref a_t_best])), (a_t_now, zI J 243 f_t_now)] [(0, .ref a_t), (1, .int (zi p0)), (2, .int (zi p1))] [1, 0] [0, 1, 2] rfl rfl rfl ?_
      cases hsh
      exact z_iret rfl dX9_gradeAhead_37 ⟨rfl, rfl⟩
def sh_X9_isHung (F : Nat) (c_t_high : Int) (c_t_wide : Int) (f_t_now : Nat → Int) (p0 : Int) : Option (Int × Int) := (sh_X9_isPoint F c_t_high c_t_wide p0).bind (fun (q1 : Int) => zkr q1 (if q1 = (0 : Int) then (sh_X9_refused F (1 : Int)).bind (fun (q4 : Int × Int) => zkr q4.1 (if q4.1 = (0 : Int) then zkx (((15 : Int) * p0) + (1 : Int)) 243 (zkr (f_t_now ((((15 : Int) * p0) + (1 : Int))).toNat) (if (f_t_now ((((15 : Int) * p0) + (1 : Int))).toNat) = (1 : Int) then some ((1 : Int), q4.2) else some ((0 : Int), q4.2))) else some ((0 : Int), q4.2))) else (sh_X9_refused F (0 : Int)).bind (fun (q9 : Int × Int) => zkr q9.1 (if q9.1 = (0 : Int) then zkx (((15 : Int) * p0) + (1 : Int)) 243 (zkr (f_t_now ((((15 : Int) * p0) + (1 : Int))).toNat) (if (f_t_now ((((15 : Int) * p0) + (1 : Int))).toNat) = (1 : Int) then some ((1 : Int), q9.2) else some ((0 : Int), q9.2))) else some ((0 : Int), q9.2)))))
theorem mX9_isHung_f16 : Cond.fieldLink RX9 16 (TX9 3).1 (TX9 3).2.1 (TX9 3).2.2.1 ∈ wsX9_isHung := List.mem_of_getElem? (i := 1) rfl
theorem iX9_isHung_X9 : ∀ w ∈ wsX90, w ∈ wsX9_isHung := fun _ h => (List.mem_cons_of_mem _ (List.mem_append_right _ h))
set_option maxRecDepth 100000 in
set_option maxHeartbeats 4000000 in
theorem zc_X9_isHung (l : Launch) (D : va_G) (J : Nat → ClassId) (F : Nat) (a_t : Nat) (a_t_now : Nat) (a_t_trial : Nat) (a_t_diary : Nat) (a_t_kept : Nat) (a_t_isKept : Nat) (a_t_script : Nat) (a_t_read : Nat) (a_t_wanted : Nat) (a_t_level : Nat) (a_t_chosen : Nat) (a_t_best : Nat) (c_t_refusal : Int) (c_t_high : Int) (c_t_wide : Int) (c_t_acts : Int) (c_t_next : Int) (c_t_scriptSize : Int) (c_t_spot : Int) (c_t_readHigh : Int) (c_t_readWide : Int) (f_t_now : Nat → Int) (p0 : Int) (res : Int × Int) (hsh : sh_X9_isHung F c_t_high c_t_wide f_t_now p0 = some res) : ZM l D J yX9_isHung wsX9_isHung ({ frames := 2, cells := 0, slots := 0, locals := 46 } : Room) 0 0 [.ref a_t, .int (zi p0)] [(a_t, .inr (8, [.int (zi c_t_refusal), .int (zi c_t_high), .int (zi c_t_wide), .ref a_t_now, .ref a_t_trial, .ref a_t_diary, .int (zi c_t_acts), .int (zi c_t_next), .ref a_t_kept, .ref a_t_isKept, .ref a_t_script, .int (zi c_t_scriptSize), .int (zi c_t_spot), .ref a_t_read, .int (zi c_t_readHigh), .int (zi c_t_readWide), .ref a_t_wanted, .ref a_t_level, .ref a_t_chosen, .ref a_t_best])), (a_t_now, zI J 243 f_t_now)] (fun rv w9 => rv = some (.int (zi res.1)) ∧ w9 = [(a_t, .inr (8, [.int (zi res.2), .int (zi c_t_high), .int (zi c_t_wide), .ref a_t_now, .ref a_t_trial, .ref a_t_diary, .int (zi c_t_acts), .int (zi c_t_next), .ref a_t_kept, .ref a_t_isKept, .ref a_t_script, .int (zi c_t_scriptSize), .int (zi c_t_spot), .ref a_t_read, .int (zi c_t_readHigh), .int (zi c_t_readWide), .ref a_t_wanted, .ref a_t_level, .ref a_t_chosen, .ref a_t_best])), (a_t_now, zI J 243 f_t_now)]) := by
  refine z_ofZ (cc := cX9_isHung) (maxL := 2) (ret := (some .boolean)) 0 0 (by decide) rfl (Nat.le_of_ble_eq_true rfl) [(0, .ref a_t), (1, .int (zi p0))] rfl ?_
  intro p e s m args below meth c A
  unfold sh_X9_isHung at hsh
  refine z_aload_n (pc' := 1) 0 dX9_isHung_0 rfl rfl rfl ?_
  refine z_aload_n (pc' := 2) 0 dX9_isHung_1 rfl rfl rfl ?_
  refine z_iload_n (pc' := 3) 1 dX9_isHung_2 rfl rfl rfl ?_
  obtain ⟨q1, h2, hsh⟩ := zbind hsh
  refine z_callV (pc' := 6) (C := RX9) (As := [.int (zi p0)]) (rest := [.ref a_t]) (wr := [(a_t_now, zI J 243 f_t_now)]) 1 (zc_X9_isPoint l D J F (a_t := a_t) (a_t_now := a_t_now) (a_t_trial := a_t_trial) (a_t_diary := a_t_diary) (a_t_kept := a_t_kept) (a_t_isKept := a_t_isKept) (a_t_script := a_t_script) (a_t_read := a_t_read) (a_t_wanted := a_t_wanted) (a_t_level := a_t_level) (a_t_chosen := a_t_chosen) (a_t_best := a_t_best) (c_t_refusal := c_t_refusal) (c_t_high := c_t_high) (c_t_wide := c_t_wide) (c_t_acts := c_t_acts) (c_t_next := c_t_next) (c_t_scriptSize := c_t_scriptSize) (c_t_spot := c_t_spot) (c_t_readHigh := c_t_readHigh) (c_t_readWide := c_t_readWide) (p0 := p0)  q1 h2) dX9_isHung_3 gX9_isHung_X9_isPoint rfl rfl rfl (by decide +kernel) ⟨Nat.le_of_ble_eq_true rfl, Nat.le_of_ble_eq_true rfl⟩ ⟨Nat.le_of_ble_eq_true rfl, Nat.le_of_ble_eq_true rfl⟩ (z_spl_of [0, 1] rfl rfl) rfl rfl rfl rfl (Nat.le_of_ble_eq_true rfl) rfl (fun rv w9 hq => ?_)
  obtain ⟨rfl, rfl⟩ := hq
  refine z_ws [(a_t_now, zI J 243 f_t_now), (a_t, .inr (8, [.int (zi c_t_refusal), .int (zi c_t_high), .int (zi c_t_wide), .ref a_t_now, .ref a_t_trial, .ref a_t_diary, .int (zi c_t_acts), .int (zi c_t_next), .ref a_t_kept, .ref a_t_isKept, .ref a_t_script, .int (zi c_t_scriptSize), .int (zi c_t_spot), .ref a_t_read, .int (zi c_t_readHigh), .int (zi c_t_readWide), .ref a_t_wanted, .ref a_t_level, .ref a_t_chosen, .ref a_t_best]))] rfl ?_
  have g3 := zkr_p hsh
  replace hsh := zkr_k hsh
  refine z_if_eq (pc' := 9) (tgt := 13) dX9_isHung_6 (by decide) g3 rfl (fun q => ?_) (fun q => ?_)
  · replace hsh := zif_t q hsh
    refine z_iconst (pc' := 14) dX9_isHung_13 rfl ?_
    obtain ⟨q4, h5, hsh⟩ := zbind hsh
    refine z_callV (pc' := 17) (C := RX9) (As := [.int (zi (1 : Int))]) (rest := []) (wr := [(a_t_now, zI J 243 f_t_now)]) 1 (zc_X9_refused l D J F (a_t := a_t) (a_t_now := a_t_now) (a_t_trial := a_t_trial) (a_t_diary := a_t_diary) (a_t_kept := a_t_kept) (a_t_isKept := a_t_isKept) (a_t_script := a_t_script) (a_t_read := a_t_read) (a_t_wanted := a_t_wanted) (a_t_level := a_t_level) (a_t_chosen := a_t_chosen) (a_t_best := a_t_best) (c_t_refusal := c_t_refusal) (c_t_high := c_t_high) (c_t_wide := c_t_wide) (c_t_acts := c_t_acts) (c_t_next := c_t_next) (c_t_scriptSize := c_t_scriptSize) (c_t_spot := c_t_spot) (c_t_readHigh := c_t_readHigh) (c_t_readWide := c_t_readWide) (p0 := (1 : Int))  q4 h5) dX9_isHung_14 gX9_isHung_X9_refused rfl rfl rfl (by decide +kernel) ⟨Nat.le_of_ble_eq_true rfl, Nat.le_of_ble_eq_true rfl⟩ ⟨Nat.le_of_ble_eq_true rfl, Nat.le_of_ble_eq_true rfl⟩ (z_spl_of [1, 0] rfl rfl) rfl rfl rfl rfl (Nat.le_of_ble_eq_true rfl) rfl (fun rv w9 hq => ?_)
    obtain ⟨rfl, rfl⟩ := hq
    refine z_ws [(a_t_now, zI J 243 f_t_now), (a_t, .inr (8, [.int (zi q4.2), .int (zi c_t_high), .int (zi c_t_wide), .ref a_t_now, .ref a_t_trial, .ref a_t_diary, .int (zi c_t_acts), .int (zi c_t_next), .ref a_t_kept, .ref a_t_isKept, .ref a_t_script, .int (zi c_t_scriptSize), .int (zi c_t_spot), .ref a_t_read, .int (zi c_t_readHigh), .int (zi c_t_readWide), .ref a_t_wanted, .ref a_t_level, .ref a_t_chosen, .ref a_t_best]))] rfl ?_
    have g6 := zkr_p hsh
    replace hsh := zkr_k hsh
    refine z_if_eq (pc' := 20) (tgt := 22) dX9_isHung_17 (by decide) g6 rfl (fun q => ?_) (fun q => ?_)
    · replace hsh := zif_t q hsh
      refine z_aload_n (pc' := 23) 0 dX9_isHung_22 rfl rfl rfl ?_
      refine z_getfield (pc' := 26) (C := RX9) (T := TX9) (N := 20) 1 3 dX9_isHung_23 iX9_isHung_X9 rfl rfl (by decide) mX9_isHung_f16 rfl rfl ?_
      refine z_bipush (pc' := 28) dX9_isHung_26 (by decide) rfl ?_
      refine z_iload_n (pc' := 29) 1 dX9_isHung_28 rfl rfl rfl ?_
      refine z_imul (pc' := 30) dX9_isHung_29 rfl ?_
      refine z_iconst (pc' := 31) dX9_isHung_30 rfl ?_
      refine z_iadd (pc' := 32) dX9_isHung_31 rfl ?_
      have g7 := zkx_p hsh
      replace hsh := zkx_k hsh
      refine z_iaload (pc' := 33) 0 dX9_isHung_32 rfl (by decide) g7 rfl ?_
      refine z_iconst (pc' := 34) dX9_isHung_33 rfl ?_
      have g8 := zkr_p hsh
      replace hsh := zkr_k hsh
      refine z_icmp_ne (pc' := 37) (tgt := 41) dX9_isHung_34 (by decide) g8 (by decide) rfl (fun q => ?_) (fun q => ?_)
      · replace hsh := zif_f q hsh
        refine z_iconst (pc' := 42) dX9_isHung_41 rfl ?_
        refine z_perm [(a_t, .inr (8, [.int (zi q4.2), .int (zi c_t_high), .int (zi c_t_wide), .ref a_t_now, .ref a_t_trial, .ref a_t_diary, .int (zi c_t_acts), .int (zi c_t_next), .ref a_t_kept, .ref a_t_isKept, .ref a_t_script, .int (zi c_t_scriptSize), .int (zi c_t_spot), .ref a_t_read, .int (zi c_t_readHigh), .int (zi c_t_readWide), .ref a_t_wanted, .ref a_t_level, .ref a_t_chosen, .ref a_t_best])), (a_t_now, zI J 243 f_t_now)] [(0, .ref a_t), (1, .int (zi p0))] [1, 0] [0, 1] rfl rfl rfl ?_
        cases hsh
        exact z_zret rfl (by decide) dX9_isHung_42 ⟨rfl, rfl⟩
      · replace hsh := zif_t q hsh
        refine z_iconst (pc' := 38) dX9_isHung_37 rfl ?_
        refine z_goto (tgt := 42) dX9_isHung_38 (by decide) ?_
        refine z_perm [(a_t, .inr (8, [.int (zi q4.2), .int (zi c_t_high), .int (zi c_t_wide), .ref a_t_now, .ref a_t_trial, .ref a_t_diary, .int (zi c_t_acts), .int (zi c_t_next), .ref a_t_kept, .ref a_t_isKept, .ref a_t_script, .int (zi c_t_scriptSize), .int (zi c_t_spot), .ref a_t_read, .int (zi c_t_readHigh), .int (zi c_t_readWide), .ref a_t_wanted, .ref a_t_level, .ref a_t_chosen, .ref a_t_best])), (a_t_now, zI J 243 f_t_now)] [(0, .ref a_t), (1, .int (zi p0))] [1, 0] [0, 1] rfl rfl rfl ?_
        cases hsh
        exact z_zret rfl (by decide) dX9_isHung_42 ⟨rfl, rfl⟩
    · replace hsh := zif_f q hsh
      refine z_iconst (pc' := 21) dX9_isHung_20 rfl ?_
      refine z_perm [(a_t, .inr (8, [.int (zi q4.2), .int (zi c_t_high), .int (zi c_t_wide), .ref a_t_now, .ref a_t_trial, .ref a_t_diary, .int (zi c_t_acts), .int (zi c_t_next), .ref a_t_kept, .ref a_t_isKept, .ref a_t_script, .int (zi c_t_scriptSize), .int (zi c_t_spot), .ref a_t_read, .int (zi c_t_readHigh), .int (zi c_t_readWide), .ref a_t_wanted, .ref a_t_level, .ref a_t_chosen, .ref a_t_best])), (a_t_now, zI J 243 f_t_now)] [(0, .ref a_t), (1, .int (zi p0))] [1, 0] [0, 1] rfl rfl rfl ?_
      cases hsh
      exact z_zret rfl (by decide) dX9_isHung_21 ⟨rfl, rfl⟩
  · replace hsh := zif_f q hsh
    refine z_iconst (pc' := 10) dX9_isHung_9 rfl ?_
    refine z_goto (tgt := 14) dX9_isHung_10 (by decide) ?_
    obtain ⟨q9, h10, hsh⟩ := zbind hsh
    refine z_callV (pc' := 17) (C := RX9) (As := [.int (zi (0 : Int))]) (rest := []) (wr := [(a_t_now, zI J 243 f_t_now)]) 1 (zc_X9_refused l D J F (a_t := a_t) (a_t_now := a_t_now) (a_t_trial := a_t_trial) (a_t_diary := a_t_diary) (a_t_kept := a_t_kept) (a_t_isKept := a_t_isKept) (a_t_script := a_t_script) (a_t_read := a_t_read) (a_t_wanted := a_t_wanted) (a_t_level := a_t_level) (a_t_chosen := a_t_chosen) (a_t_best := a_t_best) (c_t_refusal := c_t_refusal) (c_t_high := c_t_high) (c_t_wide := c_t_wide) (c_t_acts := c_t_acts) (c_t_next := c_t_next) (c_t_scriptSize := c_t_scriptSize) (c_t_spot := c_t_spot) (c_t_readHigh := c_t_readHigh) (c_t_readWide := c_t_readWide) (p0 := (0 : Int))  q9 h10) dX9_isHung_14 gX9_isHung_X9_refused rfl rfl rfl (by decide +kernel) ⟨Nat.le_of_ble_eq_true rfl, Nat.le_of_ble_eq_true rfl⟩ ⟨Nat.le_of_ble_eq_true rfl, Nat.le_of_ble_eq_true rfl⟩ (z_spl_of [1, 0] rfl rfl) rfl rfl rfl rfl (Nat.le_of_ble_eq_true rfl) rfl (fun rv w9 hq => ?_)
    obtain ⟨rfl, rfl⟩ := hq
    refine z_ws [(a_t_now, zI J 243 f_t_now), (a_t, .inr (8, [.int (zi q9.2), .int (zi c_t_high), .int (zi c_t_wide), .ref a_t_now, .ref a_t_trial, .ref a_t_diary, .int (zi c_t_acts), .int (zi c_t_next), .ref a_t_kept, .ref a_t_isKept, .ref a_t_script, .int (zi c_t_scriptSize), .int (zi c_t_spot), .ref a_t_read, .int (zi c_t_readHigh), .int (zi c_t_readWide), .ref a_t_wanted, .ref a_t_level, .ref a_t_chosen, .ref a_t_best]))] rfl ?_
    have g11 := zkr_p hsh
    replace hsh := zkr_k hsh
    refine z_if_eq (pc' := 20) (tgt := 22) dX9_isHung_17 (by decide) g11 rfl (fun q => ?_) (fun q => ?_)
    · replace hsh := zif_t q hsh
      refine z_aload_n (pc' := 23) 0 dX9_isHung_22 rfl rfl rfl ?_
      refine z_getfield (pc' := 26) (C := RX9) (T := TX9) (N := 20) 1 3 dX9_isHung_23 iX9_isHung_X9 rfl rfl (by decide) mX9_isHung_f16 rfl rfl ?_
      refine z_bipush (pc' := 28) dX9_isHung_26 (by decide) rfl ?_
      refine z_iload_n (pc' := 29) 1 dX9_isHung_28 rfl rfl rfl ?_
      refine z_imul (pc' := 30) dX9_isHung_29 rfl ?_
      refine z_iconst (pc' := 31) dX9_isHung_30 rfl ?_
      refine z_iadd (pc' := 32) dX9_isHung_31 rfl ?_
      have g12 := zkx_p hsh
      replace hsh := zkx_k hsh
      refine z_iaload (pc' := 33) 0 dX9_isHung_32 rfl (by decide) g12 rfl ?_
      refine z_iconst (pc' := 34) dX9_isHung_33 rfl ?_
      have g13 := zkr_p hsh
      replace hsh := zkr_k hsh
      refine z_icmp_ne (pc' := 37) (tgt := 41) dX9_isHung_34 (by decide) g13 (by decide) rfl (fun q => ?_) (fun q => ?_)
      · replace hsh := zif_f q hsh
        refine z_iconst (pc' := 42) dX9_isHung_41 rfl ?_
        refine z_perm [(a_t, .inr (8, [.int (zi q9.2), .int (zi c_t_high), .int (zi c_t_wide), .ref a_t_now, .ref a_t_trial, .ref a_t_diary, .int (zi c_t_acts), .int (zi c_t_next), .ref a_t_kept, .ref a_t_isKept, .ref a_t_script, .int (zi c_t_scriptSize), .int (zi c_t_spot), .ref a_t_read, .int (zi c_t_readHigh), .int (zi c_t_readWide), .ref a_t_wanted, .ref a_t_level, .ref a_t_chosen, .ref a_t_best])), (a_t_now, zI J 243 f_t_now)] [(0, .ref a_t), (1, .int (zi p0))] [1, 0] [0, 1] rfl rfl rfl ?_
        cases hsh
        exact z_zret rfl (by decide) dX9_isHung_42 ⟨rfl, rfl⟩
      · replace hsh := zif_t q hsh
        refine z_iconst (pc' := 38) dX9_isHung_37 rfl ?_
        refine z_goto (tgt := 42) dX9_isHung_38 (by decide) ?_
        refine z_perm [(a_t, .inr (8, [.int (zi q9.2), .int (zi c_t_high), .int (zi c_t_wide), .ref a_t_now, .ref a_t_trial, .ref a_t_diary, .int (zi c_t_acts), .int (zi c_t_next), .ref a_t_kept, .ref a_t_isKept, .ref a_t_script, .int (zi c_t_scriptSize), .int (zi c_t_spot), .ref a_t_read, .int (zi c_t_readHigh), .int (zi c_t_readWide), .ref a_t_wanted, .ref a_t_level, .ref a_t_chosen, .ref a_t_best])), (a_t_now, zI J 243 f_t_now)] [(0, .ref a_t), (1, .int (zi p0))] [1, 0] [0, 1] rfl rfl rfl ?_
        cases hsh
        exact z_zret rfl (by decide) dX9_isHung_42 ⟨rfl, rfl⟩
    · replace hsh := zif_f q hsh
      refine z_iconst (pc' := 21) dX9_isHung_20 rfl ?_
      refine z_perm [(a_t, .inr (8, [.int (zi q9.2), .int (zi c_t_high), .int (zi c_t_wide), .ref a_t_now, .ref a_t_trial, .ref a_t_diary, .int (zi c_t_acts), .int (zi c_t_next), .ref a_t_kept, .ref a_t_isKept, .ref a_t_script, .int (zi c_t_scriptSize), .int (zi c_t_spot), .ref a_t_read, .int (zi c_t_readHigh), .int (zi c_t_readWide), .ref a_t_wanted, .ref a_t_level, .ref a_t_chosen, .ref a_t_best])), (a_t_now, zI J 243 f_t_now)] [(0, .ref a_t), (1, .int (zi p0))] [1, 0] [0, 1] rfl rfl rfl ?_
      cases hsh
      exact z_zret rfl (by decide) dX9_isHung_21 ⟨rfl, rfl⟩
def sh_X9_totalBuckets (F : Nat) (f_t_now : Nat → Int) : Option (Int × Int) := some ((f_t_now ((241 : Int)).toNat), (0 : Int))
theorem mX9_totalBuckets_f51 : Cond.fieldLink RX9 51 (TX9 0).1 (TX9 0).2.1 (TX9 0).2.2.1 ∈ wsX9_totalBuckets := List.mem_of_getElem? (i := 1) rfl
theorem iX9_totalBuckets_X9 : ∀ w ∈ wsX90, w ∈ wsX9_totalBuckets := fun _ h => (List.mem_cons_of_mem _ (List.mem_append_right _ h))
theorem mX9_totalBuckets_f16 : Cond.fieldLink RX9 16 (TX9 3).1 (TX9 3).2.1 (TX9 3).2.2.1 ∈ wsX9_totalBuckets := List.mem_of_getElem? (i := 2) rfl
set_option maxRecDepth 100000 in
set_option maxHeartbeats 4000000 in
theorem zc_X9_totalBuckets (l : Launch) (D : va_G) (J : Nat → ClassId) (F : Nat) (a_t : Nat) (a_t_now : Nat) (a_t_trial : Nat) (a_t_diary : Nat) (a_t_kept : Nat) (a_t_isKept : Nat) (a_t_script : Nat) (a_t_read : Nat) (a_t_wanted : Nat) (a_t_level : Nat) (a_t_chosen : Nat) (a_t_best : Nat) (c_t_refusal : Int) (c_t_high : Int) (c_t_wide : Int) (c_t_acts : Int) (c_t_next : Int) (c_t_scriptSize : Int) (c_t_spot : Int) (c_t_readHigh : Int) (c_t_readWide : Int) (f_t_now : Nat → Int) (res : Int × Int) (hsh : sh_X9_totalBuckets F f_t_now = some res) : ZM l D J yX9_totalBuckets wsX9_totalBuckets ({ frames := 0, cells := 0, slots := 0, locals := 0 } : Room) 0 0 [.ref a_t] [(a_t, .inr (8, [.int (zi c_t_refusal), .int (zi c_t_high), .int (zi c_t_wide), .ref a_t_now, .ref a_t_trial, .ref a_t_diary, .int (zi c_t_acts), .int (zi c_t_next), .ref a_t_kept, .ref a_t_isKept, .ref a_t_script, .int (zi c_t_scriptSize), .int (zi c_t_spot), .ref a_t_read, .int (zi c_t_readHigh), .int (zi c_t_readWide), .ref a_t_wanted, .ref a_t_level, .ref a_t_chosen, .ref a_t_best])), (a_t_now, zI J 243 f_t_now)] (fun rv w9 => rv = some (.int (zi res.1)) ∧ w9 = [(a_t, .inr (8, [.int (zi res.2), .int (zi c_t_high), .int (zi c_t_wide), .ref a_t_now, .ref a_t_trial, .ref a_t_diary, .int (zi c_t_acts), .int (zi c_t_next), .ref a_t_kept, .ref a_t_isKept, .ref a_t_script, .int (zi c_t_scriptSize), .int (zi c_t_spot), .ref a_t_read, .int (zi c_t_readHigh), .int (zi c_t_readWide), .ref a_t_wanted, .ref a_t_level, .ref a_t_chosen, .ref a_t_best])), (a_t_now, zI J 243 f_t_now)]) := by
  refine z_ofZ (cc := cX9_totalBuckets) (maxL := 1) (ret := (some .int)) 0 0 (by decide) rfl (Nat.le_of_ble_eq_true rfl) [(0, .ref a_t)] rfl ?_
  intro p e s m args below meth c A
  unfold sh_X9_totalBuckets at hsh
  refine z_aload_n (pc' := 1) 0 dX9_totalBuckets_0 rfl rfl rfl ?_
  refine z_iconst (pc' := 2) dX9_totalBuckets_1 rfl ?_
  refine z_putfield (pc' := 5) (C := RX9) (T := TX9) (N := 20) (ty := .int) 0 0 [(a_t, .inr (8, [.int (zi (0 : Int)), .int (zi c_t_high), .int (zi c_t_wide), .ref a_t_now, .ref a_t_trial, .ref a_t_diary, .int (zi c_t_acts), .int (zi c_t_next), .ref a_t_kept, .ref a_t_isKept, .ref a_t_script, .int (zi c_t_scriptSize), .int (zi c_t_spot), .ref a_t_read, .int (zi c_t_readHigh), .int (zi c_t_readWide), .ref a_t_wanted, .ref a_t_level, .ref a_t_chosen, .ref a_t_best])), (a_t_now, zI J 243 f_t_now)] tyX9 tyX9_ok nmX9 dX9_totalBuckets_2 iX9_totalBuckets_X9 rfl rfl (by decide) mX9_totalBuckets_f51 rfl (by decide +kernel) rfl rfl (Nat.le_of_ble_eq_true rfl) rfl rfl rfl ?_
  refine z_aload_n (pc' := 6) 0 dX9_totalBuckets_5 rfl rfl rfl ?_
  refine z_getfield (pc' := 9) (C := RX9) (T := TX9) (N := 20) 0 3 dX9_totalBuckets_6 iX9_totalBuckets_X9 rfl rfl (by decide) mX9_totalBuckets_f16 rfl rfl ?_
  refine z_sipush (pc' := 12) dX9_totalBuckets_9 (by decide) rfl ?_
  refine z_iaload (pc' := 13) 1 dX9_totalBuckets_12 rfl (by decide) (by decide) rfl ?_
  cases hsh
  exact z_iret rfl dX9_totalBuckets_13 ⟨rfl, rfl⟩
def sh_X9_totalGrade (F : Nat) (f_t_now : Nat → Int) : Option (Int × Int) := some ((f_t_now ((242 : Int)).toNat), (0 : Int))
theorem mX9_totalGrade_f51 : Cond.fieldLink RX9 51 (TX9 0).1 (TX9 0).2.1 (TX9 0).2.2.1 ∈ wsX9_totalGrade := List.mem_of_getElem? (i := 1) rfl
theorem iX9_totalGrade_X9 : ∀ w ∈ wsX90, w ∈ wsX9_totalGrade := fun _ h => (List.mem_cons_of_mem _ (List.mem_append_right _ h))
theorem mX9_totalGrade_f16 : Cond.fieldLink RX9 16 (TX9 3).1 (TX9 3).2.1 (TX9 3).2.2.1 ∈ wsX9_totalGrade := List.mem_of_getElem? (i := 2) rfl
set_option maxRecDepth 100000 in
set_option maxHeartbeats 4000000 in
theorem zc_X9_totalGrade (l : Launch) (D : va_G) (J : Nat → ClassId) (F : Nat) (a_t : Nat) (a_t_now : Nat) (a_t_trial : Nat) (a_t_diary : Nat) (a_t_kept : Nat) (a_t_isKept : Nat) (a_t_script : Nat) (a_t_read : Nat) (a_t_wanted : Nat) (a_t_level : Nat) (a_t_chosen : Nat) (a_t_best : Nat) (c_t_refusal : Int) (c_t_high : Int) (c_t_wide : Int) (c_t_acts : Int) (c_t_next : Int) (c_t_scriptSize : Int) (c_t_spot : Int) (c_t_readHigh : Int) (c_t_readWide : Int) (f_t_now : Nat → Int) (res : Int × Int) (hsh : sh_X9_totalGrade F f_t_now = some res) : ZM l D J yX9_totalGrade wsX9_totalGrade ({ frames := 0, cells := 0, slots := 0, locals := 0 } : Room) 0 0 [.ref a_t] [(a_t, .inr (8, [.int (zi c_t_refusal), .int (zi c_t_high), .int (zi c_t_wide), .ref a_t_now, .ref a_t_trial, .ref a_t_diary, .int (zi c_t_acts), .int (zi c_t_next), .ref a_t_kept, .ref a_t_isKept, .ref a_t_script, .int (zi c_t_scriptSize), .int (zi c_t_spot), .ref a_t_read, .int (zi c_t_readHigh), .int (zi c_t_readWide), .ref a_t_wanted, .ref a_t_level, .ref a_t_chosen, .ref a_t_best])), (a_t_now, zI J 243 f_t_now)] (fun rv w9 => rv = some (.int (zi res.1)) ∧ w9 = [(a_t, .inr (8, [.int (zi res.2), .int (zi c_t_high), .int (zi c_t_wide), .ref a_t_now, .ref a_t_trial, .ref a_t_diary, .int (zi c_t_acts), .int (zi c_t_next), .ref a_t_kept, .ref a_t_isKept, .ref a_t_script, .int (zi c_t_scriptSize), .int (zi c_t_spot), .ref a_t_read, .int (zi c_t_readHigh), .int (zi c_t_readWide), .ref a_t_wanted, .ref a_t_level, .ref a_t_chosen, .ref a_t_best])), (a_t_now, zI J 243 f_t_now)]) := by
  refine z_ofZ (cc := cX9_totalGrade) (maxL := 1) (ret := (some .int)) 0 0 (by decide) rfl (Nat.le_of_ble_eq_true rfl) [(0, .ref a_t)] rfl ?_
  intro p e s m args below meth c A
  unfold sh_X9_totalGrade at hsh
  refine z_aload_n (pc' := 1) 0 dX9_totalGrade_0 rfl rfl rfl ?_
  refine z_iconst (pc' := 2) dX9_totalGrade_1 rfl ?_
  refine z_putfield (pc' := 5) (C := RX9) (T := TX9) (N := 20) (ty := .int) 0 0 [(a_t, .inr (8, [.int (zi (0 : Int)), .int (zi c_t_high), .int (zi c_t_wide), .ref a_t_now, .ref a_t_trial, .ref a_t_diary, .int (zi c_t_acts), .int (zi c_t_next), .ref a_t_kept, .ref a_t_isKept, .ref a_t_script, .int (zi c_t_scriptSize), .int (zi c_t_spot), .ref a_t_read, .int (zi c_t_readHigh), .int (zi c_t_readWide), .ref a_t_wanted, .ref a_t_level, .ref a_t_chosen, .ref a_t_best])), (a_t_now, zI J 243 f_t_now)] tyX9 tyX9_ok nmX9 dX9_totalGrade_2 iX9_totalGrade_X9 rfl rfl (by decide) mX9_totalGrade_f51 rfl (by decide +kernel) rfl rfl (Nat.le_of_ble_eq_true rfl) rfl rfl rfl ?_
  refine z_aload_n (pc' := 6) 0 dX9_totalGrade_5 rfl rfl rfl ?_
  refine z_getfield (pc' := 9) (C := RX9) (T := TX9) (N := 20) 0 3 dX9_totalGrade_6 iX9_totalGrade_X9 rfl rfl (by decide) mX9_totalGrade_f16 rfl rfl ?_
  refine z_sipush (pc' := 12) dX9_totalGrade_9 (by decide) rfl ?_
  refine z_iaload (pc' := 13) 1 dX9_totalGrade_12 rfl (by decide) (by decide) rfl ?_
  cases hsh
  exact z_iret rfl dX9_totalGrade_13 ⟨rfl, rfl⟩
def sh_X9_areBeside (F : Nat) (c_t_wide : Int) (p0 : Int) (p1 : Int) : Option (Int) := zkr p0 (zkr c_t_wide (zkc (¬ c_t_wide = 0) (zkr p1 (zkc (¬ c_t_wide = 0) (zkc (¬ c_t_wide = 0) (zkc (¬ c_t_wide = 0) (zkr ((((zdiv p0 c_t_wide) - (zdiv p1 c_t_wide)) * ((zdiv p0 c_t_wide) - (zdiv p1 c_t_wide))) + (((zmod p0 c_t_wide) - (zmod p1 c_t_wide)) * ((zmod p0 c_t_wide) - (zmod p1 c_t_wide)))) (if ((((zdiv p0 c_t_wide) - (zdiv p1 c_t_wide)) * ((zdiv p0 c_t_wide) - (zdiv p1 c_t_wide))) + (((zmod p0 c_t_wide) - (zmod p1 c_t_wide)) * ((zmod p0 c_t_wide) - (zmod p1 c_t_wide)))) = (1 : Int) then some ((1 : Int)) else some ((0 : Int))))))))))
theorem mX9_areBeside_f13 : Cond.fieldLink RX9 13 (TX9 2).1 (TX9 2).2.1 (TX9 2).2.2.1 ∈ wsX9_areBeside := List.mem_of_getElem? (i := 1) rfl
theorem iX9_areBeside_X9 : ∀ w ∈ wsX90, w ∈ wsX9_areBeside := fun _ h => (List.mem_cons_of_mem _ (List.mem_append_right _ h))
set_option maxRecDepth 100000 in
set_option maxHeartbeats 4000000 in
theorem zc_X9_areBeside (l : Launch) (D : va_G) (J : Nat → ClassId) (F : Nat) (a_t : Nat) (a_t_now : Nat) (a_t_trial : Nat) (a_t_diary : Nat) (a_t_kept : Nat) (a_t_isKept : Nat) (a_t_script : Nat) (a_t_read : Nat) (a_t_wanted : Nat) (a_t_level : Nat) (a_t_chosen : Nat) (a_t_best : Nat) (c_t_refusal : Int) (c_t_high : Int) (c_t_wide : Int) (c_t_acts : Int) (c_t_next : Int) (c_t_scriptSize : Int) (c_t_spot : Int) (c_t_readHigh : Int) (c_t_readWide : Int) (p0 : Int) (p1 : Int) (res : Int) (hsh : sh_X9_areBeside F c_t_wide p0 p1 = some res) : ZM l D J yX9_areBeside wsX9_areBeside ({ frames := 0, cells := 0, slots := 0, locals := 0 } : Room) 0 0 [.ref a_t, .int (zi p0), .int (zi p1)] [(a_t, .inr (8, [.int (zi c_t_refusal), .int (zi c_t_high), .int (zi c_t_wide), .ref a_t_now, .ref a_t_trial, .ref a_t_diary, .int (zi c_t_acts), .int (zi c_t_next), .ref a_t_kept, .ref a_t_isKept, .ref a_t_script, .int (zi c_t_scriptSize), .int (zi c_t_spot), .ref a_t_read, .int (zi c_t_readHigh), .int (zi c_t_readWide), .ref a_t_wanted, .ref a_t_level, .ref a_t_chosen, .ref a_t_best]))] (fun rv w9 => rv = some (.int (zi res)) ∧ w9 = [(a_t, .inr (8, [.int (zi c_t_refusal), .int (zi c_t_high), .int (zi c_t_wide), .ref a_t_now, .ref a_t_trial, .ref a_t_diary, .int (zi c_t_acts), .int (zi c_t_next), .ref a_t_kept, .ref a_t_isKept, .ref a_t_script, .int (zi c_t_scriptSize), .int (zi c_t_spot), .ref a_t_read, .int (zi c_t_readHigh), .int (zi c_t_readWide), .ref a_t_wanted, .ref a_t_level, .ref a_t_chosen, .ref a_t_best]))]) := by
  refine z_ofZ (cc := cX9_areBeside) (maxL := 5) (ret := (some .boolean)) 0 0 (by decide) rfl (Nat.le_of_ble_eq_true rfl) [(0, .ref a_t), (1, .int (zi p0)), (2, .int (zi p1))] rfl ?_
  intro p e s m args below meth c A
  unfold sh_X9_areBeside at hsh
  refine z_iload_n (pc' := 1) 1 dX9_areBeside_0 rfl rfl rfl ?_
  refine z_aload_n (pc' := 2) 0 dX9_areBeside_1 rfl rfl rfl ?_
  refine z_getfield (pc' := 5) (C := RX9) (T := TX9) (N := 20) 0 2 dX9_areBeside_2 iX9_areBeside_X9 rfl rfl (by decide) mX9_areBeside_f13 rfl rfl ?_
  have g1 := zkr_p hsh
  replace hsh := zkr_k hsh
  have g2 := zkr_p hsh
  replace hsh := zkr_k hsh
  have g3 := zkc_p hsh
  replace hsh := zkc_k hsh
  refine z_idiv (pc' := 6) dX9_areBeside_5 g1 g2 g3 rfl ?_
  refine z_iload_n (pc' := 7) 2 dX9_areBeside_6 rfl rfl rfl ?_
  refine z_aload_n (pc' := 8) 0 dX9_areBeside_7 rfl rfl rfl ?_
  refine z_getfield (pc' := 11) (C := RX9) (T := TX9) (N := 20) 0 2 dX9_areBeside_8 iX9_areBeside_X9 rfl rfl (by decide) mX9_areBeside_f13 rfl rfl ?_
  have g4 := zkr_p hsh
  replace hsh := zkr_k hsh
  have g5 := zkc_p hsh
  replace hsh := zkc_k hsh
  refine z_idiv (pc' := 12) dX9_areBeside_11 g4 g2 g5 rfl ?_
  refine z_isub (pc' := 13) dX9_areBeside_12 rfl ?_
  refine z_istore_n (pc' := 14) [(3, .int (zi ((zdiv p0 c_t_wide) - (zdiv p1 c_t_wide)))), (0, .ref a_t), (1, .int (zi p0)), (2, .int (zi p1))] dX9_areBeside_13 rfl (by decide) rfl rfl ?_
  refine z_iload_n (pc' := 15) 2 dX9_areBeside_14 rfl rfl rfl ?_
  refine z_aload_n (pc' := 16) 1 dX9_areBeside_15 rfl rfl rfl ?_
  refine z_getfield (pc' := 19) (C := RX9) (T := TX9) (N := 20) 0 2 dX9_areBeside_16 iX9_areBeside_X9 rfl rfl (by decide) mX9_areBeside_f13 rfl rfl ?_
  have g6 := zkc_p hsh
  replace hsh := zkc_k hsh
  refine z_irem (pc' := 20) dX9_areBeside_19 g1 g2 g6 rfl ?_
  refine z_iload_n (pc' := 21) 3 dX9_areBeside_20 rfl rfl rfl ?_
  refine z_aload_n (pc' := 22) 1 dX9_areBeside_21 rfl rfl rfl ?_
  refine z_getfield (pc' := 25) (C := RX9) (T := TX9) (N := 20) 0 2 dX9_areBeside_22 iX9_areBeside_X9 rfl rfl (by decide) mX9_areBeside_f13 rfl rfl ?_
  have g7 := zkc_p hsh
  replace hsh := zkc_k hsh
  refine z_irem (pc' := 26) dX9_areBeside_25 g4 g2 g7 rfl ?_
  refine z_isub (pc' := 27) dX9_areBeside_26 rfl ?_
  refine z_istore (pc' := 29) [(4, .int (zi ((zmod p0 c_t_wide) - (zmod p1 c_t_wide)))), (3, .int (zi ((zdiv p0 c_t_wide) - (zdiv p1 c_t_wide)))), (0, .ref a_t), (1, .int (zi p0)), (2, .int (zi p1))] dX9_areBeside_27 (by decide) rfl rfl ?_
  refine z_iload_n (pc' := 30) 1 dX9_areBeside_29 rfl rfl rfl ?_
  refine z_iload_n (pc' := 31) 1 dX9_areBeside_30 rfl rfl rfl ?_
  refine z_imul (pc' := 32) dX9_areBeside_31 rfl ?_
  refine z_iload (pc' := 34) 0 dX9_areBeside_32 rfl rfl ?_
  refine z_iload (pc' := 36) 0 dX9_areBeside_34 rfl rfl ?_
  refine z_imul (pc' := 37) dX9_areBeside_36 rfl ?_
  refine z_iadd (pc' := 38) dX9_areBeside_37 rfl ?_
  refine z_iconst (pc' := 39) dX9_areBeside_38 rfl ?_
  have g8 := zkr_p hsh
  replace hsh := zkr_k hsh
  refine z_icmp_ne (pc' := 42) (tgt := 46) dX9_areBeside_39 (by decide) g8 (by decide) rfl (fun q => ?_) (fun q => ?_)
  · replace hsh := zif_f q hsh
    refine z_iconst (pc' := 47) dX9_areBeside_46 rfl ?_
    cases hsh
    exact z_zret rfl (by decide) dX9_areBeside_47 ⟨rfl, rfl⟩
  · replace hsh := zif_t q hsh
    refine z_iconst (pc' := 43) dX9_areBeside_42 rfl ?_
    refine z_goto (tgt := 47) dX9_areBeside_43 (by decide) ?_
    cases hsh
    exact z_zret rfl (by decide) dX9_areBeside_47 ⟨rfl, rfl⟩
def sh_X9_allowed_L7 (F : Nat) (n_p0 : Nat) (p1 : Int) (p2 : Int) (c_t_high : Int) (c_t_wide : Int) (f_p0 : Nat → Int) (k : Int → Int → Option (Int)) : Nat → Int → Int → Option (Int)
  | 0, _, _ => none
  | N + 1, v3, v4 => (sh_X9_points F c_t_high c_t_wide).bind (fun (q5 : Int) => zkr v4 (zkr q5 (if v4 < q5 then zkx (p1 + (240 : Int)) n_p0 (zkx ((p1 + ((15 : Int) * p2)) + (0 : Int)) n_p0 (zkx ((p1 + ((15 : Int) * v4)) + (0 : Int)) n_p0 ((sh_X9_areBeside F c_t_wide p2 v4).bind (fun (q12 : Int) => zkr q12 (if q12 = (0 : Int) then sh_X9_allowed_L7 F n_p0 p1 p2 c_t_high c_t_wide f_p0 k N v3 (v4 + (1 : Int)) else zkr (((f_p0 ((p1 + (240 : Int))).toNat) - (f_p0 (((p1 + ((15 : Int) * p2)) + (0 : Int))).toNat)) + (f_p0 (((p1 + ((15 : Int) * v4)) + (0 : Int))).toNat)) (zkr v3 (if (((f_p0 ((p1 + (240 : Int))).toNat) - (f_p0 (((p1 + ((15 : Int) * p2)) + (0 : Int))).toNat)) + (f_p0 (((p1 + ((15 : Int) * v4)) + (0 : Int))).toNat)) < v3 then sh_X9_allowed_L7 F n_p0 p1 p2 c_t_high c_t_wide f_p0 k N (((f_p0 ((p1 + (240 : Int))).toNat) - (f_p0 (((p1 + ((15 : Int) * p2)) + (0 : Int))).toNat)) + (f_p0 (((p1 + ((15 : Int) * v4)) + (0 : Int))).toNat)) (v4 + (1 : Int)) else sh_X9_allowed_L7 F n_p0 p1 p2 c_t_high c_t_wide f_p0 k N v3 (v4 + (1 : Int))))))))) else k v3 v4)))
def sh_X9_allowed (F : Nat) (c_t_high : Int) (c_t_wide : Int) (f_p0 : Nat → Int) (n_p0 : Nat) (p1 : Int) (p2 : Int) : Option (Int) := sh_X9_allowed_L7 F n_p0 p1 p2 c_t_high c_t_wide f_p0 (fun (v17 : Int) (v18 : Int) => some (v17)) F (1000000000 : Int) (0 : Int)
theorem mX9_allowed_k106 : Cond.constant RX9 106 (1000000000) ∈ wsX9_allowed := List.mem_of_getElem? (i := 1) rfl
set_option maxRecDepth 100000 in
set_option maxHeartbeats 4000000 in
theorem zl_X9_allowed_L7 {p : Program} {l : Launch} {e : Env} {s : State} {m : MethodId} {args : Array Value} {below : List Frame} {meth : Method} {c : Code} {A : Nat → Prop} {D : va_G} {J : Nat → ClassId} {F : Nat} {n_p0 : Nat} {p1 : Int} {p2 : Int} {c_t_high : Int} {c_t_wide : Int} {f_p0 : Nat → Int} {a_t : Nat} {c_t_refusal : Int} {a_t_now : Nat} {a_t_trial : Nat} {a_t_diary : Nat} {c_t_acts : Int} {c_t_next : Int} {a_t_kept : Nat} {a_t_isKept : Nat} {a_t_script : Nat} {c_t_scriptSize : Int} {c_t_spot : Int} {a_t_read : Nat} {c_t_readHigh : Int} {c_t_readWide : Int} {a_t_wanted : Nat} {a_t_level : Nat} {a_t_chosen : Nat} {a_t_best : Nat} {a_p0 : Nat} {res : Int} (hn_p0 : n_p0 ≤ 2147483647) {k : Int → Int → Option (Int)} (hk : ∀ (v3' : Int) (v4' : Int), k v3' v4' = some res → Z p l e ({ frames := 1, cells := 0, slots := 0, locals := 24 } : Room) s m args below meth c (MQ below (zQ D J A (fun rv w9 => rv = some (.int (zi res)) ∧ w9 = [(a_t, .inr (8, [.int (zi c_t_refusal), .int (zi c_t_high), .int (zi c_t_wide), .ref a_t_now, .ref a_t_trial, .ref a_t_diary, .int (zi c_t_acts), .int (zi c_t_next), .ref a_t_kept, .ref a_t_isKept, .ref a_t_script, .int (zi c_t_scriptSize), .int (zi c_t_spot), .ref a_t_read, .int (zi c_t_readHigh), .int (zi c_t_readWide), .ref a_t_wanted, .ref a_t_level, .ref a_t_chosen, .ref a_t_best])), (a_p0, zI J n_p0 f_p0)])) args s 0 0 A) cX9_allowed 7 wsX9_allowed RX9 D J A (some .int) (yX9_allowed.name, []) 0 0 [(a_t, .inr (8, [.int (zi c_t_refusal), .int (zi c_t_high), .int (zi c_t_wide), .ref a_t_now, .ref a_t_trial, .ref a_t_diary, .int (zi c_t_acts), .int (zi c_t_next), .ref a_t_kept, .ref a_t_isKept, .ref a_t_script, .int (zi c_t_scriptSize), .int (zi c_t_spot), .ref a_t_read, .int (zi c_t_readHigh), .int (zi c_t_readWide), .ref a_t_wanted, .ref a_t_level, .ref a_t_chosen, .ref a_t_best])), (a_p0, zI J n_p0 f_p0)] [(4, .int (zi v3'))] 80 []) : ∀ (N : Nat) (v3 : Int) (v4 : Int), sh_X9_allowed_L7 F n_p0 p1 p2 c_t_high c_t_wide f_p0 k N v3 v4 = some res → Z p l e ({ frames := 1, cells := 0, slots := 0, locals := 24 } : Room) s m args below meth c (MQ below (zQ D J A (fun rv w9 => rv = some (.int (zi res)) ∧ w9 = [(a_t, .inr (8, [.int (zi c_t_refusal), .int (zi c_t_high), .int (zi c_t_wide), .ref a_t_now, .ref a_t_trial, .ref a_t_diary, .int (zi c_t_acts), .int (zi c_t_next), .ref a_t_kept, .ref a_t_isKept, .ref a_t_script, .int (zi c_t_scriptSize), .int (zi c_t_spot), .ref a_t_read, .int (zi c_t_readHigh), .int (zi c_t_readWide), .ref a_t_wanted, .ref a_t_level, .ref a_t_chosen, .ref a_t_best])), (a_p0, zI J n_p0 f_p0)])) args s 0 0 A) cX9_allowed 7 wsX9_allowed RX9 D J A (some .int) (yX9_allowed.name, []) 0 0 [(a_t, .inr (8, [.int (zi c_t_refusal), .int (zi c_t_high), .int (zi c_t_wide), .ref a_t_now, .ref a_t_trial, .ref a_t_diary, .int (zi c_t_acts), .int (zi c_t_next), .ref a_t_kept, .ref a_t_isKept, .ref a_t_script, .int (zi c_t_scriptSize), .int (zi c_t_spot), .ref a_t_read, .int (zi c_t_readHigh), .int (zi c_t_readWide), .ref a_t_wanted, .ref a_t_level, .ref a_t_chosen, .ref a_t_best])), (a_p0, zI J n_p0 f_p0)] [(0, .ref a_t), (1, .ref a_p0), (2, .int (zi p1)), (3, .int (zi p2)), (4, .int (zi v3)), (5, .int (zi v4))] 7 [] := by
  intro N
  induction N with
  | zero =>
    intro v3 v4 hsh
    exact absurd hsh (by simp [sh_X9_allowed_L7])
  | succ N ih =>
    intro v3 v4 hsh
    rw [sh_X9_allowed_L7] at hsh
    refine z_iload (pc' := 9) 5 dX9_allowed_7 rfl rfl ?_
    refine z_aload_n (pc' := 10) 0 dX9_allowed_9 rfl rfl rfl ?_
    obtain ⟨q5, h6, hsh⟩ := zbind hsh
    refine z_callV (pc' := 13) (C := RX9) (As := []) (rest := [.int (zi v4)]) (wr := [(a_p0, zI J n_p0 f_p0)]) 0 (zc_X9_points l D J F (a_t := a_t) (a_t_now := a_t_now) (a_t_trial := a_t_trial) (a_t_diary := a_t_diary) (a_t_kept := a_t_kept) (a_t_isKept := a_t_isKept) (a_t_script := a_t_script) (a_t_read := a_t_read) (a_t_wanted := a_t_wanted) (a_t_level := a_t_level) (a_t_chosen := a_t_chosen) (a_t_best := a_t_best) (c_t_refusal := c_t_refusal) (c_t_high := c_t_high) (c_t_wide := c_t_wide) (c_t_acts := c_t_acts) (c_t_next := c_t_next) (c_t_scriptSize := c_t_scriptSize) (c_t_spot := c_t_spot) (c_t_readHigh := c_t_readHigh) (c_t_readWide := c_t_readWide)  q5 h6) dX9_allowed_10 gX9_allowed_X9_points rfl rfl rfl (by decide +kernel) ⟨Nat.le_of_ble_eq_true rfl, Nat.le_of_ble_eq_true rfl⟩ ⟨Nat.le_of_ble_eq_true rfl, Nat.le_of_ble_eq_true rfl⟩ (z_spl_of [0, 1] rfl rfl) rfl rfl rfl rfl (Nat.le_of_ble_eq_true rfl) rfl (fun rv w9 hq => ?_)
    obtain ⟨rfl, rfl⟩ := hq
    refine z_ws [(a_p0, zI J n_p0 f_p0), (a_t, .inr (8, [.int (zi c_t_refusal), .int (zi c_t_high), .int (zi c_t_wide), .ref a_t_now, .ref a_t_trial, .ref a_t_diary, .int (zi c_t_acts), .int (zi c_t_next), .ref a_t_kept, .ref a_t_isKept, .ref a_t_script, .int (zi c_t_scriptSize), .int (zi c_t_spot), .ref a_t_read, .int (zi c_t_readHigh), .int (zi c_t_readWide), .ref a_t_wanted, .ref a_t_level, .ref a_t_chosen, .ref a_t_best]))] rfl ?_
    have g7 := zkr_p hsh
    replace hsh := zkr_k hsh
    have g8 := zkr_p hsh
    replace hsh := zkr_k hsh
    refine z_icmp_ge (pc' := 16) (tgt := 80) dX9_allowed_13 (by decide) g7 g8 rfl (fun q => ?_) (fun q => ?_)
    · replace hsh := zif_f q hsh
      refine z_perm [(a_t, .inr (8, [.int (zi c_t_refusal), .int (zi c_t_high), .int (zi c_t_wide), .ref a_t_now, .ref a_t_trial, .ref a_t_diary, .int (zi c_t_acts), .int (zi c_t_next), .ref a_t_kept, .ref a_t_isKept, .ref a_t_script, .int (zi c_t_scriptSize), .int (zi c_t_spot), .ref a_t_read, .int (zi c_t_readHigh), .int (zi c_t_readWide), .ref a_t_wanted, .ref a_t_level, .ref a_t_chosen, .ref a_t_best])), (a_p0, zI J n_p0 f_p0)] [(4, .int (zi v3))] [1, 0] [4] rfl rfl rfl ?_
      exact hk _ _ hsh
    · replace hsh := zif_t q hsh
      refine z_aload_n (pc' := 17) 1 dX9_allowed_16 rfl rfl rfl ?_
      refine z_iload_n (pc' := 18) 2 dX9_allowed_17 rfl rfl rfl ?_
      refine z_sipush (pc' := 21) dX9_allowed_18 (by decide) rfl ?_
      refine z_iadd (pc' := 22) dX9_allowed_21 rfl ?_
      have g9 := zkx_p hsh
      replace hsh := zkx_k hsh
      refine z_iaload (pc' := 23) 0 dX9_allowed_22 rfl hn_p0 g9 rfl ?_
      refine z_aload_n (pc' := 24) 1 dX9_allowed_23 rfl rfl rfl ?_
      refine z_iload_n (pc' := 25) 2 dX9_allowed_24 rfl rfl rfl ?_
      refine z_bipush (pc' := 27) dX9_allowed_25 (by decide) rfl ?_
      refine z_iload_n (pc' := 28) 3 dX9_allowed_27 rfl rfl rfl ?_
      refine z_imul (pc' := 29) dX9_allowed_28 rfl ?_
      refine z_iadd (pc' := 30) dX9_allowed_29 rfl ?_
      refine z_iconst (pc' := 31) dX9_allowed_30 rfl ?_
      refine z_iadd (pc' := 32) dX9_allowed_31 rfl ?_
      have g10 := zkx_p hsh
      replace hsh := zkx_k hsh
      refine z_iaload (pc' := 33) 0 dX9_allowed_32 rfl hn_p0 g10 rfl ?_
      refine z_isub (pc' := 34) dX9_allowed_33 rfl ?_
      refine z_aload_n (pc' := 35) 1 dX9_allowed_34 rfl rfl rfl ?_
      refine z_iload_n (pc' := 36) 2 dX9_allowed_35 rfl rfl rfl ?_
      refine z_bipush (pc' := 38) dX9_allowed_36 (by decide) rfl ?_
      refine z_iload (pc' := 40) 5 dX9_allowed_38 rfl rfl ?_
      refine z_imul (pc' := 41) dX9_allowed_40 rfl ?_
      refine z_iadd (pc' := 42) dX9_allowed_41 rfl ?_
      refine z_iconst (pc' := 43) dX9_allowed_42 rfl ?_
      refine z_iadd (pc' := 44) dX9_allowed_43 rfl ?_
      have g11 := zkx_p hsh
      replace hsh := zkx_k hsh
      refine z_iaload (pc' := 45) 0 dX9_allowed_44 rfl hn_p0 g11 rfl ?_
      refine z_iadd (pc' := 46) dX9_allowed_45 rfl ?_
      refine z_istore (pc' := 48) [(6, .int (zi (((f_p0 ((p1 + (240 : Int))).toNat) - (f_p0 (((p1 + ((15 : Int) * p2)) + (0 : Int))).toNat)) + (f_p0 (((p1 + ((15 : Int) * v4)) + (0 : Int))).toNat)))), (0, .ref a_t), (1, .ref a_p0), (2, .int (zi p1)), (3, .int (zi p2)), (4, .int (zi v3)), (5, .int (zi v4))] dX9_allowed_46 (by decide) rfl rfl ?_
      refine z_aload_n (pc' := 49) 1 dX9_allowed_48 rfl rfl rfl ?_
      refine z_iload_n (pc' := 50) 4 dX9_allowed_49 rfl rfl rfl ?_
      refine z_iload (pc' := 52) 6 dX9_allowed_50 rfl rfl ?_
      obtain ⟨q12, h13, hsh⟩ := zbind hsh
      refine z_callV (pc' := 55) (C := RX9) (As := [.int (zi p2), .int (zi v4)]) (rest := []) (wr := [(a_p0, zI J n_p0 f_p0)]) 2 (zc_X9_areBeside l D J F (a_t := a_t) (a_t_now := a_t_now) (a_t_trial := a_t_trial) (a_t_diary := a_t_diary) (a_t_kept := a_t_kept) (a_t_isKept := a_t_isKept) (a_t_script := a_t_script) (a_t_read := a_t_read) (a_t_wanted := a_t_wanted) (a_t_level := a_t_level) (a_t_chosen := a_t_chosen) (a_t_best := a_t_best) (c_t_refusal := c_t_refusal) (c_t_high := c_t_high) (c_t_wide := c_t_wide) (c_t_acts := c_t_acts) (c_t_next := c_t_next) (c_t_scriptSize := c_t_scriptSize) (c_t_spot := c_t_spot) (c_t_readHigh := c_t_readHigh) (c_t_readWide := c_t_readWide) (p0 := p2) (p1 := v4)  q12 h13) dX9_allowed_52 gX9_allowed_X9_areBeside rfl rfl rfl (by decide +kernel) ⟨Nat.le_of_ble_eq_true rfl, Nat.le_of_ble_eq_true rfl⟩ ⟨Nat.le_of_ble_eq_true rfl, Nat.le_of_ble_eq_true rfl⟩ (z_spl_of [1, 0] rfl rfl) rfl rfl rfl rfl (Nat.le_of_ble_eq_true rfl) rfl (fun rv w9 hq => ?_)
      obtain ⟨rfl, rfl⟩ := hq
      refine z_ws [(a_p0, zI J n_p0 f_p0), (a_t, .inr (8, [.int (zi c_t_refusal), .int (zi c_t_high), .int (zi c_t_wide), .ref a_t_now, .ref a_t_trial, .ref a_t_diary, .int (zi c_t_acts), .int (zi c_t_next), .ref a_t_kept, .ref a_t_isKept, .ref a_t_script, .int (zi c_t_scriptSize), .int (zi c_t_spot), .ref a_t_read, .int (zi c_t_readHigh), .int (zi c_t_readWide), .ref a_t_wanted, .ref a_t_level, .ref a_t_chosen, .ref a_t_best]))] rfl ?_
      have g14 := zkr_p hsh
      replace hsh := zkr_k hsh
      refine z_if_eq (pc' := 58) (tgt := 70) dX9_allowed_55 (by decide) g14 rfl (fun q => ?_) (fun q => ?_)
      · replace hsh := zif_t q hsh
        refine z_iload (pc' := 72) 5 dX9_allowed_70 rfl rfl ?_
        refine z_istore (pc' := 74) [(4, .int (zi v3)), (6, .int (zi (((f_p0 ((p1 + (240 : Int))).toNat) - (f_p0 (((p1 + ((15 : Int) * p2)) + (0 : Int))).toNat)) + (f_p0 (((p1 + ((15 : Int) * v4)) + (0 : Int))).toNat)))), (0, .ref a_t), (1, .ref a_p0), (2, .int (zi p1)), (3, .int (zi p2)), (5, .int (zi v4))] dX9_allowed_72 (by decide) rfl rfl ?_
        refine z_iinc (pc' := 77) [(5, .int (zi (v4 + (1 : Int)))), (4, .int (zi v3)), (6, .int (zi (((f_p0 ((p1 + (240 : Int))).toNat) - (f_p0 (((p1 + ((15 : Int) * p2)) + (0 : Int))).toNat)) + (f_p0 (((p1 + ((15 : Int) * v4)) + (0 : Int))).toNat)))), (0, .ref a_t), (1, .ref a_p0), (2, .int (zi p1)), (3, .int (zi p2))] 6 dX9_allowed_74 rfl (by decide) rfl rfl ?_
        refine z_goto (tgt := 7) dX9_allowed_77 (by decide) ?_
        refine z_perm [(a_t, .inr (8, [.int (zi c_t_refusal), .int (zi c_t_high), .int (zi c_t_wide), .ref a_t_now, .ref a_t_trial, .ref a_t_diary, .int (zi c_t_acts), .int (zi c_t_next), .ref a_t_kept, .ref a_t_isKept, .ref a_t_script, .int (zi c_t_scriptSize), .int (zi c_t_spot), .ref a_t_read, .int (zi c_t_readHigh), .int (zi c_t_readWide), .ref a_t_wanted, .ref a_t_level, .ref a_t_chosen, .ref a_t_best])), (a_p0, zI J n_p0 f_p0)] [(0, .ref a_t), (1, .ref a_p0), (2, .int (zi p1)), (3, .int (zi p2)), (4, .int (zi v3)), (5, .int (zi (v4 + (1 : Int))))] [1, 0] [3, 4, 5, 6, 1, 0] rfl rfl rfl ?_
        exact ih _ _ hsh
      · replace hsh := zif_f q hsh
        refine z_iload (pc' := 60) 0 dX9_allowed_58 rfl rfl ?_
        refine z_iload (pc' := 62) 5 dX9_allowed_60 rfl rfl ?_
        have g15 := zkr_p hsh
        replace hsh := zkr_k hsh
        have g16 := zkr_p hsh
        replace hsh := zkr_k hsh
        refine z_icmp_ge (pc' := 65) (tgt := 70) dX9_allowed_62 (by decide) g15 g16 rfl (fun q => ?_) (fun q => ?_)
        · replace hsh := zif_f q hsh
          refine z_iload (pc' := 72) 5 dX9_allowed_70 rfl rfl ?_
          refine z_istore (pc' := 74) [(4, .int (zi v3)), (6, .int (zi (((f_p0 ((p1 + (240 : Int))).toNat) - (f_p0 (((p1 + ((15 : Int) * p2)) + (0 : Int))).toNat)) + (f_p0 (((p1 + ((15 : Int) * v4)) + (0 : Int))).toNat)))), (0, .ref a_t), (1, .ref a_p0), (2, .int (zi p1)), (3, .int (zi p2)), (5, .int (zi v4))] dX9_allowed_72 (by decide) rfl rfl ?_
          refine z_iinc (pc' := 77) [(5, .int (zi (v4 + (1 : Int)))), (4, .int (zi v3)), (6, .int (zi (((f_p0 ((p1 + (240 : Int))).toNat) - (f_p0 (((p1 + ((15 : Int) * p2)) + (0 : Int))).toNat)) + (f_p0 (((p1 + ((15 : Int) * v4)) + (0 : Int))).toNat)))), (0, .ref a_t), (1, .ref a_p0), (2, .int (zi p1)), (3, .int (zi p2))] 6 dX9_allowed_74 rfl (by decide) rfl rfl ?_
          refine z_goto (tgt := 7) dX9_allowed_77 (by decide) ?_
          refine z_perm [(a_t, .inr (8, [.int (zi c_t_refusal), .int (zi c_t_high), .int (zi c_t_wide), .ref a_t_now, .ref a_t_trial, .ref a_t_diary, .int (zi c_t_acts), .int (zi c_t_next), .ref a_t_kept, .ref a_t_isKept, .ref a_t_script, .int (zi c_t_scriptSize), .int (zi c_t_spot), .ref a_t_read, .int (zi c_t_readHigh), .int (zi c_t_readWide), .ref a_t_wanted, .ref a_t_level, .ref a_t_chosen, .ref a_t_best])), (a_p0, zI J n_p0 f_p0)] [(0, .ref a_t), (1, .ref a_p0), (2, .int (zi p1)), (3, .int (zi p2)), (4, .int (zi v3)), (5, .int (zi (v4 + (1 : Int))))] [1, 0] [3, 4, 5, 6, 1, 0] rfl rfl rfl ?_
          exact ih _ _ hsh
        · replace hsh := zif_t q hsh
          refine z_iload (pc' := 67) 0 dX9_allowed_65 rfl rfl ?_
          refine z_goto (tgt := 72) dX9_allowed_67 (by decide) ?_
          refine z_istore (pc' := 74) [(4, .int (zi (((f_p0 ((p1 + (240 : Int))).toNat) - (f_p0 (((p1 + ((15 : Int) * p2)) + (0 : Int))).toNat)) + (f_p0 (((p1 + ((15 : Int) * v4)) + (0 : Int))).toNat)))), (6, .int (zi (((f_p0 ((p1 + (240 : Int))).toNat) - (f_p0 (((p1 + ((15 : Int) * p2)) + (0 : Int))).toNat)) + (f_p0 (((p1 + ((15 : Int) * v4)) + (0 : Int))).toNat)))), (0, .ref a_t), (1, .ref a_p0), (2, .int (zi p1)), (3, .int (zi p2)), (5, .int (zi v4))] dX9_allowed_72 (by decide) rfl rfl ?_
          refine z_iinc (pc' := 77) [(5, .int (zi (v4 + (1 : Int)))), (4, .int (zi (((f_p0 ((p1 + (240 : Int))).toNat) - (f_p0 (((p1 + ((15 : Int) * p2)) + (0 : Int))).toNat)) + (f_p0 (((p1 + ((15 : Int) * v4)) + (0 : Int))).toNat)))), (6, .int (zi (((f_p0 ((p1 + (240 : Int))).toNat) - (f_p0 (((p1 + ((15 : Int) * p2)) + (0 : Int))).toNat)) + (f_p0 (((p1 + ((15 : Int) * v4)) + (0 : Int))).toNat)))), (0, .ref a_t), (1, .ref a_p0), (2, .int (zi p1)), (3, .int (zi p2))] 6 dX9_allowed_74 rfl (by decide) rfl rfl ?_
          refine z_goto (tgt := 7) dX9_allowed_77 (by decide) ?_
          refine z_perm [(a_t, .inr (8, [.int (zi c_t_refusal), .int (zi c_t_high), .int (zi c_t_wide), .ref a_t_now, .ref a_t_trial, .ref a_t_diary, .int (zi c_t_acts), .int (zi c_t_next), .ref a_t_kept, .ref a_t_isKept, .ref a_t_script, .int (zi c_t_scriptSize), .int (zi c_t_spot), .ref a_t_read, .int (zi c_t_readHigh), .int (zi c_t_readWide), .ref a_t_wanted, .ref a_t_level, .ref a_t_chosen, .ref a_t_best])), (a_p0, zI J n_p0 f_p0)] [(0, .ref a_t), (1, .ref a_p0), (2, .int (zi p1)), (3, .int (zi p2)), (4, .int (zi (((f_p0 ((p1 + (240 : Int))).toNat) - (f_p0 (((p1 + ((15 : Int) * p2)) + (0 : Int))).toNat)) + (f_p0 (((p1 + ((15 : Int) * v4)) + (0 : Int))).toNat)))), (5, .int (zi (v4 + (1 : Int))))] [1, 0] [3, 4, 5, 6, 1, 0] rfl rfl rfl ?_
          exact ih _ _ hsh
set_option maxRecDepth 100000 in
set_option maxHeartbeats 4000000 in
theorem zc_X9_allowed (l : Launch) (D : va_G) (J : Nat → ClassId) (F : Nat) (a_t : Nat) (a_p0 : Nat) (a_t_now : Nat) (a_t_trial : Nat) (a_t_diary : Nat) (a_t_kept : Nat) (a_t_isKept : Nat) (a_t_script : Nat) (a_t_read : Nat) (a_t_wanted : Nat) (a_t_level : Nat) (a_t_chosen : Nat) (a_t_best : Nat) (c_t_refusal : Int) (c_t_high : Int) (c_t_wide : Int) (c_t_acts : Int) (c_t_next : Int) (c_t_scriptSize : Int) (c_t_spot : Int) (c_t_readHigh : Int) (c_t_readWide : Int) (f_p0 : Nat → Int) (n_p0 : Nat) (p1 : Int) (p2 : Int) (hn_p0 : n_p0 ≤ 2147483647) (res : Int) (hsh : sh_X9_allowed F c_t_high c_t_wide f_p0 n_p0 p1 p2 = some res) : ZM l D J yX9_allowed wsX9_allowed ({ frames := 1, cells := 0, slots := 0, locals := 24 } : Room) 0 0 [.ref a_t, .ref a_p0, .int (zi p1), .int (zi p2)] [(a_t, .inr (8, [.int (zi c_t_refusal), .int (zi c_t_high), .int (zi c_t_wide), .ref a_t_now, .ref a_t_trial, .ref a_t_diary, .int (zi c_t_acts), .int (zi c_t_next), .ref a_t_kept, .ref a_t_isKept, .ref a_t_script, .int (zi c_t_scriptSize), .int (zi c_t_spot), .ref a_t_read, .int (zi c_t_readHigh), .int (zi c_t_readWide), .ref a_t_wanted, .ref a_t_level, .ref a_t_chosen, .ref a_t_best])), (a_p0, zI J n_p0 f_p0)] (fun rv w9 => rv = some (.int (zi res)) ∧ w9 = [(a_t, .inr (8, [.int (zi c_t_refusal), .int (zi c_t_high), .int (zi c_t_wide), .ref a_t_now, .ref a_t_trial, .ref a_t_diary, .int (zi c_t_acts), .int (zi c_t_next), .ref a_t_kept, .ref a_t_isKept, .ref a_t_script, .int (zi c_t_scriptSize), .int (zi c_t_spot), .ref a_t_read, .int (zi c_t_readHigh), .int (zi c_t_readWide), .ref a_t_wanted, .ref a_t_level, .ref a_t_chosen, .ref a_t_best])), (a_p0, zI J n_p0 f_p0)]) := by
  refine z_ofZ (cc := cX9_allowed) (maxL := 7) (ret := (some .int)) 0 0 (by decide) rfl (Nat.le_of_ble_eq_true rfl) [(0, .ref a_t), (1, .ref a_p0), (2, .int (zi p1)), (3, .int (zi p2))] rfl ?_
  intro p e s m args below meth c A
  unfold sh_X9_allowed at hsh
  refine z_ldc (pc' := 2) (1000000000 : Int) dX9_allowed_0 mX9_allowed_k106 (by decide) rfl ?_
  refine z_istore (pc' := 4) [(4, .int (zi (1000000000 : Int))), (0, .ref a_t), (1, .ref a_p0), (2, .int (zi p1)), (3, .int (zi p2))] dX9_allowed_2 (by decide) rfl rfl ?_
  refine z_iconst (pc' := 5) dX9_allowed_4 rfl ?_
  refine z_istore (pc' := 7) [(5, .int (zi (0 : Int))), (4, .int (zi (1000000000 : Int))), (0, .ref a_t), (1, .ref a_p0), (2, .int (zi p1)), (3, .int (zi p2))] dX9_allowed_5 (by decide) rfl rfl ?_
  refine z_perm [(a_t, .inr (8, [.int (zi c_t_refusal), .int (zi c_t_high), .int (zi c_t_wide), .ref a_t_now, .ref a_t_trial, .ref a_t_diary, .int (zi c_t_acts), .int (zi c_t_next), .ref a_t_kept, .ref a_t_isKept, .ref a_t_script, .int (zi c_t_scriptSize), .int (zi c_t_spot), .ref a_t_read, .int (zi c_t_readHigh), .int (zi c_t_readWide), .ref a_t_wanted, .ref a_t_level, .ref a_t_chosen, .ref a_t_best])), (a_p0, zI J n_p0 f_p0)] [(0, .ref a_t), (1, .ref a_p0), (2, .int (zi p1)), (3, .int (zi p2)), (4, .int (zi (1000000000 : Int))), (5, .int (zi (0 : Int)))] [0, 1] [2, 3, 4, 5, 1, 0] rfl rfl rfl ?_
  refine zl_X9_allowed_L7 (F := F) (hn_p0 := hn_p0) (hk := fun v17 v18 hsh => ?_) _ _ _ hsh
  refine z_iload (pc' := 82) 0 dX9_allowed_80 rfl rfl ?_
  cases hsh
  exact z_iret rfl dX9_allowed_82 ⟨rfl, rfl⟩
def sh_X9_slackOf (F : Nat) (c_t_high : Int) (c_t_wide : Int) (f_p0 : Nat → Int) (n_p0 : Nat) (p1 : Int) (p2 : Int) : Option (Int) := zkx ((p1 + ((15 : Int) * p2)) + (1 : Int)) n_p0 (zkr (f_p0 (((p1 + ((15 : Int) * p2)) + (1 : Int))).toNat) (if (f_p0 (((p1 + ((15 : Int) * p2)) + (1 : Int))).toNat) = (1 : Int) then some ((0 : Int)) else (sh_X9_remainingOf F f_p0 n_p0 p1 p2).bind (fun (q3 : Int) => (sh_X9_allowed F c_t_high c_t_wide f_p0 n_p0 p1 p2).bind (fun (q5 : Int) => zkr q5 (zkr q3 (if q5 < q3 then some (q5) else some (q3)))))))
set_option maxRecDepth 100000 in
set_option maxHeartbeats 4000000 in
theorem zc_X9_slackOf (l : Launch) (D : va_G) (J : Nat → ClassId) (F : Nat) (a_t : Nat) (a_p0 : Nat) (a_t_now : Nat) (a_t_trial : Nat) (a_t_diary : Nat) (a_t_kept : Nat) (a_t_isKept : Nat) (a_t_script : Nat) (a_t_read : Nat) (a_t_wanted : Nat) (a_t_level : Nat) (a_t_chosen : Nat) (a_t_best : Nat) (c_t_refusal : Int) (c_t_high : Int) (c_t_wide : Int) (c_t_acts : Int) (c_t_next : Int) (c_t_scriptSize : Int) (c_t_spot : Int) (c_t_readHigh : Int) (c_t_readWide : Int) (f_p0 : Nat → Int) (n_p0 : Nat) (p1 : Int) (p2 : Int) (hn_p0 : n_p0 ≤ 2147483647) (res : Int) (hsh : sh_X9_slackOf F c_t_high c_t_wide f_p0 n_p0 p1 p2 = some res) : ZM l D J yX9_slackOf wsX9_slackOf ({ frames := 2, cells := 0, slots := 0, locals := 50 } : Room) 0 0 [.ref a_t, .ref a_p0, .int (zi p1), .int (zi p2)] [(a_t, .inr (8, [.int (zi c_t_refusal), .int (zi c_t_high), .int (zi c_t_wide), .ref a_t_now, .ref a_t_trial, .ref a_t_diary, .int (zi c_t_acts), .int (zi c_t_next), .ref a_t_kept, .ref a_t_isKept, .ref a_t_script, .int (zi c_t_scriptSize), .int (zi c_t_spot), .ref a_t_read, .int (zi c_t_readHigh), .int (zi c_t_readWide), .ref a_t_wanted, .ref a_t_level, .ref a_t_chosen, .ref a_t_best])), (a_p0, zI J n_p0 f_p0)] (fun rv w9 => rv = some (.int (zi res)) ∧ w9 = [(a_t, .inr (8, [.int (zi c_t_refusal), .int (zi c_t_high), .int (zi c_t_wide), .ref a_t_now, .ref a_t_trial, .ref a_t_diary, .int (zi c_t_acts), .int (zi c_t_next), .ref a_t_kept, .ref a_t_isKept, .ref a_t_script, .int (zi c_t_scriptSize), .int (zi c_t_spot), .ref a_t_read, .int (zi c_t_readHigh), .int (zi c_t_readWide), .ref a_t_wanted, .ref a_t_level, .ref a_t_chosen, .ref a_t_best])), (a_p0, zI J n_p0 f_p0)]) := by
  refine z_ofZ (cc := cX9_slackOf) (maxL := 6) (ret := (some .int)) 0 0 (by decide) rfl (Nat.le_of_ble_eq_true rfl) [(0, .ref a_t), (1, .ref a_p0), (2, .int (zi p1)), (3, .int (zi p2))] rfl ?_
  intro p e s m args below meth c A
  unfold sh_X9_slackOf at hsh
  refine z_aload_n (pc' := 1) 1 dX9_slackOf_0 rfl rfl rfl ?_
  refine z_iload_n (pc' := 2) 2 dX9_slackOf_1 rfl rfl rfl ?_
  refine z_bipush (pc' := 4) dX9_slackOf_2 (by decide) rfl ?_
  refine z_iload_n (pc' := 5) 3 dX9_slackOf_4 rfl rfl rfl ?_
  refine z_imul (pc' := 6) dX9_slackOf_5 rfl ?_
  refine z_iadd (pc' := 7) dX9_slackOf_6 rfl ?_
  refine z_iconst (pc' := 8) dX9_slackOf_7 rfl ?_
  refine z_iadd (pc' := 9) dX9_slackOf_8 rfl ?_
  have g1 := zkx_p hsh
  replace hsh := zkx_k hsh
  refine z_iaload (pc' := 10) 1 dX9_slackOf_9 rfl hn_p0 g1 rfl ?_
  refine z_iconst (pc' := 11) dX9_slackOf_10 rfl ?_
  have g2 := zkr_p hsh
  replace hsh := zkr_k hsh
  refine z_icmp_ne (pc' := 14) (tgt := 16) dX9_slackOf_11 (by decide) g2 (by decide) rfl (fun q => ?_) (fun q => ?_)
  · replace hsh := zif_f q hsh
    refine z_aload_n (pc' := 17) 1 dX9_slackOf_16 rfl rfl rfl ?_
    refine z_iload_n (pc' := 18) 2 dX9_slackOf_17 rfl rfl rfl ?_
    refine z_iload_n (pc' := 19) 3 dX9_slackOf_18 rfl rfl rfl ?_
    obtain ⟨q3, h4, hsh⟩ := zbind hsh
    refine z_callS (pc' := 22) (As := [.ref a_p0, .int (zi p1), .int (zi p2)]) (rest := []) (wr := [(a_t, .inr (8, [.int (zi c_t_refusal), .int (zi c_t_high), .int (zi c_t_wide), .ref a_t_now, .ref a_t_trial, .ref a_t_diary, .int (zi c_t_acts), .int (zi c_t_next), .ref a_t_kept, .ref a_t_isKept, .ref a_t_script, .int (zi c_t_scriptSize), .int (zi c_t_spot), .ref a_t_read, .int (zi c_t_readHigh), .int (zi c_t_readWide), .ref a_t_wanted, .ref a_t_level, .ref a_t_chosen, .ref a_t_best]))]) 3 (zc_X9_remainingOf l D J F (a_p0 := a_p0) (f_p0 := f_p0) (n_p0 := n_p0) (p1 := p1) (p2 := p2) (hn_p0 := hn_p0) q3 h4) dX9_slackOf_19 gX9_slackOf_X9_remainingOf rfl rfl rfl (by decide +kernel) ⟨Nat.le_of_ble_eq_true rfl, Nat.le_of_ble_eq_true rfl⟩ ⟨Nat.le_of_ble_eq_true rfl, Nat.le_of_ble_eq_true rfl⟩ (z_spl_of [1, 0] rfl rfl) rfl rfl (Nat.le_of_ble_eq_true rfl) rfl (fun rv w9 hq => ?_)
    obtain ⟨rfl, rfl⟩ := hq
    refine z_ws [(a_t, .inr (8, [.int (zi c_t_refusal), .int (zi c_t_high), .int (zi c_t_wide), .ref a_t_now, .ref a_t_trial, .ref a_t_diary, .int (zi c_t_acts), .int (zi c_t_next), .ref a_t_kept, .ref a_t_isKept, .ref a_t_script, .int (zi c_t_scriptSize), .int (zi c_t_spot), .ref a_t_read, .int (zi c_t_readHigh), .int (zi c_t_readWide), .ref a_t_wanted, .ref a_t_level, .ref a_t_chosen, .ref a_t_best])), (a_p0, zI J n_p0 f_p0)] rfl ?_
    refine z_istore (pc' := 24) [(4, .int (zi q3)), (0, .ref a_t), (1, .ref a_p0), (2, .int (zi p1)), (3, .int (zi p2))] dX9_slackOf_22 (by decide) rfl rfl ?_
    refine z_aload_n (pc' := 25) 1 dX9_slackOf_24 rfl rfl rfl ?_
    refine z_aload_n (pc' := 26) 2 dX9_slackOf_25 rfl rfl rfl ?_
    refine z_iload_n (pc' := 27) 3 dX9_slackOf_26 rfl rfl rfl ?_
    refine z_iload_n (pc' := 28) 4 dX9_slackOf_27 rfl rfl rfl ?_
    obtain ⟨q5, h6, hsh⟩ := zbind hsh
    refine z_callV (pc' := 31) (C := RX9) (As := [.ref a_p0, .int (zi p1), .int (zi p2)]) (rest := []) (wr := []) 3 (zc_X9_allowed l D J F (a_t := a_t) (a_p0 := a_p0) (a_t_now := a_t_now) (a_t_trial := a_t_trial) (a_t_diary := a_t_diary) (a_t_kept := a_t_kept) (a_t_isKept := a_t_isKept) (a_t_script := a_t_script) (a_t_read := a_t_read) (a_t_wanted := a_t_wanted) (a_t_level := a_t_level) (a_t_chosen := a_t_chosen) (a_t_best := a_t_best) (c_t_refusal := c_t_refusal) (c_t_high := c_t_high) (c_t_wide := c_t_wide) (c_t_acts := c_t_acts) (c_t_next := c_t_next) (c_t_scriptSize := c_t_scriptSize) (c_t_spot := c_t_spot) (c_t_readHigh := c_t_readHigh) (c_t_readWide := c_t_readWide) (f_p0 := f_p0) (n_p0 := n_p0) (p1 := p1) (p2 := p2) (hn_p0 := hn_p0) q5 h6) dX9_slackOf_28 gX9_slackOf_X9_allowed rfl rfl rfl (by decide +kernel) ⟨Nat.le_of_ble_eq_true rfl, Nat.le_of_ble_eq_true rfl⟩ ⟨Nat.le_of_ble_eq_true rfl, Nat.le_of_ble_eq_true rfl⟩ (z_spl_of [0, 1] rfl rfl) rfl rfl rfl rfl (Nat.le_of_ble_eq_true rfl) rfl (fun rv w9 hq => ?_)
    obtain ⟨rfl, rfl⟩ := hq
    refine z_ws [(a_t, .inr (8, [.int (zi c_t_refusal), .int (zi c_t_high), .int (zi c_t_wide), .ref a_t_now, .ref a_t_trial, .ref a_t_diary, .int (zi c_t_acts), .int (zi c_t_next), .ref a_t_kept, .ref a_t_isKept, .ref a_t_script, .int (zi c_t_scriptSize), .int (zi c_t_spot), .ref a_t_read, .int (zi c_t_readHigh), .int (zi c_t_readWide), .ref a_t_wanted, .ref a_t_level, .ref a_t_chosen, .ref a_t_best])), (a_p0, zI J n_p0 f_p0)] rfl ?_
    refine z_istore (pc' := 33) [(5, .int (zi q5)), (4, .int (zi q3)), (0, .ref a_t), (1, .ref a_p0), (2, .int (zi p1)), (3, .int (zi p2))] dX9_slackOf_31 (by decide) rfl rfl ?_
    refine z_iload (pc' := 35) 0 dX9_slackOf_33 rfl rfl ?_
    refine z_iload (pc' := 37) 1 dX9_slackOf_35 rfl rfl ?_
    have g7 := zkr_p hsh
    replace hsh := zkr_k hsh
    have g8 := zkr_p hsh
    replace hsh := zkr_k hsh
    refine z_icmp_ge (pc' := 40) (tgt := 45) dX9_slackOf_37 (by decide) g7 g8 rfl (fun q => ?_) (fun q => ?_)
    · replace hsh := zif_f q hsh
      refine z_iload (pc' := 47) 1 dX9_slackOf_45 rfl rfl ?_
      cases hsh
      exact z_iret rfl dX9_slackOf_47 ⟨rfl, rfl⟩
    · replace hsh := zif_t q hsh
      refine z_iload (pc' := 42) 0 dX9_slackOf_40 rfl rfl ?_
      refine z_goto (tgt := 47) dX9_slackOf_42 (by decide) ?_
      cases hsh
      exact z_iret rfl dX9_slackOf_47 ⟨rfl, rfl⟩
  · replace hsh := zif_t q hsh
    refine z_iconst (pc' := 15) dX9_slackOf_14 rfl ?_
    cases hsh
    exact z_iret rfl dX9_slackOf_15 ⟨rfl, rfl⟩
def sh_X9_isReadyIn (F : Nat) (c_t_high : Int) (c_t_wide : Int) (f_p0 : Nat → Int) (n_p0 : Nat) (p1 : Int) (p2 : Int) : Option (Int) := (sh_X9_slackOf F c_t_high c_t_wide f_p0 n_p0 p1 p2).bind (fun (q1 : Int) => zkr q1 (if (0 : Int) < q1 then some ((1 : Int)) else some ((0 : Int))))
set_option maxRecDepth 100000 in
set_option maxHeartbeats 4000000 in
theorem zc_X9_isReadyIn (l : Launch) (D : va_G) (J : Nat → ClassId) (F : Nat) (a_t : Nat) (a_p0 : Nat) (a_t_now : Nat) (a_t_trial : Nat) (a_t_diary : Nat) (a_t_kept : Nat) (a_t_isKept : Nat) (a_t_script : Nat) (a_t_read : Nat) (a_t_wanted : Nat) (a_t_level : Nat) (a_t_chosen : Nat) (a_t_best : Nat) (c_t_refusal : Int) (c_t_high : Int) (c_t_wide : Int) (c_t_acts : Int) (c_t_next : Int) (c_t_scriptSize : Int) (c_t_spot : Int) (c_t_readHigh : Int) (c_t_readWide : Int) (f_p0 : Nat → Int) (n_p0 : Nat) (p1 : Int) (p2 : Int) (hn_p0 : n_p0 ≤ 2147483647) (res : Int) (hsh : sh_X9_isReadyIn F c_t_high c_t_wide f_p0 n_p0 p1 p2 = some res) : ZM l D J yX9_isReadyIn wsX9_isReadyIn ({ frames := 3, cells := 0, slots := 0, locals := 75 } : Room) 0 0 [.ref a_t, .ref a_p0, .int (zi p1), .int (zi p2)] [(a_t, .inr (8, [.int (zi c_t_refusal), .int (zi c_t_high), .int (zi c_t_wide), .ref a_t_now, .ref a_t_trial, .ref a_t_diary, .int (zi c_t_acts), .int (zi c_t_next), .ref a_t_kept, .ref a_t_isKept, .ref a_t_script, .int (zi c_t_scriptSize), .int (zi c_t_spot), .ref a_t_read, .int (zi c_t_readHigh), .int (zi c_t_readWide), .ref a_t_wanted, .ref a_t_level, .ref a_t_chosen, .ref a_t_best])), (a_p0, zI J n_p0 f_p0)] (fun rv w9 => rv = some (.int (zi res)) ∧ w9 = [(a_t, .inr (8, [.int (zi c_t_refusal), .int (zi c_t_high), .int (zi c_t_wide), .ref a_t_now, .ref a_t_trial, .ref a_t_diary, .int (zi c_t_acts), .int (zi c_t_next), .ref a_t_kept, .ref a_t_isKept, .ref a_t_script, .int (zi c_t_scriptSize), .int (zi c_t_spot), .ref a_t_read, .int (zi c_t_readHigh), .int (zi c_t_readWide), .ref a_t_wanted, .ref a_t_level, .ref a_t_chosen, .ref a_t_best])), (a_p0, zI J n_p0 f_p0)]) := by
  refine z_ofZ (cc := cX9_isReadyIn) (maxL := 4) (ret := (some .boolean)) 0 0 (by decide) rfl (Nat.le_of_ble_eq_true rfl) [(0, .ref a_t), (1, .ref a_p0), (2, .int (zi p1)), (3, .int (zi p2))] rfl ?_
  intro p e s m args below meth c A
  unfold sh_X9_isReadyIn at hsh
  refine z_aload_n (pc' := 1) 0 dX9_isReadyIn_0 rfl rfl rfl ?_
  refine z_aload_n (pc' := 2) 1 dX9_isReadyIn_1 rfl rfl rfl ?_
  refine z_iload_n (pc' := 3) 2 dX9_isReadyIn_2 rfl rfl rfl ?_
  refine z_iload_n (pc' := 4) 3 dX9_isReadyIn_3 rfl rfl rfl ?_
  obtain ⟨q1, h2, hsh⟩ := zbind hsh
  refine z_callV (pc' := 7) (C := RX9) (As := [.ref a_p0, .int (zi p1), .int (zi p2)]) (rest := []) (wr := []) 3 (zc_X9_slackOf l D J F (a_t := a_t) (a_p0 := a_p0) (a_t_now := a_t_now) (a_t_trial := a_t_trial) (a_t_diary := a_t_diary) (a_t_kept := a_t_kept) (a_t_isKept := a_t_isKept) (a_t_script := a_t_script) (a_t_read := a_t_read) (a_t_wanted := a_t_wanted) (a_t_level := a_t_level) (a_t_chosen := a_t_chosen) (a_t_best := a_t_best) (c_t_refusal := c_t_refusal) (c_t_high := c_t_high) (c_t_wide := c_t_wide) (c_t_acts := c_t_acts) (c_t_next := c_t_next) (c_t_scriptSize := c_t_scriptSize) (c_t_spot := c_t_spot) (c_t_readHigh := c_t_readHigh) (c_t_readWide := c_t_readWide) (f_p0 := f_p0) (n_p0 := n_p0) (p1 := p1) (p2 := p2) (hn_p0 := hn_p0) q1 h2) dX9_isReadyIn_4 gX9_isReadyIn_X9_slackOf rfl rfl rfl (by decide +kernel) ⟨Nat.le_of_ble_eq_true rfl, Nat.le_of_ble_eq_true rfl⟩ ⟨Nat.le_of_ble_eq_true rfl, Nat.le_of_ble_eq_true rfl⟩ (z_spl_of [0, 1] rfl rfl) rfl rfl rfl rfl (Nat.le_of_ble_eq_true rfl) rfl (fun rv w9 hq => ?_)
  obtain ⟨rfl, rfl⟩ := hq
  refine z_ws [(a_t, .inr (8, [.int (zi c_t_refusal), .int (zi c_t_high), .int (zi c_t_wide), .ref a_t_now, .ref a_t_trial, .ref a_t_diary, .int (zi c_t_acts), .int (zi c_t_next), .ref a_t_kept, .ref a_t_isKept, .ref a_t_script, .int (zi c_t_scriptSize), .int (zi c_t_spot), .ref a_t_read, .int (zi c_t_readHigh), .int (zi c_t_readWide), .ref a_t_wanted, .ref a_t_level, .ref a_t_chosen, .ref a_t_best])), (a_p0, zI J n_p0 f_p0)] rfl ?_
  have g3 := zkr_p hsh
  replace hsh := zkr_k hsh
  refine z_if_le (pc' := 10) (tgt := 14) dX9_isReadyIn_7 (by decide) g3 rfl (fun q => ?_) (fun q => ?_)
  · replace hsh := zif_f q hsh
    refine z_iconst (pc' := 15) dX9_isReadyIn_14 rfl ?_
    cases hsh
    exact z_zret rfl (by decide) dX9_isReadyIn_15 ⟨rfl, rfl⟩
  · replace hsh := zif_t q hsh
    refine z_iconst (pc' := 11) dX9_isReadyIn_10 rfl ?_
    refine z_goto (tgt := 15) dX9_isReadyIn_11 (by decide) ?_
    cases hsh
    exact z_zret rfl (by decide) dX9_isReadyIn_15 ⟨rfl, rfl⟩
def sh_X9_note (F : Nat) (c_t_acts : Int) (c_t_next : Int) (f_t_now : Nat → Int) (f_t_diary : Nat → Int) : Option (Int × Int × (Nat → Int)) := (sh_X9_copy F f_t_now f_t_diary 243 3402 (0 : Int) ((243 : Int) * c_t_next)).bind (fun (q1 : (Nat → Int)) => zkr (c_t_next + (1 : Int)) (zkr c_t_acts (if c_t_acts < (14 : Int) then some ((c_t_acts + (1 : Int)), (zmod (c_t_next + (1 : Int)) (14 : Int)), q1) else some ((14 : Int), (zmod (c_t_next + (1 : Int)) (14 : Int)), q1))))
theorem mX9_note_f16 : Cond.fieldLink RX9 16 (TX9 3).1 (TX9 3).2.1 (TX9 3).2.2.1 ∈ wsX9_note := List.mem_of_getElem? (i := 1) rfl
theorem iX9_note_X9 : ∀ w ∈ wsX90, w ∈ wsX9_note := fun _ h => (List.mem_cons_of_mem _ (List.mem_append_right _ h))
theorem mX9_note_f23 : Cond.fieldLink RX9 23 (TX9 5).1 (TX9 5).2.1 (TX9 5).2.2.1 ∈ wsX9_note := List.mem_of_getElem? (i := 2) rfl
theorem mX9_note_f62 : Cond.fieldLink RX9 62 (TX9 7).1 (TX9 7).2.1 (TX9 7).2.2.1 ∈ wsX9_note := List.mem_of_getElem? (i := 3) rfl
theorem mX9_note_f69 : Cond.fieldLink RX9 69 (TX9 6).1 (TX9 6).2.1 (TX9 6).2.2.1 ∈ wsX9_note := List.mem_of_getElem? (i := 4) rfl
set_option maxRecDepth 100000 in
set_option maxHeartbeats 4000000 in
theorem zc_X9_note (l : Launch) (D : va_G) (J : Nat → ClassId) (F : Nat) (a_t : Nat) (a_t_now : Nat) (a_t_trial : Nat) (a_t_diary : Nat) (a_t_kept : Nat) (a_t_isKept : Nat) (a_t_script : Nat) (a_t_read : Nat) (a_t_wanted : Nat) (a_t_level : Nat) (a_t_chosen : Nat) (a_t_best : Nat) (c_t_refusal : Int) (c_t_high : Int) (c_t_wide : Int) (c_t_acts : Int) (c_t_next : Int) (c_t_scriptSize : Int) (c_t_spot : Int) (c_t_readHigh : Int) (c_t_readWide : Int) (f_t_now : Nat → Int) (f_t_diary : Nat → Int) (res : Int × Int × (Nat → Int)) (hsh : sh_X9_note F c_t_acts c_t_next f_t_now f_t_diary = some res) : ZM l D J yX9_note wsX9_note ({ frames := 1, cells := 0, slots := 0, locals := 24 } : Room) 0 0 [.ref a_t] [(a_t, .inr (8, [.int (zi c_t_refusal), .int (zi c_t_high), .int (zi c_t_wide), .ref a_t_now, .ref a_t_trial, .ref a_t_diary, .int (zi c_t_acts), .int (zi c_t_next), .ref a_t_kept, .ref a_t_isKept, .ref a_t_script, .int (zi c_t_scriptSize), .int (zi c_t_spot), .ref a_t_read, .int (zi c_t_readHigh), .int (zi c_t_readWide), .ref a_t_wanted, .ref a_t_level, .ref a_t_chosen, .ref a_t_best])), (a_t_now, zI J 243 f_t_now), (a_t_diary, zI J 3402 f_t_diary)] (fun rv w9 => rv = none ∧ w9 = [(a_t, .inr (8, [.int (zi c_t_refusal), .int (zi c_t_high), .int (zi c_t_wide), .ref a_t_now, .ref a_t_trial, .ref a_t_diary, .int (zi res.1), .int (zi res.2.1), .ref a_t_kept, .ref a_t_isKept, .ref a_t_script, .int (zi c_t_scriptSize), .int (zi c_t_spot), .ref a_t_read, .int (zi c_t_readHigh), .int (zi c_t_readWide), .ref a_t_wanted, .ref a_t_level, .ref a_t_chosen, .ref a_t_best])), (a_t_now, zI J 243 f_t_now), (a_t_diary, zI J 3402 res.2.2)]) := by
  refine z_ofZ (cc := cX9_note) (maxL := 1) (ret := none) 0 0 (by decide) rfl (Nat.le_of_ble_eq_true rfl) [(0, .ref a_t)] rfl ?_
  intro p e s m args below meth c A
  unfold sh_X9_note at hsh
  refine z_aload_n (pc' := 1) 0 dX9_note_0 rfl rfl rfl ?_
  refine z_getfield (pc' := 4) (C := RX9) (T := TX9) (N := 20) 0 3 dX9_note_1 iX9_note_X9 rfl rfl (by decide) mX9_note_f16 rfl rfl ?_
  refine z_iconst (pc' := 5) dX9_note_4 rfl ?_
  refine z_aload_n (pc' := 6) 0 dX9_note_5 rfl rfl rfl ?_
  refine z_getfield (pc' := 9) (C := RX9) (T := TX9) (N := 20) 0 5 dX9_note_6 iX9_note_X9 rfl rfl (by decide) mX9_note_f23 rfl rfl ?_
  refine z_sipush (pc' := 12) dX9_note_9 (by decide) rfl ?_
  refine z_aload_n (pc' := 13) 0 dX9_note_12 rfl rfl rfl ?_
  refine z_getfield (pc' := 16) (C := RX9) (T := TX9) (N := 20) 0 7 dX9_note_13 iX9_note_X9 rfl rfl (by decide) mX9_note_f62 rfl rfl ?_
  refine z_imul (pc' := 17) dX9_note_16 rfl ?_
  obtain ⟨q1, h2, hsh⟩ := zbind hsh
  refine z_callS (pc' := 20) (As := [.ref a_t_now, .int (zi (0 : Int)), .ref a_t_diary, .int (zi ((243 : Int) * c_t_next))]) (rest := []) (wr := [(a_t, .inr (8, [.int (zi c_t_refusal), .int (zi c_t_high), .int (zi c_t_wide), .ref a_t_now, .ref a_t_trial, .ref a_t_diary, .int (zi c_t_acts), .int (zi c_t_next), .ref a_t_kept, .ref a_t_isKept, .ref a_t_script, .int (zi c_t_scriptSize), .int (zi c_t_spot), .ref a_t_read, .int (zi c_t_readHigh), .int (zi c_t_readWide), .ref a_t_wanted, .ref a_t_level, .ref a_t_chosen, .ref a_t_best]))]) 4 (zc_X9_copy l D J F (a_p0 := a_t_now) (a_p2 := a_t_diary) (f_p0 := f_t_now) (f_p2 := f_t_diary) (n_p0 := 243) (n_p2 := 3402) (p1 := (0 : Int)) (p3 := ((243 : Int) * c_t_next)) (hn_p0 := (by decide)) (hn_p2 := (by decide)) q1 h2) dX9_note_17 gX9_note_X9_copy rfl rfl rfl (by decide +kernel) ⟨Nat.le_of_ble_eq_true rfl, Nat.le_of_ble_eq_true rfl⟩ ⟨Nat.le_of_ble_eq_true rfl, Nat.le_of_ble_eq_true rfl⟩ (z_spl_of [1, 2, 0] rfl rfl) rfl rfl (Nat.le_of_ble_eq_true rfl) rfl (fun rv w9 hq => ?_)
  obtain ⟨rfl, rfl⟩ := hq
  refine z_ws [(a_t, .inr (8, [.int (zi c_t_refusal), .int (zi c_t_high), .int (zi c_t_wide), .ref a_t_now, .ref a_t_trial, .ref a_t_diary, .int (zi c_t_acts), .int (zi c_t_next), .ref a_t_kept, .ref a_t_isKept, .ref a_t_script, .int (zi c_t_scriptSize), .int (zi c_t_spot), .ref a_t_read, .int (zi c_t_readHigh), .int (zi c_t_readWide), .ref a_t_wanted, .ref a_t_level, .ref a_t_chosen, .ref a_t_best])), (a_t_now, zI J 243 f_t_now), (a_t_diary, zI J 3402 q1)] rfl ?_
  refine z_aload_n (pc' := 21) 0 dX9_note_20 rfl rfl rfl ?_
  refine z_aload_n (pc' := 22) 0 dX9_note_21 rfl rfl rfl ?_
  refine z_getfield (pc' := 25) (C := RX9) (T := TX9) (N := 20) 0 7 dX9_note_22 iX9_note_X9 rfl rfl (by decide) mX9_note_f62 rfl rfl ?_
  refine z_iconst (pc' := 26) dX9_note_25 rfl ?_
  refine z_iadd (pc' := 27) dX9_note_26 rfl ?_
  refine z_bipush (pc' := 29) dX9_note_27 (by decide) rfl ?_
  have g3 := zkr_p hsh
  replace hsh := zkr_k hsh
  refine z_irem (pc' := 30) dX9_note_29 g3 (by decide) (by decide) rfl ?_
  refine z_putfield (pc' := 33) (C := RX9) (T := TX9) (N := 20) (ty := .int) 0 7 [(a_t, .inr (8, [.int (zi c_t_refusal), .int (zi c_t_high), .int (zi c_t_wide), .ref a_t_now, .ref a_t_trial, .ref a_t_diary, .int (zi c_t_acts), .int (zi (zmod (c_t_next + (1 : Int)) (14 : Int))), .ref a_t_kept, .ref a_t_isKept, .ref a_t_script, .int (zi c_t_scriptSize), .int (zi c_t_spot), .ref a_t_read, .int (zi c_t_readHigh), .int (zi c_t_readWide), .ref a_t_wanted, .ref a_t_level, .ref a_t_chosen, .ref a_t_best])), (a_t_now, zI J 243 f_t_now), (a_t_diary, zI J 3402 q1)] tyX9 tyX9_ok nmX9 dX9_note_30 iX9_note_X9 rfl rfl (by decide) mX9_note_f62 rfl (by decide +kernel) rfl rfl (Nat.le_of_ble_eq_true rfl) rfl rfl rfl ?_
  refine z_aload_n (pc' := 34) 0 dX9_note_33 rfl rfl rfl ?_
  refine z_aload_n (pc' := 35) 0 dX9_note_34 rfl rfl rfl ?_
  refine z_getfield (pc' := 38) (C := RX9) (T := TX9) (N := 20) 0 6 dX9_note_35 iX9_note_X9 rfl rfl (by decide) mX9_note_f69 rfl rfl ?_
  refine z_bipush (pc' := 40) dX9_note_38 (by decide) rfl ?_
  have g4 := zkr_p hsh
  replace hsh := zkr_k hsh
  refine z_icmp_ge (pc' := 43) (tgt := 52) dX9_note_40 (by decide) g4 (by decide) rfl (fun q => ?_) (fun q => ?_)
  · replace hsh := zif_f q hsh
    refine z_bipush (pc' := 54) dX9_note_52 (by decide) rfl ?_
    refine z_putfield (pc' := 57) (C := RX9) (T := TX9) (N := 20) (ty := .int) 0 6 [(a_t, .inr (8, [.int (zi c_t_refusal), .int (zi c_t_high), .int (zi c_t_wide), .ref a_t_now, .ref a_t_trial, .ref a_t_diary, .int (zi (14 : Int)), .int (zi (zmod (c_t_next + (1 : Int)) (14 : Int))), .ref a_t_kept, .ref a_t_isKept, .ref a_t_script, .int (zi c_t_scriptSize), .int (zi c_t_spot), .ref a_t_read, .int (zi c_t_readHigh), .int (zi c_t_readWide), .ref a_t_wanted, .ref a_t_level, .ref a_t_chosen, .ref a_t_best])), (a_t_now, zI J 243 f_t_now), (a_t_diary, zI J 3402 q1)] tyX9 tyX9_ok nmX9 dX9_note_54 iX9_note_X9 rfl rfl (by decide) mX9_note_f69 rfl (by decide +kernel) rfl rfl (Nat.le_of_ble_eq_true rfl) rfl rfl rfl ?_
    cases hsh
    exact z_vret rfl dX9_note_57 ⟨rfl, rfl⟩
  · replace hsh := zif_t q hsh
    refine z_aload_n (pc' := 44) 0 dX9_note_43 rfl rfl rfl ?_
    refine z_getfield (pc' := 47) (C := RX9) (T := TX9) (N := 20) 0 6 dX9_note_44 iX9_note_X9 rfl rfl (by decide) mX9_note_f69 rfl rfl ?_
    refine z_iconst (pc' := 48) dX9_note_47 rfl ?_
    refine z_iadd (pc' := 49) dX9_note_48 rfl ?_
    refine z_goto (tgt := 54) dX9_note_49 (by decide) ?_
    refine z_putfield (pc' := 57) (C := RX9) (T := TX9) (N := 20) (ty := .int) 0 6 [(a_t, .inr (8, [.int (zi c_t_refusal), .int (zi c_t_high), .int (zi c_t_wide), .ref a_t_now, .ref a_t_trial, .ref a_t_diary, .int (zi (c_t_acts + (1 : Int))), .int (zi (zmod (c_t_next + (1 : Int)) (14 : Int))), .ref a_t_kept, .ref a_t_isKept, .ref a_t_script, .int (zi c_t_scriptSize), .int (zi c_t_spot), .ref a_t_read, .int (zi c_t_readHigh), .int (zi c_t_readWide), .ref a_t_wanted, .ref a_t_level, .ref a_t_chosen, .ref a_t_best])), (a_t_now, zI J 243 f_t_now), (a_t_diary, zI J 3402 q1)] tyX9 tyX9_ok nmX9 dX9_note_54 iX9_note_X9 rfl rfl (by decide) mX9_note_f69 rfl (by decide +kernel) rfl rfl (Nat.le_of_ble_eq_true rfl) rfl rfl rfl ?_
    cases hsh
    exact z_vret rfl dX9_note_57 ⟨rfl, rfl⟩
def sh_X9_take_L45 (F : Nat) (n_p0 : Nat) (p1 : Int) (p2 : Int) (k : Int → (Nat → Int) → Option (Int × (Nat → Int))) : Nat → Int → (Nat → Int) → Option (Int × (Nat → Int))
  | 0, _, _ => none
  | N + 1, v11, v12 => zkr v11 (if v11 < (10 : Int) then zkx ((((p1 + ((15 : Int) * p2)) + (3 : Int)) + v11) + (2 : Int)) n_p0 (zkx (((p1 + ((15 : Int) * p2)) + (3 : Int)) + v11) n_p0 (sh_X9_take_L45 F n_p0 p1 p2 k N (v11 + (1 : Int)) (va_up v12 ((((p1 + ((15 : Int) * p2)) + (3 : Int)) + v11)).toNat (v12 (((((p1 + ((15 : Int) * p2)) + (3 : Int)) + v11) + (2 : Int))).toNat)))) else k v11 v12)
def sh_X9_take (F : Nat) (f_p0 : Nat → Int) (n_p0 : Nat) (p1 : Int) (p2 : Int) : Option (Int × (Nat → Int)) := zkx (((p1 + ((15 : Int) * p2)) + (3 : Int)) + (1 : Int)) n_p0 (zkx ((p1 + ((15 : Int) * p2)) + (3 : Int)) n_p0 (zkr ((va_up f_p0 (((p1 + ((15 : Int) * p2)) + (3 : Int))).toNat ((f_p0 (((p1 + ((15 : Int) * p2)) + (3 : Int))).toNat) - (1 : Int))) (((p1 + ((15 : Int) * p2)) + (3 : Int))).toNat) (if ((va_up f_p0 (((p1 + ((15 : Int) * p2)) + (3 : Int))).toNat ((f_p0 (((p1 + ((15 : Int) * p2)) + (3 : Int))).toNat) - (1 : Int))) (((p1 + ((15 : Int) * p2)) + (3 : Int))).toNat) = (0 : Int) then zkx ((p1 + ((15 : Int) * p2)) + (2 : Int)) n_p0 (sh_X9_take_L45 F n_p0 p1 p2 (fun (v16 : Int) (v17 : (Nat → Int)) => zkx ((((p1 + ((15 : Int) * p2)) + (3 : Int)) + (12 : Int)) - (2 : Int)) n_p0 (zkx ((((p1 + ((15 : Int) * p2)) + (3 : Int)) + (12 : Int)) - (1 : Int)) n_p0 (zkx ((p1 + ((15 : Int) * p2)) + (0 : Int)) n_p0 (zkx (p1 + (241 : Int)) n_p0 (zkx (p1 + (242 : Int)) n_p0 (some ((f_p0 ((((p1 + ((15 : Int) * p2)) + (3 : Int)) + (1 : Int))).toNat), (va_up (va_up (va_up (va_up (va_up v17 (((((p1 + ((15 : Int) * p2)) + (3 : Int)) + (12 : Int)) - (2 : Int))).toNat (0 : Int)) (((((p1 + ((15 : Int) * p2)) + (3 : Int)) + (12 : Int)) - (1 : Int))).toNat (0 : Int)) (((p1 + ((15 : Int) * p2)) + (0 : Int))).toNat (((va_up (va_up v17 (((((p1 + ((15 : Int) * p2)) + (3 : Int)) + (12 : Int)) - (2 : Int))).toNat (0 : Int)) (((((p1 + ((15 : Int) * p2)) + (3 : Int)) + (12 : Int)) - (1 : Int))).toNat (0 : Int)) (((p1 + ((15 : Int) * p2)) + (0 : Int))).toNat) + (1 : Int))) ((p1 + (241 : Int))).toNat (((va_up (va_up (va_up v17 (((((p1 + ((15 : Int) * p2)) + (3 : Int)) + (12 : Int)) - (2 : Int))).toNat (0 : Int)) (((((p1 + ((15 : Int) * p2)) + (3 : Int)) + (12 : Int)) - (1 : Int))).toNat (0 : Int)) (((p1 + ((15 : Int) * p2)) + (0 : Int))).toNat (((va_up (va_up v17 (((((p1 + ((15 : Int) * p2)) + (3 : Int)) + (12 : Int)) - (2 : Int))).toNat (0 : Int)) (((((p1 + ((15 : Int) * p2)) + (3 : Int)) + (12 : Int)) - (1 : Int))).toNat (0 : Int)) (((p1 + ((15 : Int) * p2)) + (0 : Int))).toNat) + (1 : Int))) ((p1 + (241 : Int))).toNat) + (1 : Int))) ((p1 + (242 : Int))).toNat (((va_up (va_up (va_up (va_up v17 (((((p1 + ((15 : Int) * p2)) + (3 : Int)) + (12 : Int)) - (2 : Int))).toNat (0 : Int)) (((((p1 + ((15 : Int) * p2)) + (3 : Int)) + (12 : Int)) - (1 : Int))).toNat (0 : Int)) (((p1 + ((15 : Int) * p2)) + (0 : Int))).toNat (((va_up (va_up v17 (((((p1 + ((15 : Int) * p2)) + (3 : Int)) + (12 : Int)) - (2 : Int))).toNat (0 : Int)) (((((p1 + ((15 : Int) * p2)) + (3 : Int)) + (12 : Int)) - (1 : Int))).toNat (0 : Int)) (((p1 + ((15 : Int) * p2)) + (0 : Int))).toNat) + (1 : Int))) ((p1 + (241 : Int))).toNat (((va_up (va_up (va_up v17 (((((p1 + ((15 : Int) * p2)) + (3 : Int)) + (12 : Int)) - (2 : Int))).toNat (0 : Int)) (((((p1 + ((15 : Int) * p2)) + (3 : Int)) + (12 : Int)) - (1 : Int))).toNat (0 : Int)) (((p1 + ((15 : Int) * p2)) + (0 : Int))).toNat (((va_up (va_up v17 (((((p1 + ((15 : Int) * p2)) + (3 : Int)) + (12 : Int)) - (2 : Int))).toNat (0 : Int)) (((((p1 + ((15 : Int) * p2)) + (3 : Int)) + (12 : Int)) - (1 : Int))).toNat (0 : Int)) (((p1 + ((15 : Int) * p2)) + (0 : Int))).toNat) + (1 : Int))) ((p1 + (241 : Int))).toNat) + (1 : Int))) ((p1 + (242 : Int))).toNat) + (f_p0 ((((p1 + ((15 : Int) * p2)) + (3 : Int)) + (1 : Int))).toNat)))))))))) F (0 : Int) (va_up (va_up f_p0 (((p1 + ((15 : Int) * p2)) + (3 : Int))).toNat ((f_p0 (((p1 + ((15 : Int) * p2)) + (3 : Int))).toNat) - (1 : Int))) (((p1 + ((15 : Int) * p2)) + (2 : Int))).toNat (((va_up f_p0 (((p1 + ((15 : Int) * p2)) + (3 : Int))).toNat ((f_p0 (((p1 + ((15 : Int) * p2)) + (3 : Int))).toNat) - (1 : Int))) (((p1 + ((15 : Int) * p2)) + (2 : Int))).toNat) - (1 : Int)))) else zkx ((p1 + ((15 : Int) * p2)) + (0 : Int)) n_p0 (zkx (p1 + (241 : Int)) n_p0 (zkx (p1 + (242 : Int)) n_p0 (some ((f_p0 ((((p1 + ((15 : Int) * p2)) + (3 : Int)) + (1 : Int))).toNat), (va_up (va_up (va_up (va_up f_p0 (((p1 + ((15 : Int) * p2)) + (3 : Int))).toNat ((f_p0 (((p1 + ((15 : Int) * p2)) + (3 : Int))).toNat) - (1 : Int))) (((p1 + ((15 : Int) * p2)) + (0 : Int))).toNat (((va_up f_p0 (((p1 + ((15 : Int) * p2)) + (3 : Int))).toNat ((f_p0 (((p1 + ((15 : Int) * p2)) + (3 : Int))).toNat) - (1 : Int))) (((p1 + ((15 : Int) * p2)) + (0 : Int))).toNat) + (1 : Int))) ((p1 + (241 : Int))).toNat (((va_up (va_up f_p0 (((p1 + ((15 : Int) * p2)) + (3 : Int))).toNat ((f_p0 (((p1 + ((15 : Int) * p2)) + (3 : Int))).toNat) - (1 : Int))) (((p1 + ((15 : Int) * p2)) + (0 : Int))).toNat (((va_up f_p0 (((p1 + ((15 : Int) * p2)) + (3 : Int))).toNat ((f_p0 (((p1 + ((15 : Int) * p2)) + (3 : Int))).toNat) - (1 : Int))) (((p1 + ((15 : Int) * p2)) + (0 : Int))).toNat) + (1 : Int))) ((p1 + (241 : Int))).toNat) + (1 : Int))) ((p1 + (242 : Int))).toNat (((va_up (va_up (va_up f_p0 (((p1 + ((15 : Int) * p2)) + (3 : Int))).toNat ((f_p0 (((p1 + ((15 : Int) * p2)) + (3 : Int))).toNat) - (1 : Int))) (((p1 + ((15 : Int) * p2)) + (0 : Int))).toNat (((va_up f_p0 (((p1 + ((15 : Int) * p2)) + (3 : Int))).toNat ((f_p0 (((p1 + ((15 : Int) * p2)) + (3 : Int))).toNat) - (1 : Int))) (((p1 + ((15 : Int) * p2)) + (0 : Int))).toNat) + (1 : Int))) ((p1 + (241 : Int))).toNat (((va_up (va_up f_p0 (((p1 + ((15 : Int) * p2)) + (3 : Int))).toNat ((f_p0 (((p1 + ((15 : Int) * p2)) + (3 : Int))).toNat) - (1 : Int))) (((p1 + ((15 : Int) * p2)) + (0 : Int))).toNat (((va_up f_p0 (((p1 + ((15 : Int) * p2)) + (3 : Int))).toNat ((f_p0 (((p1 + ((15 : Int) * p2)) + (3 : Int))).toNat) - (1 : Int))) (((p1 + ((15 : Int) * p2)) + (0 : Int))).toNat) + (1 : Int))) ((p1 + (241 : Int))).toNat) + (1 : Int))) ((p1 + (242 : Int))).toNat) + (f_p0 ((((p1 + ((15 : Int) * p2)) + (3 : Int)) + (1 : Int))).toNat))))))))))
set_option maxRecDepth 100000 in
set_option maxHeartbeats 4000000 in
theorem zl_X9_take_L45 {p : Program} {l : Launch} {e : Env} {s : State} {m : MethodId} {args : Array Value} {below : List Frame} {meth : Method} {c : Code} {A : Nat → Prop} {D : va_G} {J : Nat → ClassId} {F : Nat} {n_p0 : Nat} {p1 : Int} {p2 : Int} {a_p0 : Nat} {f_p0 : Nat → Int} {res : Int × (Nat → Int)} (hn_p0 : n_p0 ≤ 2147483647) {k : Int → (Nat → Int) → Option (Int × (Nat → Int))} (hk : ∀ (v11' : Int) (v12' : (Nat → Int)), k v11' v12' = some res → Z p l e ({ frames := 0, cells := 0, slots := 0, locals := 0 } : Room) s m args below meth c (MQ below (zQ D J A (fun rv w9 => rv = some (.int (zi res.1)) ∧ w9 = [(a_p0, zI J n_p0 res.2)])) args s 0 0 A) cX9_take 6 wsX9_take RX9 D J A (some .int) (yX9_take.name, []) 0 0 [(a_p0, zI J n_p0 v12')] [(0, .ref a_p0), (1, .int (zi p1)), (3, .int (zi (p1 + ((15 : Int) * p2)))), (4, .int (zi (f_p0 ((((p1 + ((15 : Int) * p2)) + (3 : Int)) + (1 : Int))).toNat)))] 76 []) : ∀ (N : Nat) (v11 : Int) (v12 : (Nat → Int)), sh_X9_take_L45 F n_p0 p1 p2 k N v11 v12 = some res → Z p l e ({ frames := 0, cells := 0, slots := 0, locals := 0 } : Room) s m args below meth c (MQ below (zQ D J A (fun rv w9 => rv = some (.int (zi res.1)) ∧ w9 = [(a_p0, zI J n_p0 res.2)])) args s 0 0 A) cX9_take 6 wsX9_take RX9 D J A (some .int) (yX9_take.name, []) 0 0 [(a_p0, zI J n_p0 v12)] [(0, .ref a_p0), (1, .int (zi p1)), (3, .int (zi (p1 + ((15 : Int) * p2)))), (4, .int (zi (f_p0 ((((p1 + ((15 : Int) * p2)) + (3 : Int)) + (1 : Int))).toNat))), (5, .int (zi v11))] 45 [] := by
  intro N
  induction N with
  | zero =>
    intro v11 v12 hsh
    exact absurd hsh (by simp [sh_X9_take_L45])
  | succ N ih =>
    intro v11 v12 hsh
    rw [sh_X9_take_L45] at hsh
    refine z_iload (pc' := 47) 4 dX9_take_45 rfl rfl ?_
    refine z_bipush (pc' := 49) dX9_take_47 (by decide) rfl ?_
    have g13 := zkr_p hsh
    replace hsh := zkr_k hsh
    refine z_icmp_ge (pc' := 52) (tgt := 76) dX9_take_49 (by decide) g13 (by decide) rfl (fun q => ?_) (fun q => ?_)
    · replace hsh := zif_f q hsh
      refine z_perm [(a_p0, zI J n_p0 v12)] [(0, .ref a_p0), (1, .int (zi p1)), (3, .int (zi (p1 + ((15 : Int) * p2)))), (4, .int (zi (f_p0 ((((p1 + ((15 : Int) * p2)) + (3 : Int)) + (1 : Int))).toNat)))] [0] [0, 1, 2, 3] rfl rfl rfl ?_
      exact hk _ _ hsh
    · replace hsh := zif_t q hsh
      refine z_aload_n (pc' := 53) 0 dX9_take_52 rfl rfl rfl ?_
      refine z_iload_n (pc' := 54) 2 dX9_take_53 rfl rfl rfl ?_
      refine z_iconst (pc' := 55) dX9_take_54 rfl ?_
      refine z_iadd (pc' := 56) dX9_take_55 rfl ?_
      refine z_iload (pc' := 58) 4 dX9_take_56 rfl rfl ?_
      refine z_iadd (pc' := 59) dX9_take_58 rfl ?_
      refine z_aload_n (pc' := 60) 0 dX9_take_59 rfl rfl rfl ?_
      refine z_iload_n (pc' := 61) 2 dX9_take_60 rfl rfl rfl ?_
      refine z_iconst (pc' := 62) dX9_take_61 rfl ?_
      refine z_iadd (pc' := 63) dX9_take_62 rfl ?_
      refine z_iload (pc' := 65) 4 dX9_take_63 rfl rfl ?_
      refine z_iadd (pc' := 66) dX9_take_65 rfl ?_
      refine z_iconst (pc' := 67) dX9_take_66 rfl ?_
      refine z_iadd (pc' := 68) dX9_take_67 rfl ?_
      have g14 := zkx_p hsh
      replace hsh := zkx_k hsh
      refine z_iaload (pc' := 69) 0 dX9_take_68 rfl hn_p0 g14 rfl ?_
      have g15 := zkx_p hsh
      replace hsh := zkx_k hsh
      refine z_iastore (pc' := 70) 0 [(a_p0, zI J n_p0 (va_up v12 ((((p1 + ((15 : Int) * p2)) + (3 : Int)) + v11)).toNat (v12 (((((p1 + ((15 : Int) * p2)) + (3 : Int)) + v11) + (2 : Int))).toNat)))] dX9_take_69 rfl hn_p0 g15 rfl rfl ?_
      refine z_iinc (pc' := 73) [(5, .int (zi (v11 + (1 : Int)))), (0, .ref a_p0), (1, .int (zi p1)), (3, .int (zi (p1 + ((15 : Int) * p2)))), (4, .int (zi (f_p0 ((((p1 + ((15 : Int) * p2)) + (3 : Int)) + (1 : Int))).toNat)))] 4 dX9_take_70 rfl (by decide) rfl rfl ?_
      refine z_goto (tgt := 45) dX9_take_73 (by decide) ?_
      refine z_perm [(a_p0, zI J n_p0 (va_up v12 ((((p1 + ((15 : Int) * p2)) + (3 : Int)) + v11)).toNat (v12 (((((p1 + ((15 : Int) * p2)) + (3 : Int)) + v11) + (2 : Int))).toNat)))] [(0, .ref a_p0), (1, .int (zi p1)), (3, .int (zi (p1 + ((15 : Int) * p2)))), (4, .int (zi (f_p0 ((((p1 + ((15 : Int) * p2)) + (3 : Int)) + (1 : Int))).toNat))), (5, .int (zi (v11 + (1 : Int))))] [0] [1, 2, 3, 4, 0] rfl rfl rfl ?_
      exact ih _ _ hsh
set_option maxRecDepth 100000 in
set_option maxHeartbeats 4000000 in
theorem zc_X9_take (l : Launch) (D : va_G) (J : Nat → ClassId) (F : Nat) (a_p0 : Nat) (f_p0 : Nat → Int) (n_p0 : Nat) (p1 : Int) (p2 : Int) (hn_p0 : n_p0 ≤ 2147483647) (res : Int × (Nat → Int)) (hsh : sh_X9_take F f_p0 n_p0 p1 p2 = some res) : ZM l D J yX9_take wsX9_take ({ frames := 0, cells := 0, slots := 0, locals := 0 } : Room) 0 0 [.ref a_p0, .int (zi p1), .int (zi p2)] [(a_p0, zI J n_p0 f_p0)] (fun rv w9 => rv = some (.int (zi res.1)) ∧ w9 = [(a_p0, zI J n_p0 res.2)]) := by
  refine z_ofZ (cc := cX9_take) (maxL := 6) (ret := (some .int)) 0 0 (by decide) rfl (Nat.le_of_ble_eq_true rfl) [(0, .ref a_p0), (1, .int (zi p1)), (2, .int (zi p2))] rfl ?_
  intro p e s m args below meth c A
  unfold sh_X9_take at hsh
  refine z_iload_n (pc' := 1) 1 dX9_take_0 rfl rfl rfl ?_
  refine z_bipush (pc' := 3) dX9_take_1 (by decide) rfl ?_
  refine z_iload_n (pc' := 4) 2 dX9_take_3 rfl rfl rfl ?_
  refine z_imul (pc' := 5) dX9_take_4 rfl ?_
  refine z_iadd (pc' := 6) dX9_take_5 rfl ?_
  refine z_istore_n (pc' := 7) [(3, .int (zi (p1 + ((15 : Int) * p2)))), (0, .ref a_p0), (1, .int (zi p1)), (2, .int (zi p2))] dX9_take_6 rfl (by decide) rfl rfl ?_
  refine z_aload_n (pc' := 8) 1 dX9_take_7 rfl rfl rfl ?_
  refine z_iload_n (pc' := 9) 0 dX9_take_8 rfl rfl rfl ?_
  refine z_iconst (pc' := 10) dX9_take_9 rfl ?_
  refine z_iadd (pc' := 11) dX9_take_10 rfl ?_
  refine z_iconst (pc' := 12) dX9_take_11 rfl ?_
  refine z_iadd (pc' := 13) dX9_take_12 rfl ?_
  have g1 := zkx_p hsh
  replace hsh := zkx_k hsh
  refine z_iaload (pc' := 14) 0 dX9_take_13 rfl hn_p0 g1 rfl ?_
  refine z_istore (pc' := 16) [(4, .int (zi (f_p0 ((((p1 + ((15 : Int) * p2)) + (3 : Int)) + (1 : Int))).toNat))), (3, .int (zi (p1 + ((15 : Int) * p2)))), (0, .ref a_p0), (1, .int (zi p1)), (2, .int (zi p2))] dX9_take_14 (by decide) rfl rfl ?_
  refine z_aload_n (pc' := 17) 2 dX9_take_16 rfl rfl rfl ?_
  refine z_iload_n (pc' := 18) 1 dX9_take_17 rfl rfl rfl ?_
  refine z_iconst (pc' := 19) dX9_take_18 rfl ?_
  refine z_iadd (pc' := 20) dX9_take_19 rfl ?_
  refine z_dup2 (pc' := 21) dX9_take_20 rfl rfl rfl ?_
  have g2 := zkx_p hsh
  replace hsh := zkx_k hsh
  refine z_iaload (pc' := 22) 0 dX9_take_21 rfl hn_p0 g2 rfl ?_
  refine z_iconst (pc' := 23) dX9_take_22 rfl ?_
  refine z_isub (pc' := 24) dX9_take_23 rfl ?_
  refine z_iastore (pc' := 25) 0 [(a_p0, zI J n_p0 (va_up f_p0 (((p1 + ((15 : Int) * p2)) + (3 : Int))).toNat ((f_p0 (((p1 + ((15 : Int) * p2)) + (3 : Int))).toNat) - (1 : Int))))] dX9_take_24 rfl hn_p0 g2 rfl rfl ?_
  refine z_aload_n (pc' := 26) 2 dX9_take_25 rfl rfl rfl ?_
  refine z_iload_n (pc' := 27) 1 dX9_take_26 rfl rfl rfl ?_
  refine z_iconst (pc' := 28) dX9_take_27 rfl ?_
  refine z_iadd (pc' := 29) dX9_take_28 rfl ?_
  refine z_iaload (pc' := 30) 0 dX9_take_29 rfl hn_p0 g2 rfl ?_
  have g3 := zkr_p hsh
  replace hsh := zkr_k hsh
  refine z_if_ne (pc' := 33) (tgt := 98) dX9_take_30 (by decide) g3 rfl (fun q => ?_) (fun q => ?_)
  · replace hsh := zif_f q hsh
    refine z_aload_n (pc' := 99) 2 dX9_take_98 rfl rfl rfl ?_
    refine z_iload_n (pc' := 100) 1 dX9_take_99 rfl rfl rfl ?_
    refine z_iconst (pc' := 101) dX9_take_100 rfl ?_
    refine z_iadd (pc' := 102) dX9_take_101 rfl ?_
    refine z_dup2 (pc' := 103) dX9_take_102 rfl rfl rfl ?_
    have g4 := zkx_p hsh
    replace hsh := zkx_k hsh
    refine z_iaload (pc' := 104) 0 dX9_take_103 rfl hn_p0 g4 rfl ?_
    refine z_iconst (pc' := 105) dX9_take_104 rfl ?_
    refine z_iadd (pc' := 106) dX9_take_105 rfl ?_
    refine z_iastore (pc' := 107) 0 [(a_p0, zI J n_p0 (va_up (va_up f_p0 (((p1 + ((15 : Int) * p2)) + (3 : Int))).toNat ((f_p0 (((p1 + ((15 : Int) * p2)) + (3 : Int))).toNat) - (1 : Int))) (((p1 + ((15 : Int) * p2)) + (0 : Int))).toNat (((va_up f_p0 (((p1 + ((15 : Int) * p2)) + (3 : Int))).toNat ((f_p0 (((p1 + ((15 : Int) * p2)) + (3 : Int))).toNat) - (1 : Int))) (((p1 + ((15 : Int) * p2)) + (0 : Int))).toNat) + (1 : Int))))] dX9_take_106 rfl hn_p0 g4 rfl rfl ?_
    refine z_aload_n (pc' := 108) 2 dX9_take_107 rfl rfl rfl ?_
    refine z_iload_n (pc' := 109) 3 dX9_take_108 rfl rfl rfl ?_
    refine z_sipush (pc' := 112) dX9_take_109 (by decide) rfl ?_
    refine z_iadd (pc' := 113) dX9_take_112 rfl ?_
    refine z_dup2 (pc' := 114) dX9_take_113 rfl rfl rfl ?_
    have g5 := zkx_p hsh
    replace hsh := zkx_k hsh
    refine z_iaload (pc' := 115) 0 dX9_take_114 rfl hn_p0 g5 rfl ?_
    refine z_iconst (pc' := 116) dX9_take_115 rfl ?_
    refine z_iadd (pc' := 117) dX9_take_116 rfl ?_
    refine z_iastore (pc' := 118) 0 [(a_p0, zI J n_p0 (va_up (va_up (va_up f_p0 (((p1 + ((15 : Int) * p2)) + (3 : Int))).toNat ((f_p0 (((p1 + ((15 : Int) * p2)) + (3 : Int))).toNat) - (1 : Int))) (((p1 + ((15 : Int) * p2)) + (0 : Int))).toNat (((va_up f_p0 (((p1 + ((15 : Int) * p2)) + (3 : Int))).toNat ((f_p0 (((p1 + ((15 : Int) * p2)) + (3 : Int))).toNat) - (1 : Int))) (((p1 + ((15 : Int) * p2)) + (0 : Int))).toNat) + (1 : Int))) ((p1 + (241 : Int))).toNat (((va_up (va_up f_p0 (((p1 + ((15 : Int) * p2)) + (3 : Int))).toNat ((f_p0 (((p1 + ((15 : Int) * p2)) + (3 : Int))).toNat) - (1 : Int))) (((p1 + ((15 : Int) * p2)) + (0 : Int))).toNat (((va_up f_p0 (((p1 + ((15 : Int) * p2)) + (3 : Int))).toNat ((f_p0 (((p1 + ((15 : Int) * p2)) + (3 : Int))).toNat) - (1 : Int))) (((p1 + ((15 : Int) * p2)) + (0 : Int))).toNat) + (1 : Int))) ((p1 + (241 : Int))).toNat) + (1 : Int))))] dX9_take_117 rfl hn_p0 g5 rfl rfl ?_
    refine z_aload_n (pc' := 119) 2 dX9_take_118 rfl rfl rfl ?_
    refine z_iload_n (pc' := 120) 3 dX9_take_119 rfl rfl rfl ?_
    refine z_sipush (pc' := 123) dX9_take_120 (by decide) rfl ?_
    refine z_iadd (pc' := 124) dX9_take_123 rfl ?_
    refine z_dup2 (pc' := 125) dX9_take_124 rfl rfl rfl ?_
    have g6 := zkx_p hsh
    replace hsh := zkx_k hsh
    refine z_iaload (pc' := 126) 0 dX9_take_125 rfl hn_p0 g6 rfl ?_
    refine z_iload (pc' := 128) 0 dX9_take_126 rfl rfl ?_
    refine z_iadd (pc' := 129) dX9_take_128 rfl ?_
    refine z_iastore (pc' := 130) 0 [(a_p0, zI J n_p0 (va_up (va_up (va_up (va_up f_p0 (((p1 + ((15 : Int) * p2)) + (3 : Int))).toNat ((f_p0 (((p1 + ((15 : Int) * p2)) + (3 : Int))).toNat) - (1 : Int))) (((p1 + ((15 : Int) * p2)) + (0 : Int))).toNat (((va_up f_p0 (((p1 + ((15 : Int) * p2)) + (3 : Int))).toNat ((f_p0 (((p1 + ((15 : Int) * p2)) + (3 : Int))).toNat) - (1 : Int))) (((p1 + ((15 : Int) * p2)) + (0 : Int))).toNat) + (1 : Int))) ((p1 + (241 : Int))).toNat (((va_up (va_up f_p0 (((p1 + ((15 : Int) * p2)) + (3 : Int))).toNat ((f_p0 (((p1 + ((15 : Int) * p2)) + (3 : Int))).toNat) - (1 : Int))) (((p1 + ((15 : Int) * p2)) + (0 : Int))).toNat (((va_up f_p0 (((p1 + ((15 : Int) * p2)) + (3 : Int))).toNat ((f_p0 (((p1 + ((15 : Int) * p2)) + (3 : Int))).toNat) - (1 : Int))) (((p1 + ((15 : Int) * p2)) + (0 : Int))).toNat) + (1 : Int))) ((p1 + (241 : Int))).toNat) + (1 : Int))) ((p1 + (242 : Int))).toNat (((va_up (va_up (va_up f_p0 (((p1 + ((15 : Int) * p2)) + (3 : Int))).toNat ((f_p0 (((p1 + ((15 : Int) * p2)) + (3 : Int))).toNat) - (1 : Int))) (((p1 + ((15 : Int) * p2)) + (0 : Int))).toNat (((va_up f_p0 (((p1 + ((15 : Int) * p2)) + (3 : Int))).toNat ((f_p0 (((p1 + ((15 : Int) * p2)) + (3 : Int))).toNat) - (1 : Int))) (((p1 + ((15 : Int) * p2)) + (0 : Int))).toNat) + (1 : Int))) ((p1 + (241 : Int))).toNat (((va_up (va_up f_p0 (((p1 + ((15 : Int) * p2)) + (3 : Int))).toNat ((f_p0 (((p1 + ((15 : Int) * p2)) + (3 : Int))).toNat) - (1 : Int))) (((p1 + ((15 : Int) * p2)) + (0 : Int))).toNat (((va_up f_p0 (((p1 + ((15 : Int) * p2)) + (3 : Int))).toNat ((f_p0 (((p1 + ((15 : Int) * p2)) + (3 : Int))).toNat) - (1 : Int))) (((p1 + ((15 : Int) * p2)) + (0 : Int))).toNat) + (1 : Int))) ((p1 + (241 : Int))).toNat) + (1 : Int))) ((p1 + (242 : Int))).toNat) + (f_p0 ((((p1 + ((15 : Int) * p2)) + (3 : Int)) + (1 : Int))).toNat))))] dX9_take_129 rfl hn_p0 g6 rfl rfl ?_
    refine z_iload (pc' := 132) 0 dX9_take_130 rfl rfl ?_
    cases hsh
    exact z_iret rfl dX9_take_132 ⟨rfl, rfl⟩
  · replace hsh := zif_t q hsh
    refine z_aload_n (pc' := 34) 2 dX9_take_33 rfl rfl rfl ?_
    refine z_iload_n (pc' := 35) 1 dX9_take_34 rfl rfl rfl ?_
    refine z_iconst (pc' := 36) dX9_take_35 rfl ?_
    refine z_iadd (pc' := 37) dX9_take_36 rfl ?_
    refine z_dup2 (pc' := 38) dX9_take_37 rfl rfl rfl ?_
    have g7 := zkx_p hsh
    replace hsh := zkx_k hsh
    refine z_iaload (pc' := 39) 0 dX9_take_38 rfl hn_p0 g7 rfl ?_
    refine z_iconst (pc' := 40) dX9_take_39 rfl ?_
    refine z_isub (pc' := 41) dX9_take_40 rfl ?_
    refine z_iastore (pc' := 42) 0 [(a_p0, zI J n_p0 (va_up (va_up f_p0 (((p1 + ((15 : Int) * p2)) + (3 : Int))).toNat ((f_p0 (((p1 + ((15 : Int) * p2)) + (3 : Int))).toNat) - (1 : Int))) (((p1 + ((15 : Int) * p2)) + (2 : Int))).toNat (((va_up f_p0 (((p1 + ((15 : Int) * p2)) + (3 : Int))).toNat ((f_p0 (((p1 + ((15 : Int) * p2)) + (3 : Int))).toNat) - (1 : Int))) (((p1 + ((15 : Int) * p2)) + (2 : Int))).toNat) - (1 : Int))))] dX9_take_41 rfl hn_p0 g7 rfl rfl ?_
    refine z_iconst (pc' := 43) dX9_take_42 rfl ?_
    refine z_istore (pc' := 45) [(5, .int (zi (0 : Int))), (4, .int (zi (f_p0 ((((p1 + ((15 : Int) * p2)) + (3 : Int)) + (1 : Int))).toNat))), (3, .int (zi (p1 + ((15 : Int) * p2)))), (0, .ref a_p0), (1, .int (zi p1)), (2, .int (zi p2))] dX9_take_43 (by decide) rfl rfl ?_
    refine z_perm [(a_p0, zI J n_p0 (va_up (va_up f_p0 (((p1 + ((15 : Int) * p2)) + (3 : Int))).toNat ((f_p0 (((p1 + ((15 : Int) * p2)) + (3 : Int))).toNat) - (1 : Int))) (((p1 + ((15 : Int) * p2)) + (2 : Int))).toNat (((va_up f_p0 (((p1 + ((15 : Int) * p2)) + (3 : Int))).toNat ((f_p0 (((p1 + ((15 : Int) * p2)) + (3 : Int))).toNat) - (1 : Int))) (((p1 + ((15 : Int) * p2)) + (2 : Int))).toNat) - (1 : Int))))] [(0, .ref a_p0), (1, .int (zi p1)), (3, .int (zi (p1 + ((15 : Int) * p2)))), (4, .int (zi (f_p0 ((((p1 + ((15 : Int) * p2)) + (3 : Int)) + (1 : Int))).toNat))), (5, .int (zi (0 : Int)))] [0] [3, 4, 2, 1, 0] rfl rfl rfl ?_
    refine zl_X9_take_L45 (F := F) (hn_p0 := hn_p0) (hk := fun v16 v17 hsh => ?_) _ _ _ hsh
    refine z_aload_n (pc' := 77) 0 dX9_take_76 rfl rfl rfl ?_
    refine z_iload_n (pc' := 78) 2 dX9_take_77 rfl rfl rfl ?_
    refine z_iconst (pc' := 79) dX9_take_78 rfl ?_
    refine z_iadd (pc' := 80) dX9_take_79 rfl ?_
    refine z_bipush (pc' := 82) dX9_take_80 (by decide) rfl ?_
    refine z_iadd (pc' := 83) dX9_take_82 rfl ?_
    refine z_iconst (pc' := 84) dX9_take_83 rfl ?_
    refine z_isub (pc' := 85) dX9_take_84 rfl ?_
    refine z_iconst (pc' := 86) dX9_take_85 rfl ?_
    have g18 := zkx_p hsh
    replace hsh := zkx_k hsh
    refine z_iastore (pc' := 87) 0 [(a_p0, zI J n_p0 (va_up v17 (((((p1 + ((15 : Int) * p2)) + (3 : Int)) + (12 : Int)) - (2 : Int))).toNat (0 : Int)))] dX9_take_86 rfl hn_p0 g18 rfl rfl ?_
    refine z_aload_n (pc' := 88) 0 dX9_take_87 rfl rfl rfl ?_
    refine z_iload_n (pc' := 89) 2 dX9_take_88 rfl rfl rfl ?_
    refine z_iconst (pc' := 90) dX9_take_89 rfl ?_
    refine z_iadd (pc' := 91) dX9_take_90 rfl ?_
    refine z_bipush (pc' := 93) dX9_take_91 (by decide) rfl ?_
    refine z_iadd (pc' := 94) dX9_take_93 rfl ?_
    refine z_iconst (pc' := 95) dX9_take_94 rfl ?_
    refine z_isub (pc' := 96) dX9_take_95 rfl ?_
    refine z_iconst (pc' := 97) dX9_take_96 rfl ?_
    have g19 := zkx_p hsh
    replace hsh := zkx_k hsh
    refine z_iastore (pc' := 98) 0 [(a_p0, zI J n_p0 (va_up (va_up v17 (((((p1 + ((15 : Int) * p2)) + (3 : Int)) + (12 : Int)) - (2 : Int))).toNat (0 : Int)) (((((p1 + ((15 : Int) * p2)) + (3 : Int)) + (12 : Int)) - (1 : Int))).toNat (0 : Int)))] dX9_take_97 rfl hn_p0 g19 rfl rfl ?_
    refine z_aload_n (pc' := 99) 0 dX9_take_98 rfl rfl rfl ?_
    refine z_iload_n (pc' := 100) 2 dX9_take_99 rfl rfl rfl ?_
    refine z_iconst (pc' := 101) dX9_take_100 rfl ?_
    refine z_iadd (pc' := 102) dX9_take_101 rfl ?_
    refine z_dup2 (pc' := 103) dX9_take_102 rfl rfl rfl ?_
    have g20 := zkx_p hsh
    replace hsh := zkx_k hsh
    refine z_iaload (pc' := 104) 0 dX9_take_103 rfl hn_p0 g20 rfl ?_
    refine z_iconst (pc' := 105) dX9_take_104 rfl ?_
    refine z_iadd (pc' := 106) dX9_take_105 rfl ?_
    refine z_iastore (pc' := 107) 0 [(a_p0, zI J n_p0 (va_up (va_up (va_up v17 (((((p1 + ((15 : Int) * p2)) + (3 : Int)) + (12 : Int)) - (2 : Int))).toNat (0 : Int)) (((((p1 + ((15 : Int) * p2)) + (3 : Int)) + (12 : Int)) - (1 : Int))).toNat (0 : Int)) (((p1 + ((15 : Int) * p2)) + (0 : Int))).toNat (((va_up (va_up v17 (((((p1 + ((15 : Int) * p2)) + (3 : Int)) + (12 : Int)) - (2 : Int))).toNat (0 : Int)) (((((p1 + ((15 : Int) * p2)) + (3 : Int)) + (12 : Int)) - (1 : Int))).toNat (0 : Int)) (((p1 + ((15 : Int) * p2)) + (0 : Int))).toNat) + (1 : Int))))] dX9_take_106 rfl hn_p0 g20 rfl rfl ?_
    refine z_aload_n (pc' := 108) 0 dX9_take_107 rfl rfl rfl ?_
    refine z_iload_n (pc' := 109) 1 dX9_take_108 rfl rfl rfl ?_
    refine z_sipush (pc' := 112) dX9_take_109 (by decide) rfl ?_
    refine z_iadd (pc' := 113) dX9_take_112 rfl ?_
    refine z_dup2 (pc' := 114) dX9_take_113 rfl rfl rfl ?_
    have g21 := zkx_p hsh
    replace hsh := zkx_k hsh
    refine z_iaload (pc' := 115) 0 dX9_take_114 rfl hn_p0 g21 rfl ?_
    refine z_iconst (pc' := 116) dX9_take_115 rfl ?_
    refine z_iadd (pc' := 117) dX9_take_116 rfl ?_
    refine z_iastore (pc' := 118) 0 [(a_p0, zI J n_p0 (va_up (va_up (va_up (va_up v17 (((((p1 + ((15 : Int) * p2)) + (3 : Int)) + (12 : Int)) - (2 : Int))).toNat (0 : Int)) (((((p1 + ((15 : Int) * p2)) + (3 : Int)) + (12 : Int)) - (1 : Int))).toNat (0 : Int)) (((p1 + ((15 : Int) * p2)) + (0 : Int))).toNat (((va_up (va_up v17 (((((p1 + ((15 : Int) * p2)) + (3 : Int)) + (12 : Int)) - (2 : Int))).toNat (0 : Int)) (((((p1 + ((15 : Int) * p2)) + (3 : Int)) + (12 : Int)) - (1 : Int))).toNat (0 : Int)) (((p1 + ((15 : Int) * p2)) + (0 : Int))).toNat) + (1 : Int))) ((p1 + (241 : Int))).toNat (((va_up (va_up (va_up v17 (((((p1 + ((15 : Int) * p2)) + (3 : Int)) + (12 : Int)) - (2 : Int))).toNat (0 : Int)) (((((p1 + ((15 : Int) * p2)) + (3 : Int)) + (12 : Int)) - (1 : Int))).toNat (0 : Int)) (((p1 + ((15 : Int) * p2)) + (0 : Int))).toNat (((va_up (va_up v17 (((((p1 + ((15 : Int) * p2)) + (3 : Int)) + (12 : Int)) - (2 : Int))).toNat (0 : Int)) (((((p1 + ((15 : Int) * p2)) + (3 : Int)) + (12 : Int)) - (1 : Int))).toNat (0 : Int)) (((p1 + ((15 : Int) * p2)) + (0 : Int))).toNat) + (1 : Int))) ((p1 + (241 : Int))).toNat) + (1 : Int))))] dX9_take_117 rfl hn_p0 g21 rfl rfl ?_
    refine z_aload_n (pc' := 119) 0 dX9_take_118 rfl rfl rfl ?_
    refine z_iload_n (pc' := 120) 1 dX9_take_119 rfl rfl rfl ?_
    refine z_sipush (pc' := 123) dX9_take_120 (by decide) rfl ?_
    refine z_iadd (pc' := 124) dX9_take_123 rfl ?_
    refine z_dup2 (pc' := 125) dX9_take_124 rfl rfl rfl ?_
    have g22 := zkx_p hsh
    replace hsh := zkx_k hsh
    refine z_iaload (pc' := 126) 0 dX9_take_125 rfl hn_p0 g22 rfl ?_
    refine z_iload (pc' := 128) 3 dX9_take_126 rfl rfl ?_
    refine z_iadd (pc' := 129) dX9_take_128 rfl ?_
    refine z_iastore (pc' := 130) 0 [(a_p0, zI J n_p0 (va_up (va_up (va_up (va_up (va_up v17 (((((p1 + ((15 : Int) * p2)) + (3 : Int)) + (12 : Int)) - (2 : Int))).toNat (0 : Int)) (((((p1 + ((15 : Int) * p2)) + (3 : Int)) + (12 : Int)) - (1 : Int))).toNat (0 : Int)) (((p1 + ((15 : Int) * p2)) + (0 : Int))).toNat (((va_up (va_up v17 (((((p1 + ((15 : Int) * p2)) + (3 : Int)) + (12 : Int)) - (2 : Int))).toNat (0 : Int)) (((((p1 + ((15 : Int) * p2)) + (3 : Int)) + (12 : Int)) - (1 : Int))).toNat (0 : Int)) (((p1 + ((15 : Int) * p2)) + (0 : Int))).toNat) + (1 : Int))) ((p1 + (241 : Int))).toNat (((va_up (va_up (va_up v17 (((((p1 + ((15 : Int) * p2)) + (3 : Int)) + (12 : Int)) - (2 : Int))).toNat (0 : Int)) (((((p1 + ((15 : Int) * p2)) + (3 : Int)) + (12 : Int)) - (1 : Int))).toNat (0 : Int)) (((p1 + ((15 : Int) * p2)) + (0 : Int))).toNat (((va_up (va_up v17 (((((p1 + ((15 : Int) * p2)) + (3 : Int)) + (12 : Int)) - (2 : Int))).toNat (0 : Int)) (((((p1 + ((15 : Int) * p2)) + (3 : Int)) + (12 : Int)) - (1 : Int))).toNat (0 : Int)) (((p1 + ((15 : Int) * p2)) + (0 : Int))).toNat) + (1 : Int))) ((p1 + (241 : Int))).toNat) + (1 : Int))) ((p1 + (242 : Int))).toNat (((va_up (va_up (va_up (va_up v17 (((((p1 + ((15 : Int) * p2)) + (3 : Int)) + (12 : Int)) - (2 : Int))).toNat (0 : Int)) (((((p1 + ((15 : Int) * p2)) + (3 : Int)) + (12 : Int)) - (1 : Int))).toNat (0 : Int)) (((p1 + ((15 : Int) * p2)) + (0 : Int))).toNat (((va_up (va_up v17 (((((p1 + ((15 : Int) * p2)) + (3 : Int)) + (12 : Int)) - (2 : Int))).toNat (0 : Int)) (((((p1 + ((15 : Int) * p2)) + (3 : Int)) + (12 : Int)) - (1 : Int))).toNat (0 : Int)) (((p1 + ((15 : Int) * p2)) + (0 : Int))).toNat) + (1 : Int))) ((p1 + (241 : Int))).toNat (((va_up (va_up (va_up v17 (((((p1 + ((15 : Int) * p2)) + (3 : Int)) + (12 : Int)) - (2 : Int))).toNat (0 : Int)) (((((p1 + ((15 : Int) * p2)) + (3 : Int)) + (12 : Int)) - (1 : Int))).toNat (0 : Int)) (((p1 + ((15 : Int) * p2)) + (0 : Int))).toNat (((va_up (va_up v17 (((((p1 + ((15 : Int) * p2)) + (3 : Int)) + (12 : Int)) - (2 : Int))).toNat (0 : Int)) (((((p1 + ((15 : Int) * p2)) + (3 : Int)) + (12 : Int)) - (1 : Int))).toNat (0 : Int)) (((p1 + ((15 : Int) * p2)) + (0 : Int))).toNat) + (1 : Int))) ((p1 + (241 : Int))).toNat) + (1 : Int))) ((p1 + (242 : Int))).toNat) + (f_p0 ((((p1 + ((15 : Int) * p2)) + (3 : Int)) + (1 : Int))).toNat))))] dX9_take_129 rfl hn_p0 g22 rfl rfl ?_
    refine z_iload (pc' := 132) 3 dX9_take_130 rfl rfl ?_
    cases hsh
    exact z_iret rfl dX9_take_132 ⟨rfl, rfl⟩
