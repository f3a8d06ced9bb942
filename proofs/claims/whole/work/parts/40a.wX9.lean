def sh_X9_init (F : Nat) : Option (Int × Int × (Nat → Int)) := some ((2 : Int), (2 : Int), (va_up (fun _ => 0) ((240 : Int)).toNat (2 : Int)))
theorem mX9_init_oi : Cond.methodLink RX9 1 objectInit ∈ wsX9_init := List.mem_of_getElem? (i := 1) rfl
theorem mX9_init_oim : Cond.instanceMethod objectInit ∈ wsX9_init := List.mem_of_getElem? (i := 2) rfl
theorem mX9_init_oic : Cond.code objectInit ⟨#[0xb1]⟩ 1 none ∈ wsX9_init := List.mem_of_getElem? (i := 3) rfl
theorem mX9_init_f7 : Cond.fieldLink RX9 7 (TX9 1).1 (TX9 1).2.1 (TX9 1).2.2.1 ∈ wsX9_init := List.mem_of_getElem? (i := 4) rfl
theorem iX9_init_X9 : ∀ w ∈ wsX90, w ∈ wsX9_init := fun _ h => (List.mem_cons_of_mem _ (List.mem_append_right _ h))
theorem mX9_init_f13 : Cond.fieldLink RX9 13 (TX9 2).1 (TX9 2).2.1 (TX9 2).2.2.1 ∈ wsX9_init := List.mem_of_getElem? (i := 5) rfl
theorem mX9_init_aint : Cond.arrayClass .int ∈ wsX9_init := List.mem_of_getElem? (i := 6) rfl
theorem mX9_init_f16 : Cond.fieldLink RX9 16 (TX9 3).1 (TX9 3).2.1 (TX9 3).2.2.1 ∈ wsX9_init := List.mem_of_getElem? (i := 7) rfl
theorem mX9_init_f20 : Cond.fieldLink RX9 20 (TX9 4).1 (TX9 4).2.1 (TX9 4).2.2.1 ∈ wsX9_init := List.mem_of_getElem? (i := 8) rfl
theorem mX9_init_f23 : Cond.fieldLink RX9 23 (TX9 5).1 (TX9 5).2.1 (TX9 5).2.2.1 ∈ wsX9_init := List.mem_of_getElem? (i := 9) rfl
theorem mX9_init_f26 : Cond.fieldLink RX9 26 (TX9 8).1 (TX9 8).2.1 (TX9 8).2.2.1 ∈ wsX9_init := List.mem_of_getElem? (i := 10) rfl
theorem mX9_init_aboolean : Cond.arrayClass .boolean ∈ wsX9_init := List.mem_of_getElem? (i := 11) rfl
theorem mX9_init_f29 : Cond.fieldLink RX9 29 (TX9 9).1 (TX9 9).2.1 (TX9 9).2.2.1 ∈ wsX9_init := List.mem_of_getElem? (i := 12) rfl
theorem mX9_init_f33 : Cond.fieldLink RX9 33 (TX9 10).1 (TX9 10).2.1 (TX9 10).2.2.1 ∈ wsX9_init := List.mem_of_getElem? (i := 13) rfl
theorem mX9_init_f36 : Cond.fieldLink RX9 36 (TX9 13).1 (TX9 13).2.1 (TX9 13).2.2.1 ∈ wsX9_init := List.mem_of_getElem? (i := 14) rfl
theorem mX9_init_f39 : Cond.fieldLink RX9 39 (TX9 16).1 (TX9 16).2.1 (TX9 16).2.2.1 ∈ wsX9_init := List.mem_of_getElem? (i := 15) rfl
theorem mX9_init_f42 : Cond.fieldLink RX9 42 (TX9 17).1 (TX9 17).2.1 (TX9 17).2.2.1 ∈ wsX9_init := List.mem_of_getElem? (i := 16) rfl
theorem mX9_init_f45 : Cond.fieldLink RX9 45 (TX9 18).1 (TX9 18).2.1 (TX9 18).2.2.1 ∈ wsX9_init := List.mem_of_getElem? (i := 17) rfl
theorem mX9_init_f48 : Cond.fieldLink RX9 48 (TX9 19).1 (TX9 19).2.1 (TX9 19).2.2.1 ∈ wsX9_init := List.mem_of_getElem? (i := 18) rfl
set_option maxRecDepth 100000 in
set_option maxHeartbeats 4000000 in
theorem zc_X9_init (l : Launch) (D : va_G) (J : Nat → ClassId) (F : Nat) (a_t : Nat) (res : Int × Int × (Nat → Int)) (hsh : sh_X9_init F = some res) : ZM l D J yX9_init wsX9_init ({ frames := 1, cells := 11, slots := 5736, locals := 20 } : Room) 11 5736 [.ref a_t] [(a_t, .inr (8, [.int (zi (0 : Int)), .int (zi (0 : Int)), .int (zi (0 : Int)), .null, .null, .null, .int (zi (0 : Int)), .int (zi (0 : Int)), .null, .null, .null, .int (zi (0 : Int)), .int (zi (0 : Int)), .null, .int (zi (0 : Int)), .int (zi (0 : Int)), .null, .null, .null, .null]))] (fun rv w9 => rv = none ∧ ∃ a_t_now a_t_trial a_t_diary a_t_kept a_t_isKept a_t_script a_t_read a_t_wanted a_t_level a_t_chosen a_t_best : Nat, w9 = [(a_t, .inr (8, [.int (zi (0 : Int)), .int (zi res.1), .int (zi res.2.1), .ref a_t_now, .ref a_t_trial, .ref a_t_diary, .int (zi (0 : Int)), .int (zi (0 : Int)), .ref a_t_kept, .ref a_t_isKept, .ref a_t_script, .int (zi (0 : Int)), .int (zi (0 : Int)), .ref a_t_read, .int (zi (0 : Int)), .int (zi (0 : Int)), .ref a_t_wanted, .ref a_t_level, .ref a_t_chosen, .ref a_t_best])), (a_t_now, zI J 243 res.2.2), (a_t_trial, zI J 243 (fun _ => 0)), (a_t_diary, zI J 3402 (fun _ => 0)), (a_t_kept, zI J 486 (fun _ => 0)), (a_t_isKept, zB J 2 (fun _ => 0)), (a_t_script, zI J 120 (fun _ => 0)), (a_t_read, zI J 243 (fun _ => 0)), (a_t_wanted, zI J 16 (fun _ => 0)), (a_t_level, zI J 972 (fun _ => 0)), (a_t_chosen, zI J 4 (fun _ => 0)), (a_t_best, zI J 5 (fun _ => 0))]) := by
  refine z_ofZ (cc := cX9_init) (maxL := 1) (ret := none) 11 5736 (by decide) rfl (Nat.le_of_ble_eq_true rfl) [(0, .ref a_t)] rfl ?_
  intro p e s m args below meth c A
  unfold sh_X9_init at hsh
  refine z_aload_n (pc' := 1) 0 dX9_init_0 rfl rfl rfl ?_
  refine z_objInit (pc' := 4) dX9_init_1 mX9_init_oi mX9_init_oim mX9_init_oic (Nat.le_of_ble_eq_true rfl) (Nat.le_of_ble_eq_true rfl) rfl ?_
  refine z_aload_n (pc' := 5) 0 dX9_init_4 rfl rfl rfl ?_
  refine z_iconst (pc' := 6) dX9_init_5 rfl ?_
  refine z_putfield (pc' := 9) (C := RX9) (T := TX9) (N := 20) (ty := .int) 0 1 [(a_t, .inr (8, [.int (zi (0 : Int)), .int (zi (2 : Int)), .int (zi (0 : Int)), .null, .null, .null, .int (zi (0 : Int)), .int (zi (0 : Int)), .null, .null, .null, .int (zi (0 : Int)), .int (zi (0 : Int)), .null, .int (zi (0 : Int)), .int (zi (0 : Int)), .null, .null, .null, .null]))] tyX9 tyX9_ok nmX9 dX9_init_6 iX9_init_X9 rfl rfl (by decide) mX9_init_f7 rfl (by decide +kernel) rfl rfl (Nat.le_of_ble_eq_true rfl) rfl rfl rfl ?_
  refine z_aload_n (pc' := 10) 0 dX9_init_9 rfl rfl rfl ?_
  refine z_iconst (pc' := 11) dX9_init_10 rfl ?_
  refine z_putfield (pc' := 14) (C := RX9) (T := TX9) (N := 20) (ty := .int) 0 2 [(a_t, .inr (8, [.int (zi (0 : Int)), .int (zi (2 : Int)), .int (zi (2 : Int)), .null, .null, .null, .int (zi (0 : Int)), .int (zi (0 : Int)), .null, .null, .null, .int (zi (0 : Int)), .int (zi (0 : Int)), .null, .int (zi (0 : Int)), .int (zi (0 : Int)), .null, .null, .null, .null]))] tyX9 tyX9_ok nmX9 dX9_init_11 iX9_init_X9 rfl rfl (by decide) mX9_init_f13 rfl (by decide +kernel) rfl rfl (Nat.le_of_ble_eq_true rfl) rfl rfl rfl ?_
  refine z_aload_n (pc' := 15) 0 dX9_init_14 rfl rfl rfl ?_
  refine z_sipush (pc' := 18) dX9_init_15 (by decide) rfl ?_
  refine z_newarr_int (pc' := 20) 243 1 243 dX9_init_18 mX9_init_aint rfl (by decide) rfl rfl (Nat.le_of_ble_eq_true rfl) (Nat.le_of_ble_eq_true rfl) rfl (fun b1 => ?_)
  refine z_ws [(a_t, .inr (8, [.int (zi (0 : Int)), .int (zi (2 : Int)), .int (zi (2 : Int)), .null, .null, .null, .int (zi (0 : Int)), .int (zi (0 : Int)), .null, .null, .null, .int (zi (0 : Int)), .int (zi (0 : Int)), .null, .int (zi (0 : Int)), .int (zi (0 : Int)), .null, .null, .null, .null])), (b1, zI J 243 (fun _ => 0))] rfl ?_
  refine z_putfin (pc' := 23) (C := RX9) (T := TX9) (N := 20) (ty := tyX9 3) 0 3 [(a_t, .inr (8, [.int (zi (0 : Int)), .int (zi (2 : Int)), .int (zi (2 : Int)), .ref b1, .null, .null, .int (zi (0 : Int)), .int (zi (0 : Int)), .null, .null, .null, .int (zi (0 : Int)), .int (zi (0 : Int)), .null, .int (zi (0 : Int)), .int (zi (0 : Int)), .null, .null, .null, .null])), (b1, zI J 243 (fun _ => 0))] tyX9 tyX9_ok nmX9 dX9_init_20 iX9_init_X9 rfl rfl (by decide) mX9_init_f16 rfl rfl rfl (tyX9_ok 3 (by decide)) rfl rfl (Nat.le_of_ble_eq_true rfl) rfl rfl ?_
  refine z_aload_n (pc' := 24) 0 dX9_init_23 rfl rfl rfl ?_
  refine z_sipush (pc' := 27) dX9_init_24 (by decide) rfl ?_
  refine z_newarr_int (pc' := 29) 243 2 486 dX9_init_27 mX9_init_aint rfl (by decide) rfl rfl (Nat.le_of_ble_eq_true rfl) (Nat.le_of_ble_eq_true rfl) rfl (fun b2 => ?_)
  refine z_ws [(a_t, .inr (8, [.int (zi (0 : Int)), .int (zi (2 : Int)), .int (zi (2 : Int)), .ref b1, .null, .null, .int (zi (0 : Int)), .int (zi (0 : Int)), .null, .null, .null, .int (zi (0 : Int)), .int (zi (0 : Int)), .null, .int (zi (0 : Int)), .int (zi (0 : Int)), .null, .null, .null, .null])), (b1, zI J 243 (fun _ => 0)), (b2, zI J 243 (fun _ => 0))] rfl ?_
  refine z_putfin (pc' := 32) (C := RX9) (T := TX9) (N := 20) (ty := tyX9 4) 0 4 [(a_t, .inr (8, [.int (zi (0 : Int)), .int (zi (2 : Int)), .int (zi (2 : Int)), .ref b1, .ref b2, .null, .int (zi (0 : Int)), .int (zi (0 : Int)), .null, .null, .null, .int (zi (0 : Int)), .int (zi (0 : Int)), .null, .int (zi (0 : Int)), .int (zi (0 : Int)), .null, .null, .null, .null])), (b1, zI J 243 (fun _ => 0)), (b2, zI J 243 (fun _ => 0))] tyX9 tyX9_ok nmX9 dX9_init_29 iX9_init_X9 rfl rfl (by decide) mX9_init_f20 rfl rfl rfl (tyX9_ok 4 (by decide)) rfl rfl (Nat.le_of_ble_eq_true rfl) rfl rfl ?_
  refine z_aload_n (pc' := 33) 0 dX9_init_32 rfl rfl rfl ?_
  refine z_sipush (pc' := 36) dX9_init_33 (by decide) rfl ?_
  refine z_newarr_int (pc' := 38) 3402 3 3888 dX9_init_36 mX9_init_aint rfl (by decide) rfl rfl (Nat.le_of_ble_eq_true rfl) (Nat.le_of_ble_eq_true rfl) rfl (fun b3 => ?_)
  refine z_ws [(a_t, .inr (8, [.int (zi (0 : Int)), .int (zi (2 : Int)), .int (zi (2 : Int)), .ref b1, .ref b2, .null, .int (zi (0 : Int)), .int (zi (0 : Int)), .null, .null, .null, .int (zi (0 : Int)), .int (zi (0 : Int)), .null, .int (zi (0 : Int)), .int (zi (0 : Int)), .null, .null, .null, .null])), (b1, zI J 243 (fun _ => 0)), (b2, zI J 243 (fun _ => 0)), (b3, zI J 3402 (fun _ => 0))] rfl ?_
  refine z_putfin (pc' := 41) (C := RX9) (T := TX9) (N := 20) (ty := tyX9 5) 0 5 [(a_t, .inr (8, [.int (zi (0 : Int)), .int (zi (2 : Int)), .int (zi (2 : Int)), .ref b1, .ref b2, .ref b3, .int (zi (0 : Int)), .int (zi (0 : Int)), .null, .null, .null, .int (zi (0 : Int)), .int (zi (0 : Int)), .null, .int (zi (0 : Int)), .int (zi (0 : Int)), .null, .null, .null, .null])), (b1, zI J 243 (fun _ => 0)), (b2, zI J 243 (fun _ => 0)), (b3, zI J 3402 (fun _ => 0))] tyX9 tyX9_ok nmX9 dX9_init_38 iX9_init_X9 rfl rfl (by decide) mX9_init_f23 rfl rfl rfl (tyX9_ok 5 (by decide)) rfl rfl (Nat.le_of_ble_eq_true rfl) rfl rfl ?_
  refine z_aload_n (pc' := 42) 0 dX9_init_41 rfl rfl rfl ?_
  refine z_sipush (pc' := 45) dX9_init_42 (by decide) rfl ?_
  refine z_newarr_int (pc' := 47) 486 4 4374 dX9_init_45 mX9_init_aint rfl (by decide) rfl rfl (Nat.le_of_ble_eq_true rfl) (Nat.le_of_ble_eq_true rfl) rfl (fun b4 => ?_)
  refine z_ws [(a_t, .inr (8, [.int (zi (0 : Int)), .int (zi (2 : Int)), .int (zi (2 : Int)), .ref b1, .ref b2, .ref b3, .int (zi (0 : Int)), .int (zi (0 : Int)), .null, .null, .null, .int (zi (0 : Int)), .int (zi (0 : Int)), .null, .int (zi (0 : Int)), .int (zi (0 : Int)), .null, .null, .null, .null])), (b1, zI J 243 (fun _ => 0)), (b2, zI J 243 (fun _ => 0)), (b3, zI J 3402 (fun _ => 0)), (b4, zI J 486 (fun _ => 0))] rfl ?_
  refine z_putfin (pc' := 50) (C := RX9) (T := TX9) (N := 20) (ty := tyX9 8) 0 8 [(a_t, .inr (8, [.int (zi (0 : Int)), .int (zi (2 : Int)), .int (zi (2 : Int)), .ref b1, .ref b2, .ref b3, .int (zi (0 : Int)), .int (zi (0 : Int)), .ref b4, .null, .null, .int (zi (0 : Int)), .int (zi (0 : Int)), .null, .int (zi (0 : Int)), .int (zi (0 : Int)), .null, .null, .null, .null])), (b1, zI J 243 (fun _ => 0)), (b2, zI J 243 (fun _ => 0)), (b3, zI J 3402 (fun _ => 0)), (b4, zI J 486 (fun _ => 0))] tyX9 tyX9_ok nmX9 dX9_init_47 iX9_init_X9 rfl rfl (by decide) mX9_init_f26 rfl rfl rfl (tyX9_ok 8 (by decide)) rfl rfl (Nat.le_of_ble_eq_true rfl) rfl rfl ?_
  refine z_aload_n (pc' := 51) 0 dX9_init_50 rfl rfl rfl ?_
  refine z_iconst (pc' := 52) dX9_init_51 rfl ?_
  refine z_newarr_boolean (pc' := 54) 2 5 4376 dX9_init_52 mX9_init_aboolean rfl (by decide) rfl rfl (Nat.le_of_ble_eq_true rfl) (Nat.le_of_ble_eq_true rfl) rfl (fun b5 => ?_)
  refine z_ws [(a_t, .inr (8, [.int (zi (0 : Int)), .int (zi (2 : Int)), .int (zi (2 : Int)), .ref b1, .ref b2, .ref b3, .int (zi (0 : Int)), .int (zi (0 : Int)), .ref b4, .null, .null, .int (zi (0 : Int)), .int (zi (0 : Int)), .null, .int (zi (0 : Int)), .int (zi (0 : Int)), .null, .null, .null, .null])), (b1, zI J 243 (fun _ => 0)), (b2, zI J 243 (fun _ => 0)), (b3, zI J 3402 (fun _ => 0)), (b4, zI J 486 (fun _ => 0)), (b5, zB J 2 (fun _ => 0))] rfl ?_
  refine z_putfin (pc' := 57) (C := RX9) (T := TX9) (N := 20) (ty := tyX9 9) 0 9 [(a_t, .inr (8, [.int (zi (0 : Int)), .int (zi (2 : Int)), .int (zi (2 : Int)), .ref b1, .ref b2, .ref b3, .int (zi (0 : Int)), .int (zi (0 : Int)), .ref b4, .ref b5, .null, .int (zi (0 : Int)), .int (zi (0 : Int)), .null, .int (zi (0 : Int)), .int (zi (0 : Int)), .null, .null, .null, .null])), (b1, zI J 243 (fun _ => 0)), (b2, zI J 243 (fun _ => 0)), (b3, zI J 3402 (fun _ => 0)), (b4, zI J 486 (fun _ => 0)), (b5, zB J 2 (fun _ => 0))] tyX9 tyX9_ok nmX9 dX9_init_54 iX9_init_X9 rfl rfl (by decide) mX9_init_f29 rfl rfl rfl (tyX9_ok 9 (by decide)) rfl rfl (Nat.le_of_ble_eq_true rfl) rfl rfl ?_
  refine z_aload_n (pc' := 58) 0 dX9_init_57 rfl rfl rfl ?_
  refine z_bipush (pc' := 60) dX9_init_58 (by decide) rfl ?_
  refine z_newarr_int (pc' := 62) 120 6 4496 dX9_init_60 mX9_init_aint rfl (by decide) rfl rfl (Nat.le_of_ble_eq_true rfl) (Nat.le_of_ble_eq_true rfl) rfl (fun b6 => ?_)
  refine z_ws [(a_t, .inr (8, [.int (zi (0 : Int)), .int (zi (2 : Int)), .int (zi (2 : Int)), .ref b1, .ref b2, .ref b3, .int (zi (0 : Int)), .int (zi (0 : Int)), .ref b4, .ref b5, .null, .int (zi (0 : Int)), .int (zi (0 : Int)), .null, .int (zi (0 : Int)), .int (zi (0 : Int)), .null, .null, .null, .null])), (b1, zI J 243 (fun _ => 0)), (b2, zI J 243 (fun _ => 0)), (b3, zI J 3402 (fun _ => 0)), (b4, zI J 486 (fun _ => 0)), (b5, zB J 2 (fun _ => 0)), (b6, zI J 120 (fun _ => 0))] rfl ?_
  refine z_putfin (pc' := 65) (C := RX9) (T := TX9) (N := 20) (ty := tyX9 10) 0 10 [(a_t, .inr (8, [.int (zi (0 : Int)), .int (zi (2 : Int)), .int (zi (2 : Int)), .ref b1, .ref b2, .ref b3, .int (zi (0 : Int)), .int (zi (0 : Int)), .ref b4, .ref b5, .ref b6, .int (zi (0 : Int)), .int (zi (0 : Int)), .null, .int (zi (0 : Int)), .int (zi (0 : Int)), .null, .null, .null, .null])), (b1, zI J 243 (fun _ => 0)), (b2, zI J 243 (fun _ => 0)), (b3, zI J 3402 (fun _ => 0)), (b4, zI J 486 (fun _ => 0)), (b5, zB J 2 (fun _ => 0)), (b6, zI J 120 (fun _ => 0))] tyX9 tyX9_ok nmX9 dX9_init_62 iX9_init_X9 rfl rfl (by decide) mX9_init_f33 rfl rfl rfl (tyX9_ok 10 (by decide)) rfl rfl (Nat.le_of_ble_eq_true rfl) rfl rfl ?_
  refine z_aload_n (pc' := 66) 0 dX9_init_65 rfl rfl rfl ?_
  refine z_sipush (pc' := 69) dX9_init_66 (by decide) rfl ?_
  refine z_newarr_int (pc' := 71) 243 7 4739 dX9_init_69 mX9_init_aint rfl (by decide) rfl rfl (Nat.le_of_ble_eq_true rfl) (Nat.le_of_ble_eq_true rfl) rfl (fun b7 => ?_)
  refine z_ws [(a_t, .inr (8, [.int (zi (0 : Int)), .int (zi (2 : Int)), .int (zi (2 : Int)), .ref b1, .ref b2, .ref b3, .int (zi (0 : Int)), .int (zi (0 : Int)), .ref b4, .ref b5, .ref b6, .int (zi (0 : Int)), .int (zi (0 : Int)), .null, .int (zi (0 : Int)), .int (zi (0 : Int)), .null, .null, .null, .null])), (b1, zI J 243 (fun _ => 0)), (b2, zI J 243 (fun _ => 0)), (b3, zI J 3402 (fun _ => 0)), (b4, zI J 486 (fun _ => 0)), (b5, zB J 2 (fun _ => 0)), (b6, zI J 120 (fun _ => 0)), (b7, zI J 243 (fun _ => 0))] rfl ?_
  refine z_putfin (pc' := 74) (C := RX9) (T := TX9) (N := 20) (ty := tyX9 13) 0 13 [(a_t, .inr (8, [.int (zi (0 : Int)), .int (zi (2 : Int)), .int (zi (2 : Int)), .ref b1, .ref b2, .ref b3, .int (zi (0 : Int)), .int (zi (0 : Int)), .ref b4, .ref b5, .ref b6, .int (zi (0 : Int)), .int (zi (0 : Int)), .ref b7, .int (zi (0 : Int)), .int (zi (0 : Int)), .null, .null, .null, .null])), (b1, zI J 243 (fun _ => 0)), (b2, zI J 243 (fun _ => 0)), (b3, zI J 3402 (fun _ => 0)), (b4, zI J 486 (fun _ => 0)), (b5, zB J 2 (fun _ => 0)), (b6, zI J 120 (fun _ => 0)), (b7, zI J 243 (fun _ => 0))] tyX9 tyX9_ok nmX9 dX9_init_71 iX9_init_X9 rfl rfl (by decide) mX9_init_f36 rfl rfl rfl (tyX9_ok 13 (by decide)) rfl rfl (Nat.le_of_ble_eq_true rfl) rfl rfl ?_
  refine z_aload_n (pc' := 75) 0 dX9_init_74 rfl rfl rfl ?_
  refine z_bipush (pc' := 77) dX9_init_75 (by decide) rfl ?_
  refine z_newarr_int (pc' := 79) 16 8 4755 dX9_init_77 mX9_init_aint rfl (by decide) rfl rfl (Nat.le_of_ble_eq_true rfl) (Nat.le_of_ble_eq_true rfl) rfl (fun b8 => ?_)
  refine z_ws [(a_t, .inr (8, [.int (zi (0 : Int)), .int (zi (2 : Int)), .int (zi (2 : Int)), .ref b1, .ref b2, .ref b3, .int (zi (0 : Int)), .int (zi (0 : Int)), .ref b4, .ref b5, .ref b6, .int (zi (0 : Int)), .int (zi (0 : Int)), .ref b7, .int (zi (0 : Int)), .int (zi (0 : Int)), .null, .null, .null, .null])), (b1, zI J 243 (fun _ => 0)), (b2, zI J 243 (fun _ => 0)), (b3, zI J 3402 (fun _ => 0)), (b4, zI J 486 (fun _ => 0)), (b5, zB J 2 (fun _ => 0)), (b6, zI J 120 (fun _ => 0)), (b7, zI J 243 (fun _ => 0)), (b8, zI J 16 (fun _ => 0))] rfl ?_
  refine z_putfin (pc' := 82) (C := RX9) (T := TX9) (N := 20) (ty := tyX9 16) 0 16 [(a_t, .inr (8, [.int (zi (0 : Int)), .int (zi (2 : Int)), .int (zi (2 : Int)), .ref b1, .ref b2, .ref b3, .int (zi (0 : Int)), .int (zi (0 : Int)), .ref b4, .ref b5, .ref b6, .int (zi (0 : Int)), .int (zi (0 : Int)), .ref b7, .int (zi (0 : Int)), .int (zi (0 : Int)), .ref b8, .null, .null, .null])), (b1, zI J 243 (fun _ => 0)), (b2, zI J 243 (fun _ => 0)), (b3, zI J 3402 (fun _ => 0)), (b4, zI J 486 (fun _ => 0)), (b5, zB J 2 (fun _ => 0)), (b6, zI J 120 (fun _ => 0)), (b7, zI J 243 (fun _ => 0)), (b8, zI J 16 (fun _ => 0))] tyX9 tyX9_ok nmX9 dX9_init_79 iX9_init_X9 rfl rfl (by decide) mX9_init_f39 rfl rfl rfl (tyX9_ok 16 (by decide)) rfl rfl (Nat.le_of_ble_eq_true rfl) rfl rfl ?_
  refine z_aload_n (pc' := 83) 0 dX9_init_82 rfl rfl rfl ?_
  refine z_sipush (pc' := 86) dX9_init_83 (by decide) rfl ?_
  refine z_newarr_int (pc' := 88) 972 9 5727 dX9_init_86 mX9_init_aint rfl (by decide) rfl rfl (Nat.le_of_ble_eq_true rfl) (Nat.le_of_ble_eq_true rfl) rfl (fun b9 => ?_)
  refine z_ws [(a_t, .inr (8, [.int (zi (0 : Int)), .int (zi (2 : Int)), .int (zi (2 : Int)), .ref b1, .ref b2, .ref b3, .int (zi (0 : Int)), .int (zi (0 : Int)), .ref b4, .ref b5, .ref b6, .int (zi (0 : Int)), .int (zi (0 : Int)), .ref b7, .int (zi (0 : Int)), .int (zi (0 : Int)), .ref b8, .null, .null, .null])), (b1, zI J 243 (fun _ => 0)), (b2, zI J 243 (fun _ => 0)), (b3, zI J 3402 (fun _ => 0)), (b4, zI J 486 (fun _ => 0)), (b5, zB J 2 (fun _ => 0)), (b6, zI J 120 (fun _ => 0)), (b7, zI J 243 (fun _ => 0)), (b8, zI J 16 (fun _ => 0)), (b9, zI J 972 (fun _ => 0))] rfl ?_
  refine z_putfin (pc' := 91) (C := RX9) (T := TX9) (N := 20) (ty := tyX9 17) 0 17 [(a_t, .inr (8, [.int (zi (0 : Int)), .int (zi (2 : Int)), .int (zi (2 : Int)), .ref b1, .ref b2, .ref b3, .int (zi (0 : Int)), .int (zi (0 : Int)), .ref b4, .ref b5, .ref b6, .int (zi (0 : Int)), .int (zi (0 : Int)), .ref b7, .int (zi (0 : Int)), .int (zi (0 : Int)), .ref b8, .ref b9, .null, .null])), (b1, zI J 243 (fun _ => 0)), (b2, zI J 243 (fun _ => 0)), (b3, zI J 3402 (fun _ => 0)), (b4, zI J 486 (fun _ => 0)), (b5, zB J 2 (fun _ => 0)), (b6, zI J 120 (fun _ => 0)), (b7, zI J 243 (fun _ => 0)), (b8, zI J 16 (fun _ => 0)), (b9, zI J 972 (fun _ => 0))] tyX9 tyX9_ok nmX9 dX9_init_88 iX9_init_X9 rfl rfl (by decide) mX9_init_f42 rfl rfl rfl (tyX9_ok 17 (by decide)) rfl rfl (Nat.le_of_ble_eq_true rfl) rfl rfl ?_
  refine z_aload_n (pc' := 92) 0 dX9_init_91 rfl rfl rfl ?_
  refine z_iconst (pc' := 93) dX9_init_92 rfl ?_
  refine z_newarr_int (pc' := 95) 4 10 5731 dX9_init_93 mX9_init_aint rfl (by decide) rfl rfl (Nat.le_of_ble_eq_true rfl) (Nat.le_of_ble_eq_true rfl) rfl (fun b10 => ?_)
  refine z_ws [(a_t, .inr (8, [.int (zi (0 : Int)), .int (zi (2 : Int)), .int (zi (2 : Int)), .ref b1, .ref b2, .ref b3, .int (zi (0 : Int)), .int (zi (0 : Int)), .ref b4, .ref b5, .ref b6, .int (zi (0 : Int)), .int (zi (0 : Int)), .ref b7, .int (zi (0 : Int)), .int (zi (0 : Int)), .ref b8, .ref b9, .null, .null])), (b1, zI J 243 (fun _ => 0)), (b2, zI J 243 (fun _ => 0)), (b3, zI J 3402 (fun _ => 0)), (b4, zI J 486 (fun _ => 0)), (b5, zB J 2 (fun _ => 0)), (b6, zI J 120 (fun _ => 0)), (b7, zI J 243 (fun _ => 0)), (b8, zI J 16 (fun _ => 0)), (b9, zI J 972 (fun _ => 0)), (b10, zI J 4 (fun _ => 0))] rfl ?_
  refine z_putfin (pc' := 98) (C := RX9) (T := TX9) (N := 20) (ty := tyX9 18) 0 18 [(a_t, .inr (8, [.int (zi (0 : Int)), .int (zi (2 : Int)), .int (zi (2 : Int)), .ref b1, .ref b2, .ref b3, .int (zi (0 : Int)), .int (zi (0 : Int)), .ref b4, .ref b5, .ref b6, .int (zi (0 : Int)), .int (zi (0 : Int)), .ref b7, .int (zi (0 : Int)), .int (zi (0 : Int)), .ref b8, .ref b9, .ref b10, .null])), (b1, zI J 243 (fun _ => 0)), (b2, zI J 243 (fun _ => 0)), (b3, zI J 3402 (fun _ => 0)), (b4, zI J 486 (fun _ => 0)), (b5, zB J 2 (fun _ => 0)), (b6, zI J 120 (fun _ => 0)), (b7, zI J 243 (fun _ => 0)), (b8, zI J 16 (fun _ => 0)), (b9, zI J 972 (fun _ => 0)), (b10, zI J 4 (fun _ => 0))] tyX9 tyX9_ok nmX9 dX9_init_95 iX9_init_X9 rfl rfl (by decide) mX9_init_f45 rfl rfl rfl (tyX9_ok 18 (by decide)) rfl rfl (Nat.le_of_ble_eq_true rfl) rfl rfl ?_
  refine z_aload_n (pc' := 99) 0 dX9_init_98 rfl rfl rfl ?_
  refine z_iconst (pc' := 100) dX9_init_99 rfl ?_
  refine z_newarr_int (pc' := 102) 5 11 5736 dX9_init_100 mX9_init_aint rfl (by decide) rfl rfl (Nat.le_of_ble_eq_true rfl) (Nat.le_of_ble_eq_true rfl) rfl (fun b11 => ?_)
  refine z_ws [(a_t, .inr (8, [.int (zi (0 : Int)), .int (zi (2 : Int)), .int (zi (2 : Int)), .ref b1, .ref b2, .ref b3, .int (zi (0 : Int)), .int (zi (0 : Int)), .ref b4, .ref b5, .ref b6, .int (zi (0 : Int)), .int (zi (0 : Int)), .ref b7, .int (zi (0 : Int)), .int (zi (0 : Int)), .ref b8, .ref b9, .ref b10, .null])), (b1, zI J 243 (fun _ => 0)), (b2, zI J 243 (fun _ => 0)), (b3, zI J 3402 (fun _ => 0)), (b4, zI J 486 (fun _ => 0)), (b5, zB J 2 (fun _ => 0)), (b6, zI J 120 (fun _ => 0)), (b7, zI J 243 (fun _ => 0)), (b8, zI J 16 (fun _ => 0)), (b9, zI J 972 (fun _ => 0)), (b10, zI J 4 (fun _ => 0)), (b11, zI J 5 (fun _ => 0))] rfl ?_
  refine z_putfin (pc' := 105) (C := RX9) (T := TX9) (N := 20) (ty := tyX9 19) 0 19 [(a_t, .inr (8, [.int (zi (0 : Int)), .int (zi (2 : Int)), .int (zi (2 : Int)), .ref b1, .ref b2, .ref b3, .int (zi (0 : Int)), .int (zi (0 : Int)), .ref b4, .ref b5, .ref b6, .int (zi (0 : Int)), .int (zi (0 : Int)), .ref b7, .int (zi (0 : Int)), .int (zi (0 : Int)), .ref b8, .ref b9, .ref b10, .ref b11])), (b1, zI J 243 (fun _ => 0)), (b2, zI J 243 (fun _ => 0)), (b3, zI J 3402 (fun _ => 0)), (b4, zI J 486 (fun _ => 0)), (b5, zB J 2 (fun _ => 0)), (b6, zI J 120 (fun _ => 0)), (b7, zI J 243 (fun _ => 0)), (b8, zI J 16 (fun _ => 0)), (b9, zI J 972 (fun _ => 0)), (b10, zI J 4 (fun _ => 0)), (b11, zI J 5 (fun _ => 0))] tyX9 tyX9_ok nmX9 dX9_init_102 iX9_init_X9 rfl rfl (by decide) mX9_init_f48 rfl rfl rfl (tyX9_ok 19 (by decide)) rfl rfl (Nat.le_of_ble_eq_true rfl) rfl rfl ?_
  refine z_aload_n (pc' := 106) 0 dX9_init_105 rfl rfl rfl ?_
  refine z_getfield (pc' := 109) (C := RX9) (T := TX9) (N := 20) 0 3 dX9_init_106 iX9_init_X9 rfl rfl (by decide) mX9_init_f16 rfl rfl ?_
  refine z_sipush (pc' := 112) dX9_init_109 (by decide) rfl ?_
  refine z_iconst (pc' := 113) dX9_init_112 rfl ?_
  refine z_iastore (pc' := 114) 1 [(a_t, .inr (8, [.int (zi (0 : Int)), .int (zi (2 : Int)), .int (zi (2 : Int)), .ref b1, .ref b2, .ref b3, .int (zi (0 : Int)), .int (zi (0 : Int)), .ref b4, .ref b5, .ref b6, .int (zi (0 : Int)), .int (zi (0 : Int)), .ref b7, .int (zi (0 : Int)), .int (zi (0 : Int)), .ref b8, .ref b9, .ref b10, .ref b11])), (b1, zI J 243 (va_up (fun _ => 0) ((240 : Int)).toNat (2 : Int))), (b2, zI J 243 (fun _ => 0)), (b3, zI J 3402 (fun _ => 0)), (b4, zI J 486 (fun _ => 0)), (b5, zB J 2 (fun _ => 0)), (b6, zI J 120 (fun _ => 0)), (b7, zI J 243 (fun _ => 0)), (b8, zI J 16 (fun _ => 0)), (b9, zI J 972 (fun _ => 0)), (b10, zI J 4 (fun _ => 0)), (b11, zI J 5 (fun _ => 0))] dX9_init_113 rfl (by decide) (by decide) rfl rfl ?_
  cases hsh
  exact z_vret rfl dX9_init_114 ⟨rfl, b1, b2, b3, b4, b5, b6, b7, b8, b9, b10, b11, rfl⟩
def sh_X9_in (F : Nat) (p0 : Int) (p1 : Int) (p2 : Int) : Option (Int) := zkl p0 (zkl p1 (if p0 < p1 then some ((0 : Int)) else zkl p2 (if p2 < p0 then some ((0 : Int)) else some ((1 : Int)))))
set_option maxRecDepth 100000 in
set_option maxHeartbeats 4000000 in
theorem zc_X9_in (l : Launch) (D : va_G) (J : Nat → ClassId) (F : Nat) (p0 : Int) (p1 : Int) (p2 : Int) (res : Int) (hsh : sh_X9_in F p0 p1 p2 = some res) : ZM l D J yX9_in wsX9_in ({ frames := 0, cells := 0, slots := 0, locals := 0 } : Room) 0 0 [.long (zl p0), .long (zl p1), .long (zl p2)] [] (fun rv w9 => rv = some (.int (zi res)) ∧ w9 = []) := by
  refine z_ofZ (cc := cX9_in) (maxL := 6) (ret := (some .boolean)) 0 0 (by decide) rfl (Nat.le_of_ble_eq_true rfl) [(0, .long (zl p0)), (2, .long (zl p1)), (4, .long (zl p2))] rfl ?_
  intro p e s m args below meth c A
  unfold sh_X9_in at hsh
  refine z_lload_n (pc' := 1) 0 dX9_in_0 rfl rfl rfl ?_
  refine z_lload_n (pc' := 2) 1 dX9_in_1 rfl rfl rfl ?_
  have g1 := zkl_p hsh
  replace hsh := zkl_k hsh
  have g2 := zkl_p hsh
  replace hsh := zkl_k hsh
  refine z_lcmp_lt (pc' := 6) (tgt := 17) dX9_in_2 dX9_in_3 (by decide) g1 g2 rfl (fun q => ?_) (fun q => ?_)
  · replace hsh := zif_t q hsh
    refine z_iconst (pc' := 18) dX9_in_17 rfl ?_
    cases hsh
    exact z_zret rfl (by decide) dX9_in_18 ⟨rfl, rfl⟩
  · replace hsh := zif_f q hsh
    refine z_lload_n (pc' := 7) 0 dX9_in_6 rfl rfl rfl ?_
    refine z_lload (pc' := 9) 2 dX9_in_7 rfl rfl ?_
    have g3 := zkl_p hsh
    replace hsh := zkl_k hsh
    refine z_lcmp_gt (pc' := 13) (tgt := 17) dX9_in_9 dX9_in_10 (by decide) g1 g3 rfl (fun q => ?_) (fun q => ?_)
    · replace hsh := zif_t q hsh
      refine z_iconst (pc' := 18) dX9_in_17 rfl ?_
      cases hsh
      exact z_zret rfl (by decide) dX9_in_18 ⟨rfl, rfl⟩
    · replace hsh := zif_f q hsh
      refine z_iconst (pc' := 14) dX9_in_13 rfl ?_
      refine z_goto (tgt := 18) dX9_in_14 (by decide) ?_
      cases hsh
      exact z_zret rfl (by decide) dX9_in_18 ⟨rfl, rfl⟩
def sh_X9_refused (F : Nat) (p0 : Int) : Option (Int × Int) := zkr p0 (if (0 : Int) < p0 then some ((1 : Int), p0) else some ((0 : Int), p0))
theorem mX9_refused_f51 : Cond.fieldLink RX9 51 (TX9 0).1 (TX9 0).2.1 (TX9 0).2.2.1 ∈ wsX9_refused := List.mem_of_getElem? (i := 1) rfl
theorem iX9_refused_X9 : ∀ w ∈ wsX90, w ∈ wsX9_refused := fun _ h => (List.mem_cons_of_mem _ (List.mem_append_right _ h))
set_option maxRecDepth 100000 in
set_option maxHeartbeats 4000000 in
theorem zc_X9_refused (l : Launch) (D : va_G) (J : Nat → ClassId) (F : Nat) (a_t : Nat) (a_t_now : Nat) (a_t_trial : Nat) (a_t_diary : Nat) (a_t_kept : Nat) (a_t_isKept : Nat) (a_t_script : Nat) (a_t_read : Nat) (a_t_wanted : Nat) (a_t_level : Nat) (a_t_chosen : Nat) (a_t_best : Nat) (c_t_refusal : Int) (c_t_high : Int) (c_t_wide : Int) (c_t_acts : Int) (c_t_next : Int) (c_t_scriptSize : Int) (c_t_spot : Int) (c_t_readHigh : Int) (c_t_readWide : Int) (p0 : Int) (res : Int × Int) (hsh : sh_X9_refused F p0 = some res) : ZM l D J yX9_refused wsX9_refused ({ frames := 0, cells := 0, slots := 0, locals := 0 } : Room) 0 0 [.ref a_t, .int (zi p0)] [(a_t, .inr (8, [.int (zi c_t_refusal), .int (zi c_t_high), .int (zi c_t_wide), .ref a_t_now, .ref a_t_trial, .ref a_t_diary, .int (zi c_t_acts), .int (zi c_t_next), .ref a_t_kept, .ref a_t_isKept, .ref a_t_script, .int (zi c_t_scriptSize), .int (zi c_t_spot), .ref a_t_read, .int (zi c_t_readHigh), .int (zi c_t_readWide), .ref a_t_wanted, .ref a_t_level, .ref a_t_chosen, .ref a_t_best]))] (fun rv w9 => rv = some (.int (zi res.1)) ∧ w9 = [(a_t, .inr (8, [.int (zi res.2), .int (zi c_t_high), .int (zi c_t_wide), .ref a_t_now, .ref a_t_trial, .ref a_t_diary, .int (zi c_t_acts), .int (zi c_t_next), .ref a_t_kept, .ref a_t_isKept, .ref a_t_script, .int (zi c_t_scriptSize), .int (zi c_t_spot), .ref a_t_read, .int (zi c_t_readHigh), .int (zi c_t_readWide), .ref a_t_wanted, .ref a_t_level, .ref a_t_chosen, .ref a_t_best]))]) := by
  refine z_ofZ (cc := cX9_refused) (maxL := 2) (ret := (some .boolean)) 0 0 (by decide) rfl (Nat.le_of_ble_eq_true rfl) [(0, .ref a_t), (1, .int (zi p0))] rfl ?_
  intro p e s m args below meth c A
  unfold sh_X9_refused at hsh
  refine z_aload_n (pc' := 1) 0 dX9_refused_0 rfl rfl rfl ?_
  refine z_iload_n (pc' := 2) 1 dX9_refused_1 rfl rfl rfl ?_
  refine z_putfield (pc' := 5) (C := RX9) (T := TX9) (N := 20) (ty := .int) 0 0 [(a_t, .inr (8, [.int (zi p0), .int (zi c_t_high), .int (zi c_t_wide), .ref a_t_now, .ref a_t_trial, .ref a_t_diary, .int (zi c_t_acts), .int (zi c_t_next), .ref a_t_kept, .ref a_t_isKept, .ref a_t_script, .int (zi c_t_scriptSize), .int (zi c_t_spot), .ref a_t_read, .int (zi c_t_readHigh), .int (zi c_t_readWide), .ref a_t_wanted, .ref a_t_level, .ref a_t_chosen, .ref a_t_best]))] tyX9 tyX9_ok nmX9 dX9_refused_2 iX9_refused_X9 rfl rfl (by decide) mX9_refused_f51 rfl (by decide +kernel) rfl rfl (Nat.le_of_ble_eq_true rfl) rfl rfl rfl ?_
  refine z_iload_n (pc' := 6) 1 dX9_refused_5 rfl rfl rfl ?_
  have g1 := zkr_p hsh
  replace hsh := zkr_k hsh
  refine z_if_le (pc' := 9) (tgt := 13) dX9_refused_6 (by decide) g1 rfl (fun q => ?_) (fun q => ?_)
  · replace hsh := zif_f q hsh
    refine z_iconst (pc' := 14) dX9_refused_13 rfl ?_
    cases hsh
    exact z_zret rfl (by decide) dX9_refused_14 ⟨rfl, rfl⟩
  · replace hsh := zif_t q hsh
    refine z_iconst (pc' := 10) dX9_refused_9 rfl ?_
    refine z_goto (tgt := 14) dX9_refused_10 (by decide) ?_
    cases hsh
    exact z_zret rfl (by decide) dX9_refused_14 ⟨rfl, rfl⟩
def sh_X9_append (F : Nat) (c_t_scriptSize : Int) (f_t_script : Nat → Int) (p0 : Int) : Option (Int × Int × Int × (Nat → Int)) := zkr p0 ((sh_X9_in F p0 (0 : Int) (255 : Int)).bind (fun (q2 : Int) => zkr q2 (if q2 = (0 : Int) then (sh_X9_refused F (1 : Int)).bind (fun (q14 : Int × Int) => zkr q14.1 (if q14.1 = (0 : Int) then zkx c_t_scriptSize 120 (some ((c_t_scriptSize + (1 : Int)), q14.2, (c_t_scriptSize + (1 : Int)), (va_up f_t_script (c_t_scriptSize).toNat p0))) else some ((0 : Int), q14.2, c_t_scriptSize, f_t_script))) else zkr c_t_scriptSize (if c_t_scriptSize = (120 : Int) then (sh_X9_refused F (2 : Int)).bind (fun (q10 : Int × Int) => zkr q10.1 (if q10.1 = (0 : Int) then zkx c_t_scriptSize 120 (some ((c_t_scriptSize + (1 : Int)), q10.2, (c_t_scriptSize + (1 : Int)), (va_up f_t_script (c_t_scriptSize).toNat p0))) else some ((0 : Int), q10.2, c_t_scriptSize, f_t_script))) else (sh_X9_refused F (0 : Int)).bind (fun (q6 : Int × Int) => zkr q6.1 (if q6.1 = (0 : Int) then zkx c_t_scriptSize 120 (some ((c_t_scriptSize + (1 : Int)), q6.2, (c_t_scriptSize + (1 : Int)), (va_up f_t_script (c_t_scriptSize).toNat p0))) else some ((0 : Int), q6.2, c_t_scriptSize, f_t_script)))))))
theorem mX9_append_k72 : Cond.constantLong RX9 72 (255) ∈ wsX9_append := List.mem_of_getElem? (i := 1) rfl
theorem mX9_append_f74 : Cond.fieldLink RX9 74 (TX9 11).1 (TX9 11).2.1 (TX9 11).2.2.1 ∈ wsX9_append := List.mem_of_getElem? (i := 2) rfl
theorem iX9_append_X9 : ∀ w ∈ wsX90, w ∈ wsX9_append := fun _ h => (List.mem_cons_of_mem _ (List.mem_append_right _ h))
theorem mX9_append_f33 : Cond.fieldLink RX9 33 (TX9 10).1 (TX9 10).2.1 (TX9 10).2.2.1 ∈ wsX9_append := List.mem_of_getElem? (i := 3) rfl
set_option maxRecDepth 100000 in
set_option maxHeartbeats 4000000 in
theorem zc_X9_append (l : Launch) (D : va_G) (J : Nat → ClassId) (F : Nat) (a_t : Nat) (a_t_now : Nat) (a_t_trial : Nat) (a_t_diary : Nat) (a_t_kept : Nat) (a_t_isKept : Nat) (a_t_script : Nat) (a_t_read : Nat) (a_t_wanted : Nat) (a_t_level : Nat) (a_t_chosen : Nat) (a_t_best : Nat) (c_t_refusal : Int) (c_t_high : Int) (c_t_wide : Int) (c_t_acts : Int) (c_t_next : Int) (c_t_scriptSize : Int) (c_t_spot : Int) (c_t_readHigh : Int) (c_t_readWide : Int) (f_t_script : Nat → Int) (p0 : Int) (res : Int × Int × Int × (Nat → Int)) (hsh : sh_X9_append F c_t_scriptSize f_t_script p0 = some res) : ZM l D J yX9_append wsX9_append ({ frames := 1, cells := 0, slots := 0, locals := 25 } : Room) 0 0 [.ref a_t, .int (zi p0)] [(a_t, .inr (8, [.int (zi c_t_refusal), .int (zi c_t_high), .int (zi c_t_wide), .ref a_t_now, .ref a_t_trial, .ref a_t_diary, .int (zi c_t_acts), .int (zi c_t_next), .ref a_t_kept, .ref a_t_isKept, .ref a_t_script, .int (zi c_t_scriptSize), .int (zi c_t_spot), .ref a_t_read, .int (zi c_t_readHigh), .int (zi c_t_readWide), .ref a_t_wanted, .ref a_t_level, .ref a_t_chosen, .ref a_t_best])), (a_t_script, zI J 120 f_t_script)] (fun rv w9 => rv = some (.int (zi res.1)) ∧ w9 = [(a_t, .inr (8, [.int (zi res.2.1), .int (zi c_t_high), .int (zi c_t_wide), .ref a_t_now, .ref a_t_trial, .ref a_t_diary, .int (zi c_t_acts), .int (zi c_t_next), .ref a_t_kept, .ref a_t_isKept, .ref a_t_script, .int (zi res.2.2.1), .int (zi c_t_spot), .ref a_t_read, .int (zi c_t_readHigh), .int (zi c_t_readWide), .ref a_t_wanted, .ref a_t_level, .ref a_t_chosen, .ref a_t_best])), (a_t_script, zI J 120 res.2.2.2)]) := by
  refine z_ofZ (cc := cX9_append) (maxL := 2) (ret := (some .int)) 0 0 (by decide) rfl (Nat.le_of_ble_eq_true rfl) [(0, .ref a_t), (1, .int (zi p0))] rfl ?_
  intro p e s m args below meth c A
  unfold sh_X9_append at hsh
  refine z_aload_n (pc' := 1) 0 dX9_append_0 rfl rfl rfl ?_
  refine z_iload_n (pc' := 2) 1 dX9_append_1 rfl rfl rfl ?_
  have g1 := zkr_p hsh
  replace hsh := zkr_k hsh
  refine z_i2l (pc' := 3) dX9_append_2 g1 rfl ?_
  refine z_lconst (pc' := 4) 0 dX9_append_3 (by decide) rfl ?_
  refine z_ldc2 (pc' := 7) (255 : Int) dX9_append_4 mX9_append_k72 (by decide) rfl ?_
  obtain ⟨q2, h3, hsh⟩ := zbind hsh
  refine z_callS (pc' := 10) (As := [.long (zl p0), .long (zl (0 : Int)), .long (zl (255 : Int))]) (rest := [.ref a_t]) (wr := [(a_t, .inr (8, [.int (zi c_t_refusal), .int (zi c_t_high), .int (zi c_t_wide), .ref a_t_now, .ref a_t_trial, .ref a_t_diary, .int (zi c_t_acts), .int (zi c_t_next), .ref a_t_kept, .ref a_t_isKept, .ref a_t_script, .int (zi c_t_scriptSize), .int (zi c_t_spot), .ref a_t_read, .int (zi c_t_readHigh), .int (zi c_t_readWide), .ref a_t_wanted, .ref a_t_level, .ref a_t_chosen, .ref a_t_best])), (a_t_script, zI J 120 f_t_script)]) 3 (zc_X9_in l D J F (p0 := p0) (p1 := (0 : Int)) (p2 := (255 : Int))  q2 h3) dX9_append_7 gX9_append_X9_in rfl rfl rfl (by decide +kernel) ⟨Nat.le_of_ble_eq_true rfl, Nat.le_of_ble_eq_true rfl⟩ ⟨Nat.le_of_ble_eq_true rfl, Nat.le_of_ble_eq_true rfl⟩ (z_spl_of [0, 1] rfl rfl) rfl rfl (Nat.le_of_ble_eq_true rfl) rfl (fun rv w9 hq => ?_)
  obtain ⟨rfl, rfl⟩ := hq
  refine z_ws [(a_t, .inr (8, [.int (zi c_t_refusal), .int (zi c_t_high), .int (zi c_t_wide), .ref a_t_now, .ref a_t_trial, .ref a_t_diary, .int (zi c_t_acts), .int (zi c_t_next), .ref a_t_kept, .ref a_t_isKept, .ref a_t_script, .int (zi c_t_scriptSize), .int (zi c_t_spot), .ref a_t_read, .int (zi c_t_readHigh), .int (zi c_t_readWide), .ref a_t_wanted, .ref a_t_level, .ref a_t_chosen, .ref a_t_best])), (a_t_script, zI J 120 f_t_script)] rfl ?_
  have g4 := zkr_p hsh
  replace hsh := zkr_k hsh
  refine z_if_ne (pc' := 13) (tgt := 17) dX9_append_10 (by decide) g4 rfl (fun q => ?_) (fun q => ?_)
  · replace hsh := zif_f q hsh
    refine z_aload_n (pc' := 18) 0 dX9_append_17 rfl rfl rfl ?_
    refine z_getfield (pc' := 21) (C := RX9) (T := TX9) (N := 20) 0 11 dX9_append_18 iX9_append_X9 rfl rfl (by decide) mX9_append_f74 rfl rfl ?_
    refine z_bipush (pc' := 23) dX9_append_21 (by decide) rfl ?_
    have g5 := zkr_p hsh
    replace hsh := zkr_k hsh
    refine z_icmp_ne (pc' := 26) (tgt := 30) dX9_append_23 (by decide) g5 (by decide) rfl (fun q => ?_) (fun q => ?_)
    · replace hsh := zif_f q hsh
      refine z_iconst (pc' := 31) dX9_append_30 rfl ?_
      obtain ⟨q6, h7, hsh⟩ := zbind hsh
      refine z_callV (pc' := 34) (C := RX9) (As := [.int (zi (0 : Int))]) (rest := []) (wr := [(a_t_script, zI J 120 f_t_script)]) 1 (zc_X9_refused l D J F (a_t := a_t) (a_t_now := a_t_now) (a_t_trial := a_t_trial) (a_t_diary := a_t_diary) (a_t_kept := a_t_kept) (a_t_isKept := a_t_isKept) (a_t_script := a_t_script) (a_t_read := a_t_read) (a_t_wanted := a_t_wanted) (a_t_level := a_t_level) (a_t_chosen := a_t_chosen) (a_t_best := a_t_best) (c_t_refusal := c_t_refusal) (c_t_high := c_t_high) (c_t_wide := c_t_wide) (c_t_acts := c_t_acts) (c_t_next := c_t_next) (c_t_scriptSize := c_t_scriptSize) (c_t_spot := c_t_spot) (c_t_readHigh := c_t_readHigh) (c_t_readWide := c_t_readWide) (p0 := (0 : Int))  q6 h7) dX9_append_31 gX9_append_X9_refused rfl rfl rfl (by decide +kernel) ⟨Nat.le_of_ble_eq_true rfl, Nat.le_of_ble_eq_true rfl⟩ ⟨Nat.le_of_ble_eq_true rfl, Nat.le_of_ble_eq_true rfl⟩ (z_spl_of [0, 1] rfl rfl) rfl rfl rfl rfl (Nat.le_of_ble_eq_true rfl) rfl (fun rv w9 hq => ?_)
      obtain ⟨rfl, rfl⟩ := hq
      refine z_ws [(a_t_script, zI J 120 f_t_script), (a_t, .inr (8, [.int (zi q6.2), .int (zi c_t_high), .int (zi c_t_wide), .ref a_t_now, .ref a_t_trial, .ref a_t_diary, .int (zi c_t_acts), .int (zi c_t_next), .ref a_t_kept, .ref a_t_isKept, .ref a_t_script, .int (zi c_t_scriptSize), .int (zi c_t_spot), .ref a_t_read, .int (zi c_t_readHigh), .int (zi c_t_readWide), .ref a_t_wanted, .ref a_t_level, .ref a_t_chosen, .ref a_t_best]))] rfl ?_
      have g8 := zkr_p hsh
      replace hsh := zkr_k hsh
      refine z_if_eq (pc' := 37) (tgt := 39) dX9_append_34 (by decide) g8 rfl (fun q => ?_) (fun q => ?_)
      · replace hsh := zif_t q hsh
        refine z_aload_n (pc' := 40) 0 dX9_append_39 rfl rfl rfl ?_
        refine z_getfield (pc' := 43) (C := RX9) (T := TX9) (N := 20) 1 10 dX9_append_40 iX9_append_X9 rfl rfl (by decide) mX9_append_f33 rfl rfl ?_
        refine z_aload_n (pc' := 44) 0 dX9_append_43 rfl rfl rfl ?_
        refine z_getfield (pc' := 47) (C := RX9) (T := TX9) (N := 20) 1 11 dX9_append_44 iX9_append_X9 rfl rfl (by decide) mX9_append_f74 rfl rfl ?_
        refine z_iload_n (pc' := 48) 1 dX9_append_47 rfl rfl rfl ?_
        have g9 := zkx_p hsh
        replace hsh := zkx_k hsh
        refine z_iastore (pc' := 49) 0 [(a_t_script, zI J 120 (va_up f_t_script (c_t_scriptSize).toNat p0)), (a_t, .inr (8, [.int (zi q6.2), .int (zi c_t_high), .int (zi c_t_wide), .ref a_t_now, .ref a_t_trial, .ref a_t_diary, .int (zi c_t_acts), .int (zi c_t_next), .ref a_t_kept, .ref a_t_isKept, .ref a_t_script, .int (zi c_t_scriptSize), .int (zi c_t_spot), .ref a_t_read, .int (zi c_t_readHigh), .int (zi c_t_readWide), .ref a_t_wanted, .ref a_t_level, .ref a_t_chosen, .ref a_t_best]))] dX9_append_48 rfl (by decide) g9 rfl rfl ?_
        refine z_aload_n (pc' := 50) 0 dX9_append_49 rfl rfl rfl ?_
        refine z_dup (pc' := 51) dX9_append_50 rfl rfl ?_
        refine z_getfield (pc' := 54) (C := RX9) (T := TX9) (N := 20) 1 11 dX9_append_51 iX9_append_X9 rfl rfl (by decide) mX9_append_f74 rfl rfl ?_
        refine z_iconst (pc' := 55) dX9_append_54 rfl ?_
        refine z_iadd (pc' := 56) dX9_append_55 rfl ?_
        refine z_putfield (pc' := 59) (C := RX9) (T := TX9) (N := 20) (ty := .int) 1 11 [(a_t_script, zI J 120 (va_up f_t_script (c_t_scriptSize).toNat p0)), (a_t, .inr (8, [.int (zi q6.2), .int (zi c_t_high), .int (zi c_t_wide), .ref a_t_now, .ref a_t_trial, .ref a_t_diary, .int (zi c_t_acts), .int (zi c_t_next), .ref a_t_kept, .ref a_t_isKept, .ref a_t_script, .int (zi (c_t_scriptSize + (1 : Int))), .int (zi c_t_spot), .ref a_t_read, .int (zi c_t_readHigh), .int (zi c_t_readWide), .ref a_t_wanted, .ref a_t_level, .ref a_t_chosen, .ref a_t_best]))] tyX9 tyX9_ok nmX9 dX9_append_56 iX9_append_X9 rfl rfl (by decide) mX9_append_f74 rfl (by decide +kernel) rfl rfl (Nat.le_of_ble_eq_true rfl) rfl rfl rfl ?_
        refine z_aload_n (pc' := 60) 0 dX9_append_59 rfl rfl rfl ?_
        refine z_getfield (pc' := 63) (C := RX9) (T := TX9) (N := 20) 1 11 dX9_append_60 iX9_append_X9 rfl rfl (by decide) mX9_append_f74 rfl rfl ?_
        refine z_perm [(a_t, .inr (8, [.int (zi q6.2), .int (zi c_t_high), .int (zi c_t_wide), .ref a_t_now, .ref a_t_trial, .ref a_t_diary, .int (zi c_t_acts), .int (zi c_t_next), .ref a_t_kept, .ref a_t_isKept, .ref a_t_script, .int (zi (c_t_scriptSize + (1 : Int))), .int (zi c_t_spot), .ref a_t_read, .int (zi c_t_readHigh), .int (zi c_t_readWide), .ref a_t_wanted, .ref a_t_level, .ref a_t_chosen, .ref a_t_best])), (a_t_script, zI J 120 (va_up f_t_script (c_t_scriptSize).toNat p0))] [(0, .ref a_t), (1, .int (zi p0))] [1, 0] [0, 1] rfl rfl rfl ?_
        cases hsh
        exact z_iret rfl dX9_append_63 ⟨rfl, rfl⟩
      · replace hsh := zif_f q hsh
        refine z_iconst (pc' := 38) dX9_append_37 rfl ?_
        refine z_perm [(a_t, .inr (8, [.int (zi q6.2), .int (zi c_t_high), .int (zi c_t_wide), .ref a_t_now, .ref a_t_trial, .ref a_t_diary, .int (zi c_t_acts), .int (zi c_t_next), .ref a_t_kept, .ref a_t_isKept, .ref a_t_script, .int (zi c_t_scriptSize), .int (zi c_t_spot), .ref a_t_read, .int (zi c_t_readHigh), .int (zi c_t_readWide), .ref a_t_wanted, .ref a_t_level, .ref a_t_chosen, .ref a_t_best])), (a_t_script, zI J 120 f_t_script)] [(0, .ref a_t), (1, .int (zi p0))] [1, 0] [0, 1] rfl rfl rfl ?_
        cases hsh
        exact z_iret rfl dX9_append_38 ⟨rfl, rfl⟩
    · replace hsh := zif_t q hsh
      refine z_iconst (pc' := 27) dX9_append_26 rfl ?_
      refine z_goto (tgt := 31) dX9_append_27 (by decide) ?_
      obtain ⟨q10, h11, hsh⟩ := zbind hsh
      refine z_callV (pc' := 34) (C := RX9) (As := [.int (zi (2 : Int))]) (rest := []) (wr := [(a_t_script, zI J 120 f_t_script)]) 1 (zc_X9_refused l D J F (a_t := a_t) (a_t_now := a_t_now) (a_t_trial := a_t_trial) (a_t_diary := a_t_diary) (a_t_kept := a_t_kept) (a_t_isKept := a_t_isKept) (a_t_script := a_t_script) (a_t_read := a_t_read) (a_t_wanted := a_t_wanted) (a_t_level := a_t_level) (a_t_chosen := a_t_chosen) (a_t_best := a_t_best) (c_t_refusal := c_t_refusal) (c_t_high := c_t_high) (c_t_wide := c_t_wide) (c_t_acts := c_t_acts) (c_t_next := c_t_next) (c_t_scriptSize := c_t_scriptSize) (c_t_spot := c_t_spot) (c_t_readHigh := c_t_readHigh) (c_t_readWide := c_t_readWide) (p0 := (2 : Int))  q10 h11) dX9_append_31 gX9_append_X9_refused rfl rfl rfl (by decide +kernel) ⟨Nat.le_of_ble_eq_true rfl, Nat.le_of_ble_eq_true rfl⟩ ⟨Nat.le_of_ble_eq_true rfl, Nat.le_of_ble_eq_true rfl⟩ (z_spl_of [0, 1] rfl rfl) rfl rfl rfl rfl (Nat.le_of_ble_eq_true rfl) rfl (fun rv w9 hq => ?_)
      obtain ⟨rfl, rfl⟩ := hq
      refine z_ws [(a_t_script, zI J 120 f_t_script), (a_t, .inr (8, [.int (zi q10.2), .int (zi c_t_high), .int (zi c_t_wide), .ref a_t_now, .ref a_t_trial, .ref a_t_diary, .int (zi c_t_acts), .int (zi c_t_next), .ref a_t_kept, .ref a_t_isKept, .ref a_t_script, .int (zi c_t_scriptSize), .int (zi c_t_spot), .ref a_t_read, .int (zi c_t_readHigh), .int (zi c_t_readWide), .ref a_t_wanted, .ref a_t_level, .ref a_t_chosen, .ref a_t_best]))] rfl ?_
      have g12 := zkr_p hsh
      replace hsh := zkr_k hsh
      refine z_if_eq (pc' := 37) (tgt := 39) dX9_append_34 (by decide) g12 rfl (fun q => ?_) (fun q => ?_)
      · replace hsh := zif_t q hsh
        refine z_aload_n (pc' := 40) 0 dX9_append_39 rfl rfl rfl ?_
        refine z_getfield (pc' := 43) (C := RX9) (T := TX9) (N := 20) 1 10 dX9_append_40 iX9_append_X9 rfl rfl (by decide) mX9_append_f33 rfl rfl ?_
        refine z_aload_n (pc' := 44) 0 dX9_append_43 rfl rfl rfl ?_
        refine z_getfield (pc' := 47) (C := RX9) (T := TX9) (N := 20) 1 11 dX9_append_44 iX9_append_X9 rfl rfl (by decide) mX9_append_f74 rfl rfl ?_
        refine z_iload_n (pc' := 48) 1 dX9_append_47 rfl rfl rfl ?_
        have g13 := zkx_p hsh
        replace hsh := zkx_k hsh
        refine z_iastore (pc' := 49) 0 [(a_t_script, zI J 120 (va_up f_t_script (c_t_scriptSize).toNat p0)), (a_t, .inr (8, [.int (zi q10.2), .int (zi c_t_high), .int (zi c_t_wide), .ref a_t_now, .ref a_t_trial, .ref a_t_diary, .int (zi c_t_acts), .int (zi c_t_next), .ref a_t_kept, .ref a_t_isKept, .ref a_t_script, .int (zi c_t_scriptSize), .int (zi c_t_spot), .ref a_t_read, .int (zi c_t_readHigh), .int (zi c_t_readWide), .ref a_t_wanted, .ref a_t_level, .ref a_t_chosen, .ref a_t_best]))] dX9_append_48 rfl (by decide) g13 rfl rfl ?_
        refine z_aload_n (pc' := 50) 0 dX9_append_49 rfl rfl rfl ?_
        refine z_dup (pc' := 51) dX9_append_50 rfl rfl ?_
        refine z_getfield (pc' := 54) (C := RX9) (T := TX9) (N := 20) 1 11 dX9_append_51 iX9_append_X9 rfl rfl (by decide) mX9_append_f74 rfl rfl ?_
        refine z_iconst (pc' := 55) dX9_append_54 rfl ?_
        refine z_iadd (pc' := 56) dX9_append_55 rfl ?_
        refine z_putfield (pc' := 59) (C := RX9) (T := TX9) (N := 20) (ty := .int) 1 11 [(a_t_script, zI J 120 (va_up f_t_script (c_t_scriptSize).toNat p0)), (a_t, .inr (8, [.int (zi q10.2), .int (zi c_t_high), .int (zi c_t_wide), .ref a_t_now, .ref a_t_trial, .ref a_t_diary, .int (zi c_t_acts), .int (zi c_t_next), .ref a_t_kept, .ref a_t_isKept, .ref a_t_script, .int (zi (c_t_scriptSize + (1 : Int))), .int (zi c_t_spot), .ref a_t_read, .int (zi c_t_readHigh), .int (zi c_t_readWide), .ref a_t_wanted, .ref a_t_level, .ref a_t_chosen, .ref a_t_best]))] tyX9 tyX9_ok nmX9 dX9_append_56 iX9_append_X9 rfl rfl (by decide) mX9_append_f74 rfl (by decide +kernel) rfl rfl (Nat.le_of_ble_eq_true rfl) rfl rfl rfl ?_
        refine z_aload_n (pc' := 60) 0 dX9_append_59 rfl rfl rfl ?_
        refine z_getfield (pc' := 63) (C := RX9) (T := TX9) (N := 20) 1 11 dX9_append_60 iX9_append_X9 rfl rfl (by decide) mX9_append_f74 rfl rfl ?_
        refine z_perm [(a_t, .inr (8, [.int (zi q10.2), .int (zi c_t_high), .int (zi c_t_wide), .ref a_t_now, .ref a_t_trial, .ref a_t_diary, .int (zi c_t_acts), .int (zi c_t_next), .ref a_t_kept, .ref a_t_isKept, .ref a_t_script, .int (zi (c_t_scriptSize + (1 : Int))), .int (zi c_t_spot), .ref a_t_read, .int (zi c_t_readHigh), .int (zi c_t_readWide), .ref a_t_wanted, .ref a_t_level, .ref a_t_chosen, .ref a_t_best])), (a_t_script, zI J 120 (va_up f_t_script (c_t_scriptSize).toNat p0))] [(0, .ref a_t), (1, .int (zi p0))] [1, 0] [0, 1] rfl rfl rfl ?_
        cases hsh
        exact z_iret rfl dX9_append_63 ⟨rfl, rfl⟩
      · replace hsh := zif_f q hsh
        refine z_iconst (pc' := 38) dX9_append_37 rfl ?_
        refine z_perm [(a_t, .inr (8, [.int (zi q10.2), .int (zi c_t_high), .int (zi c_t_wide), .ref a_t_now, .ref a_t_trial, .ref a_t_diary, .int (zi c_t_acts), .int (zi c_t_next), .ref a_t_kept, .ref a_t_isKept, .ref a_t_script, .int (zi c_t_scriptSize), .int (zi c_t_spot), .ref a_t_read, .int (zi c_t_readHigh), .int (zi c_t_readWide), .ref a_t_wanted, .ref a_t_level, .ref a_t_chosen, .ref a_t_best])), (a_t_script, zI J 120 f_t_script)] [(0, .ref a_t), (1, .int (zi p0))] [1, 0] [0, 1] rfl rfl rfl ?_
        cases hsh
        exact z_iret rfl dX9_append_38 ⟨rfl, rfl⟩
  · replace hsh := zif_t q hsh
    refine z_iconst (pc' := 14) dX9_append_13 rfl ?_
    refine z_goto (tgt := 31) dX9_append_14 (by decide) ?_
    obtain ⟨q14, h15, hsh⟩ := zbind hsh
    refine z_callV (pc' := 34) (C := RX9) (As := [.int (zi (1 : Int))]) (rest := []) (wr := [(a_t_script, zI J 120 f_t_script)]) 1 (zc_X9_refused l D J F (a_t := a_t) (a_t_now := a_t_now) (a_t_trial := a_t_trial) (a_t_diary := a_t_diary) (a_t_kept := a_t_kept) (a_t_isKept := a_t_isKept) (a_t_script := a_t_script) (a_t_read := a_t_read) (a_t_wanted := a_t_wanted) (a_t_level := a_t_level) (a_t_chosen := a_t_chosen) (a_t_best := a_t_best) (c_t_refusal := c_t_refusal) (c_t_high := c_t_high) (c_t_wide := c_t_wide) (c_t_acts := c_t_acts) (c_t_next := c_t_next) (c_t_scriptSize := c_t_scriptSize) (c_t_spot := c_t_spot) (c_t_readHigh := c_t_readHigh) (c_t_readWide := c_t_readWide) (p0 := (1 : Int))  q14 h15) dX9_append_31 gX9_append_X9_refused rfl rfl rfl (by decide +kernel) ⟨Nat.le_of_ble_eq_true rfl, Nat.le_of_ble_eq_true rfl⟩ ⟨Nat.le_of_ble_eq_true rfl, Nat.le_of_ble_eq_true rfl⟩ (z_spl_of [0, 1] rfl rfl) rfl rfl rfl rfl (Nat.le_of_ble_eq_true rfl) rfl (fun rv w9 hq => ?_)
    obtain ⟨rfl, rfl⟩ := hq
    refine z_ws [(a_t_script, zI J 120 f_t_script), (a_t, .inr (8, [.int (zi q14.2), .int (zi c_t_high), .int (zi c_t_wide), .ref a_t_now, .ref a_t_trial, .ref a_t_diary, .int (zi c_t_acts), .int (zi c_t_next), .ref a_t_kept, .ref a_t_isKept, .ref a_t_script, .int (zi c_t_scriptSize), .int (zi c_t_spot), .ref a_t_read, .int (zi c_t_readHigh), .int (zi c_t_readWide), .ref a_t_wanted, .ref a_t_level, .ref a_t_chosen, .ref a_t_best]))] rfl ?_
    have g16 := zkr_p hsh
    replace hsh := zkr_k hsh
    refine z_if_eq (pc' := 37) (tgt := 39) dX9_append_34 (by decide) g16 rfl (fun q => ?_) (fun q => ?_)
    · replace hsh := zif_t q hsh
      refine z_aload_n (pc' := 40) 0 dX9_append_39 rfl rfl rfl ?_
      refine z_getfield (pc' := 43) (C := RX9) (T := TX9) (N := 20) 1 10 dX9_append_40 iX9_append_X9 rfl rfl (by decide) mX9_append_f33 rfl rfl ?_
      refine z_aload_n (pc' := 44) 0 dX9_append_43 rfl rfl rfl ?_
      refine z_getfield (pc' := 47) (C := RX9) (T := TX9) (N := 20) 1 11 dX9_append_44 iX9_append_X9 rfl rfl (by decide) mX9_append_f74 rfl rfl ?_
      refine z_iload_n (pc' := 48) 1 dX9_append_47 rfl rfl rfl ?_
      have g17 := zkx_p hsh
      replace hsh := zkx_k hsh
      refine z_iastore (pc' := 49) 0 [(a_t_script, zI J 120 (va_up f_t_script (c_t_scriptSize).toNat p0)), (a_t, .inr (8, [.int (zi q14.2), .int (zi c_t_high), .int (zi c_t_wide), .ref a_t_now, .ref a_t_trial, .ref a_t_diary, .int (zi c_t_acts), .int (zi c_t_next), .ref a_t_kept, .ref a_t_isKept, .ref a_t_script, .int (zi c_t_scriptSize), .int (zi c_t_spot), .ref a_t_read, .int (zi c_t_readHigh), .int (zi c_t_readWide), .ref a_t_wanted, .ref a_t_level, .ref a_t_chosen, .ref a_t_best]))] dX9_append_48 rfl (by decide) g17 rfl rfl ?_
      refine z_aload_n (pc' := 50) 0 dX9_append_49 rfl rfl rfl ?_
      refine z_dup (pc' := 51) dX9_append_50 rfl rfl ?_
      refine z_getfield (pc' := 54) (C := RX9) (T := TX9) (N := 20) 1 11 dX9_append_51 iX9_append_X9 rfl rfl (by decide) mX9_append_f74 rfl rfl ?_
      refine z_iconst (pc' := 55) dX9_append_54 rfl ?_
      refine z_iadd (pc' := 56) dX9_append_55 rfl ?_
      refine z_putfield (pc' := 59) (C := RX9) (T := TX9) (N := 20) (ty := .int) 1 11 [(a_t_script, zI J 120 (va_up f_t_script (c_t_scriptSize).toNat p0)), (a_t, .inr (8, [.int (zi q14.2), .int (zi c_t_high), .int (zi c_t_wide), .ref a_t_now, .ref a_t_trial, .ref a_t_diary, .int (zi c_t_acts), .int (zi c_t_next), .ref a_t_kept, .ref a_t_isKept, .ref a_t_script, .int (zi (c_t_scriptSize + (1 : Int))), .int (zi c_t_spot), .ref a_t_read, .int (zi c_t_readHigh), .int (zi c_t_readWide), .ref a_t_wanted, .ref a_t_level, .ref a_t_chosen, .ref a_t_best]))] tyX9 tyX9_ok nmX9 dX9_append_56 iX9_append_X9 rfl rfl (by decide) mX9_append_f74 rfl (by decide +kernel) rfl rfl (Nat.le_of_ble_eq_true rfl) rfl rfl rfl ?_
      refine z_aload_n (pc' := 60) 0 dX9_append_59 rfl rfl rfl ?_
      refine z_getfield (pc' := 63) (C := RX9) (T := TX9) (N := 20) 1 11 dX9_append_60 iX9_append_X9 rfl rfl (by decide) mX9_append_f74 rfl rfl ?_
      refine z_perm [(a_t, .inr (8, [.int (zi q14.2), .int (zi c_t_high), .int (zi c_t_wide), .ref a_t_now, .ref a_t_trial, .ref a_t_diary, .int (zi c_t_acts), .int (zi c_t_next), .ref a_t_kept, .ref a_t_isKept, .ref a_t_script, .int (zi (c_t_scriptSize + (1 : Int))), .int (zi c_t_spot), .ref a_t_read, .int (zi c_t_readHigh), .int (zi c_t_readWide), .ref a_t_wanted, .ref a_t_level, .ref a_t_chosen, .ref a_t_best])), (a_t_script, zI J 120 (va_up f_t_script (c_t_scriptSize).toNat p0))] [(0, .ref a_t), (1, .int (zi p0))] [1, 0] [0, 1] rfl rfl rfl ?_
      cases hsh
      exact z_iret rfl dX9_append_63 ⟨rfl, rfl⟩
    · replace hsh := zif_f q hsh
      refine z_iconst (pc' := 38) dX9_append_37 rfl ?_
      refine z_perm [(a_t, .inr (8, [.int (zi q14.2), .int (zi c_t_high), .int (zi c_t_wide), .ref a_t_now, .ref a_t_trial, .ref a_t_diary, .int (zi c_t_acts), .int (zi c_t_next), .ref a_t_kept, .ref a_t_isKept, .ref a_t_script, .int (zi c_t_scriptSize), .int (zi c_t_spot), .ref a_t_read, .int (zi c_t_readHigh), .int (zi c_t_readWide), .ref a_t_wanted, .ref a_t_level, .ref a_t_chosen, .ref a_t_best])), (a_t_script, zI J 120 f_t_script)] [(0, .ref a_t), (1, .int (zi p0))] [1, 0] [0, 1] rfl rfl rfl ?_
      cases hsh
      exact z_iret rfl dX9_append_38 ⟨rfl, rfl⟩
def sh_X9_thrown (F : Nat) (c_t_refusal : Int) : Option (Int) := some (c_t_refusal)
theorem mX9_thrown_f51 : Cond.fieldLink RX9 51 (TX9 0).1 (TX9 0).2.1 (TX9 0).2.2.1 ∈ wsX9_thrown := List.mem_of_getElem? (i := 1) rfl
theorem iX9_thrown_X9 : ∀ w ∈ wsX90, w ∈ wsX9_thrown := fun _ h => (List.mem_cons_of_mem _ (List.mem_append_right _ h))
set_option maxRecDepth 100000 in
set_option maxHeartbeats 4000000 in
theorem zc_X9_thrown (l : Launch) (D : va_G) (J : Nat → ClassId) (F : Nat) (a_t : Nat) (a_t_now : Nat) (a_t_trial : Nat) (a_t_diary : Nat) (a_t_kept : Nat) (a_t_isKept : Nat) (a_t_script : Nat) (a_t_read : Nat) (a_t_wanted : Nat) (a_t_level : Nat) (a_t_chosen : Nat) (a_t_best : Nat) (c_t_refusal : Int) (c_t_high : Int) (c_t_wide : Int) (c_t_acts : Int) (c_t_next : Int) (c_t_scriptSize : Int) (c_t_spot : Int) (c_t_readHigh : Int) (c_t_readWide : Int) (res : Int) (hsh : sh_X9_thrown F c_t_refusal = some res) : ZM l D J yX9_thrown wsX9_thrown ({ frames := 0, cells := 0, slots := 0, locals := 0 } : Room) 0 0 [.ref a_t] [(a_t, .inr (8, [.int (zi c_t_refusal), .int (zi c_t_high), .int (zi c_t_wide), .ref a_t_now, .ref a_t_trial, .ref a_t_diary, .int (zi c_t_acts), .int (zi c_t_next), .ref a_t_kept, .ref a_t_isKept, .ref a_t_script, .int (zi c_t_scriptSize), .int (zi c_t_spot), .ref a_t_read, .int (zi c_t_readHigh), .int (zi c_t_readWide), .ref a_t_wanted, .ref a_t_level, .ref a_t_chosen, .ref a_t_best]))] (fun rv w9 => rv = some (.int (zi res)) ∧ w9 = [(a_t, .inr (8, [.int (zi c_t_refusal), .int (zi c_t_high), .int (zi c_t_wide), .ref a_t_now, .ref a_t_trial, .ref a_t_diary, .int (zi c_t_acts), .int (zi c_t_next), .ref a_t_kept, .ref a_t_isKept, .ref a_t_script, .int (zi c_t_scriptSize), .int (zi c_t_spot), .ref a_t_read, .int (zi c_t_readHigh), .int (zi c_t_readWide), .ref a_t_wanted, .ref a_t_level, .ref a_t_chosen, .ref a_t_best]))]) := by
  refine z_ofZ (cc := cX9_thrown) (maxL := 1) (ret := (some .int)) 0 0 (by decide) rfl (Nat.le_of_ble_eq_true rfl) [(0, .ref a_t)] rfl ?_
  intro p e s m args below meth c A
  unfold sh_X9_thrown at hsh
  refine z_aload_n (pc' := 1) 0 dX9_thrown_0 rfl rfl rfl ?_
  refine z_getfield (pc' := 4) (C := RX9) (T := TX9) (N := 20) 0 0 dX9_thrown_1 iX9_thrown_X9 rfl rfl (by decide) mX9_thrown_f51 rfl rfl ?_
  cases hsh
  exact z_iret rfl dX9_thrown_4 ⟨rfl, rfl⟩
def sh_X9_clearText (F : Nat) (c_t_scriptSize : Int) : Option (Int × Int × Int) := some (c_t_scriptSize, (0 : Int), (0 : Int))
theorem mX9_clearText_f51 : Cond.fieldLink RX9 51 (TX9 0).1 (TX9 0).2.1 (TX9 0).2.2.1 ∈ wsX9_clearText := List.mem_of_getElem? (i := 1) rfl
theorem iX9_clearText_X9 : ∀ w ∈ wsX90, w ∈ wsX9_clearText := fun _ h => (List.mem_cons_of_mem _ (List.mem_append_right _ h))
theorem mX9_clearText_f74 : Cond.fieldLink RX9 74 (TX9 11).1 (TX9 11).2.1 (TX9 11).2.2.1 ∈ wsX9_clearText := List.mem_of_getElem? (i := 2) rfl
set_option maxRecDepth 100000 in
set_option maxHeartbeats 4000000 in
theorem zc_X9_clearText (l : Launch) (D : va_G) (J : Nat → ClassId) (F : Nat) (a_t : Nat) (a_t_now : Nat) (a_t_trial : Nat) (a_t_diary : Nat) (a_t_kept : Nat) (a_t_isKept : Nat) (a_t_script : Nat) (a_t_read : Nat) (a_t_wanted : Nat) (a_t_level : Nat) (a_t_chosen : Nat) (a_t_best : Nat) (c_t_refusal : Int) (c_t_high : Int) (c_t_wide : Int) (c_t_acts : Int) (c_t_next : Int) (c_t_scriptSize : Int) (c_t_spot : Int) (c_t_readHigh : Int) (c_t_readWide : Int) (res : Int × Int × Int) (hsh : sh_X9_clearText F c_t_scriptSize = some res) : ZM l D J yX9_clearText wsX9_clearText ({ frames := 0, cells := 0, slots := 0, locals := 0 } : Room) 0 0 [.ref a_t] [(a_t, .inr (8, [.int (zi c_t_refusal), .int (zi c_t_high), .int (zi c_t_wide), .ref a_t_now, .ref a_t_trial, .ref a_t_diary, .int (zi c_t_acts), .int (zi c_t_next), .ref a_t_kept, .ref a_t_isKept, .ref a_t_script, .int (zi c_t_scriptSize), .int (zi c_t_spot), .ref a_t_read, .int (zi c_t_readHigh), .int (zi c_t_readWide), .ref a_t_wanted, .ref a_t_level, .ref a_t_chosen, .ref a_t_best]))] (fun rv w9 => rv = some (.int (zi res.1)) ∧ w9 = [(a_t, .inr (8, [.int (zi res.2.1), .int (zi c_t_high), .int (zi c_t_wide), .ref a_t_now, .ref a_t_trial, .ref a_t_diary, .int (zi c_t_acts), .int (zi c_t_next), .ref a_t_kept, .ref a_t_isKept, .ref a_t_script, .int (zi res.2.2), .int (zi c_t_spot), .ref a_t_read, .int (zi c_t_readHigh), .int (zi c_t_readWide), .ref a_t_wanted, .ref a_t_level, .ref a_t_chosen, .ref a_t_best]))]) := by
  refine z_ofZ (cc := cX9_clearText) (maxL := 2) (ret := (some .int)) 0 0 (by decide) rfl (Nat.le_of_ble_eq_true rfl) [(0, .ref a_t)] rfl ?_
  intro p e s m args below meth c A
  unfold sh_X9_clearText at hsh
  refine z_aload_n (pc' := 1) 0 dX9_clearText_0 rfl rfl rfl ?_
  refine z_iconst (pc' := 2) dX9_clearText_1 rfl ?_
  refine z_putfield (pc' := 5) (C := RX9) (T := TX9) (N := 20) (ty := .int) 0 0 [(a_t, .inr (8, [.int (zi (0 : Int)), .int (zi c_t_high), .int (zi c_t_wide), .ref a_t_now, .ref a_t_trial, .ref a_t_diary, .int (zi c_t_acts), .int (zi c_t_next), .ref a_t_kept, .ref a_t_isKept, .ref a_t_script, .int (zi c_t_scriptSize), .int (zi c_t_spot), .ref a_t_read, .int (zi c_t_readHigh), .int (zi c_t_readWide), .ref a_t_wanted, .ref a_t_level, .ref a_t_chosen, .ref a_t_best]))] tyX9 tyX9_ok nmX9 dX9_clearText_2 iX9_clearText_X9 rfl rfl (by decide) mX9_clearText_f51 rfl (by decide +kernel) rfl rfl (Nat.le_of_ble_eq_true rfl) rfl rfl rfl ?_
  refine z_aload_n (pc' := 6) 0 dX9_clearText_5 rfl rfl rfl ?_
  refine z_getfield (pc' := 9) (C := RX9) (T := TX9) (N := 20) 0 11 dX9_clearText_6 iX9_clearText_X9 rfl rfl (by decide) mX9_clearText_f74 rfl rfl ?_
  refine z_istore_n (pc' := 10) [(1, .int (zi c_t_scriptSize)), (0, .ref a_t)] dX9_clearText_9 rfl (by decide) rfl rfl ?_
  refine z_aload_n (pc' := 11) 1 dX9_clearText_10 rfl rfl rfl ?_
  refine z_iconst (pc' := 12) dX9_clearText_11 rfl ?_
  refine z_putfield (pc' := 15) (C := RX9) (T := TX9) (N := 20) (ty := .int) 0 11 [(a_t, .inr (8, [.int (zi (0 : Int)), .int (zi c_t_high), .int (zi c_t_wide), .ref a_t_now, .ref a_t_trial, .ref a_t_diary, .int (zi c_t_acts), .int (zi c_t_next), .ref a_t_kept, .ref a_t_isKept, .ref a_t_script, .int (zi (0 : Int)), .int (zi c_t_spot), .ref a_t_read, .int (zi c_t_readHigh), .int (zi c_t_readWide), .ref a_t_wanted, .ref a_t_level, .ref a_t_chosen, .ref a_t_best]))] tyX9 tyX9_ok nmX9 dX9_clearText_12 iX9_clearText_X9 rfl rfl (by decide) mX9_clearText_f74 rfl (by decide +kernel) rfl rfl (Nat.le_of_ble_eq_true rfl) rfl rfl rfl ?_
  refine z_iload_n (pc' := 16) 0 dX9_clearText_15 rfl rfl rfl ?_
  cases hsh
  exact z_iret rfl dX9_clearText_16 ⟨rfl, rfl⟩
def sh_X9_readLetter (F : Nat) (c_t_scriptSize : Int) (c_t_spot : Int) (f_t_script : Nat → Int) (p0 : Int) : Option (Int × Int) := zkr c_t_spot (zkr c_t_scriptSize (if c_t_spot < c_t_scriptSize then zkx c_t_spot 120 (zkr (f_t_script (c_t_spot).toNat) (zkr p0 (if (f_t_script (c_t_spot).toNat) = p0 then if (1 : Int) = (0 : Int) then some ((1 : Int), (c_t_spot + (0 : Int))) else some ((1 : Int), (c_t_spot + (1 : Int))) else if (0 : Int) = (0 : Int) then some ((0 : Int), (c_t_spot + (0 : Int))) else some ((0 : Int), (c_t_spot + (1 : Int)))))) else if (0 : Int) = (0 : Int) then some ((0 : Int), (c_t_spot + (0 : Int))) else some ((0 : Int), (c_t_spot + (1 : Int)))))
theorem mX9_readLetter_f81 : Cond.fieldLink RX9 81 (TX9 12).1 (TX9 12).2.1 (TX9 12).2.2.1 ∈ wsX9_readLetter := List.mem_of_getElem? (i := 1) rfl
theorem iX9_readLetter_X9 : ∀ w ∈ wsX90, w ∈ wsX9_readLetter := fun _ h => (List.mem_cons_of_mem _ (List.mem_append_right _ h))
theorem mX9_readLetter_f74 : Cond.fieldLink RX9 74 (TX9 11).1 (TX9 11).2.1 (TX9 11).2.2.1 ∈ wsX9_readLetter := List.mem_of_getElem? (i := 2) rfl
theorem mX9_readLetter_f33 : Cond.fieldLink RX9 33 (TX9 10).1 (TX9 10).2.1 (TX9 10).2.2.1 ∈ wsX9_readLetter := List.mem_of_getElem? (i := 3) rfl
set_option maxRecDepth 100000 in
set_option maxHeartbeats 4000000 in
theorem zc_X9_readLetter (l : Launch) (D : va_G) (J : Nat → ClassId) (F : Nat) (a_t : Nat) (a_t_now : Nat) (a_t_trial : Nat) (a_t_diary : Nat) (a_t_kept : Nat) (a_t_isKept : Nat) (a_t_script : Nat) (a_t_read : Nat) (a_t_wanted : Nat) (a_t_level : Nat) (a_t_chosen : Nat) (a_t_best : Nat) (c_t_refusal : Int) (c_t_high : Int) (c_t_wide : Int) (c_t_acts : Int) (c_t_next : Int) (c_t_scriptSize : Int) (c_t_spot : Int) (c_t_readHigh : Int) (c_t_readWide : Int) (f_t_script : Nat → Int) (p0 : Int) (res : Int × Int) (hsh : sh_X9_readLetter F c_t_scriptSize c_t_spot f_t_script p0 = some res) : ZM l D J yX9_readLetter wsX9_readLetter ({ frames := 0, cells := 0, slots := 0, locals := 0 } : Room) 0 0 [.ref a_t, .int (zi p0)] [(a_t, .inr (8, [.int (zi c_t_refusal), .int (zi c_t_high), .int (zi c_t_wide), .ref a_t_now, .ref a_t_trial, .ref a_t_diary, .int (zi c_t_acts), .int (zi c_t_next), .ref a_t_kept, .ref a_t_isKept, .ref a_t_script, .int (zi c_t_scriptSize), .int (zi c_t_spot), .ref a_t_read, .int (zi c_t_readHigh), .int (zi c_t_readWide), .ref a_t_wanted, .ref a_t_level, .ref a_t_chosen, .ref a_t_best])), (a_t_script, zI J 120 f_t_script)] (fun rv w9 => rv = some (.int (zi res.1)) ∧ w9 = [(a_t, .inr (8, [.int (zi c_t_refusal), .int (zi c_t_high), .int (zi c_t_wide), .ref a_t_now, .ref a_t_trial, .ref a_t_diary, .int (zi c_t_acts), .int (zi c_t_next), .ref a_t_kept, .ref a_t_isKept, .ref a_t_script, .int (zi c_t_scriptSize), .int (zi res.2), .ref a_t_read, .int (zi c_t_readHigh), .int (zi c_t_readWide), .ref a_t_wanted, .ref a_t_level, .ref a_t_chosen, .ref a_t_best])), (a_t_script, zI J 120 f_t_script)]) := by
  refine z_ofZ (cc := cX9_readLetter) (maxL := 3) (ret := (some .boolean)) 0 0 (by decide) rfl (Nat.le_of_ble_eq_true rfl) [(0, .ref a_t), (1, .int (zi p0))] rfl ?_
  intro p e s m args below meth c A
  unfold sh_X9_readLetter at hsh
  refine z_aload_n (pc' := 1) 0 dX9_readLetter_0 rfl rfl rfl ?_
  refine z_getfield (pc' := 4) (C := RX9) (T := TX9) (N := 20) 0 12 dX9_readLetter_1 iX9_readLetter_X9 rfl rfl (by decide) mX9_readLetter_f81 rfl rfl ?_
  refine z_aload_n (pc' := 5) 0 dX9_readLetter_4 rfl rfl rfl ?_
  refine z_getfield (pc' := 8) (C := RX9) (T := TX9) (N := 20) 0 11 dX9_readLetter_5 iX9_readLetter_X9 rfl rfl (by decide) mX9_readLetter_f74 rfl rfl ?_
  have g1 := zkr_p hsh
  replace hsh := zkr_k hsh
  have g2 := zkr_p hsh
  replace hsh := zkr_k hsh
  refine z_icmp_ge (pc' := 11) (tgt := 28) dX9_readLetter_8 (by decide) g1 g2 rfl (fun q => ?_) (fun q => ?_)
  · replace hsh := zif_f q hsh
    refine z_iconst (pc' := 29) dX9_readLetter_28 rfl ?_
    refine z_istore_n (pc' := 30) [(2, .int (zi (0 : Int))), (0, .ref a_t), (1, .int (zi p0))] dX9_readLetter_29 rfl (by decide) rfl rfl ?_
    refine z_aload_n (pc' := 31) 1 dX9_readLetter_30 rfl rfl rfl ?_
    refine z_dup (pc' := 32) dX9_readLetter_31 rfl rfl ?_
    refine z_getfield (pc' := 35) (C := RX9) (T := TX9) (N := 20) 0 12 dX9_readLetter_32 iX9_readLetter_X9 rfl rfl (by decide) mX9_readLetter_f81 rfl rfl ?_
    refine z_iload_n (pc' := 36) 0 dX9_readLetter_35 rfl rfl rfl ?_
    refine z_if_eq (pc' := 39) (tgt := 43) dX9_readLetter_36 (by decide) zr0 rfl (fun q => ?_) (fun q => ?_)
    · replace hsh := zif_t q hsh
      refine z_iconst (pc' := 44) dX9_readLetter_43 rfl ?_
      refine z_iadd (pc' := 45) dX9_readLetter_44 rfl ?_
      refine z_putfield (pc' := 48) (C := RX9) (T := TX9) (N := 20) (ty := .int) 0 12 [(a_t, .inr (8, [.int (zi c_t_refusal), .int (zi c_t_high), .int (zi c_t_wide), .ref a_t_now, .ref a_t_trial, .ref a_t_diary, .int (zi c_t_acts), .int (zi c_t_next), .ref a_t_kept, .ref a_t_isKept, .ref a_t_script, .int (zi c_t_scriptSize), .int (zi (c_t_spot + (0 : Int))), .ref a_t_read, .int (zi c_t_readHigh), .int (zi c_t_readWide), .ref a_t_wanted, .ref a_t_level, .ref a_t_chosen, .ref a_t_best])), (a_t_script, zI J 120 f_t_script)] tyX9 tyX9_ok nmX9 dX9_readLetter_45 iX9_readLetter_X9 rfl rfl (by decide) mX9_readLetter_f81 rfl (by decide +kernel) rfl rfl (Nat.le_of_ble_eq_true rfl) rfl rfl rfl ?_
      refine z_iload_n (pc' := 49) 0 dX9_readLetter_48 rfl rfl rfl ?_
      cases hsh
      exact z_zret rfl (by decide) dX9_readLetter_49 ⟨rfl, rfl⟩
    · replace hsh := zif_f q hsh
      refine z_iconst (pc' := 40) dX9_readLetter_39 rfl ?_
      refine z_goto (tgt := 44) dX9_readLetter_40 (by decide) ?_
      refine z_iadd (pc' := 45) dX9_readLetter_44 rfl ?_
      refine z_putfield (pc' := 48) (C := RX9) (T := TX9) (N := 20) (ty := .int) 0 12 [(a_t, .inr (8, [.int (zi c_t_refusal), .int (zi c_t_high), .int (zi c_t_wide), .ref a_t_now, .ref a_t_trial, .ref a_t_diary, .int (zi c_t_acts), .int (zi c_t_next), .ref a_t_kept, .ref a_t_isKept, .ref a_t_script, .int (zi c_t_scriptSize), .int (zi (c_t_spot + (1 : Int))), .ref a_t_read, .int (zi c_t_readHigh), .int (zi c_t_readWide), .ref a_t_wanted, .ref a_t_level, .ref a_t_chosen, .ref a_t_best])), (a_t_script, zI J 120 f_t_script)] tyX9 tyX9_ok nmX9 dX9_readLetter_45 iX9_readLetter_X9 rfl rfl (by decide) mX9_readLetter_f81 rfl (by decide +kernel) rfl rfl (Nat.le_of_ble_eq_true rfl) rfl rfl rfl ?_
      refine z_iload_n (pc' := 49) 0 dX9_readLetter_48 rfl rfl rfl ?_
      cases hsh
      exact z_zret rfl (by decide) dX9_readLetter_49 ⟨rfl, rfl⟩
  · replace hsh := zif_t q hsh
    refine z_aload_n (pc' := 12) 0 dX9_readLetter_11 rfl rfl rfl ?_
    refine z_getfield (pc' := 15) (C := RX9) (T := TX9) (N := 20) 0 10 dX9_readLetter_12 iX9_readLetter_X9 rfl rfl (by decide) mX9_readLetter_f33 rfl rfl ?_
    refine z_aload_n (pc' := 16) 0 dX9_readLetter_15 rfl rfl rfl ?_
    refine z_getfield (pc' := 19) (C := RX9) (T := TX9) (N := 20) 0 12 dX9_readLetter_16 iX9_readLetter_X9 rfl rfl (by decide) mX9_readLetter_f81 rfl rfl ?_
    have g3 := zkx_p hsh
    replace hsh := zkx_k hsh
    refine z_iaload (pc' := 20) 1 dX9_readLetter_19 rfl (by decide) g3 rfl ?_
    refine z_iload_n (pc' := 21) 1 dX9_readLetter_20 rfl rfl rfl ?_
    have g4 := zkr_p hsh
    replace hsh := zkr_k hsh
    have g5 := zkr_p hsh
    replace hsh := zkr_k hsh
    refine z_icmp_ne (pc' := 24) (tgt := 28) dX9_readLetter_21 (by decide) g4 g5 rfl (fun q => ?_) (fun q => ?_)
    · replace hsh := zif_f q hsh
      refine z_iconst (pc' := 29) dX9_readLetter_28 rfl ?_
      refine z_istore_n (pc' := 30) [(2, .int (zi (0 : Int))), (0, .ref a_t), (1, .int (zi p0))] dX9_readLetter_29 rfl (by decide) rfl rfl ?_
      refine z_aload_n (pc' := 31) 1 dX9_readLetter_30 rfl rfl rfl ?_
      refine z_dup (pc' := 32) dX9_readLetter_31 rfl rfl ?_
      refine z_getfield (pc' := 35) (C := RX9) (T := TX9) (N := 20) 0 12 dX9_readLetter_32 iX9_readLetter_X9 rfl rfl (by decide) mX9_readLetter_f81 rfl rfl ?_
      refine z_iload_n (pc' := 36) 0 dX9_readLetter_35 rfl rfl rfl ?_
      refine z_if_eq (pc' := 39) (tgt := 43) dX9_readLetter_36 (by decide) zr0 rfl (fun q => ?_) (fun q => ?_)
      · replace hsh := zif_t q hsh
        refine z_iconst (pc' := 44) dX9_readLetter_43 rfl ?_
        refine z_iadd (pc' := 45) dX9_readLetter_44 rfl ?_
        refine z_putfield (pc' := 48) (C := RX9) (T := TX9) (N := 20) (ty := .int) 0 12 [(a_t, .inr (8, [.int (zi c_t_refusal), .int (zi c_t_high), .int (zi c_t_wide), .ref a_t_now, .ref a_t_trial, .ref a_t_diary, .int (zi c_t_acts), .int (zi c_t_next), .ref a_t_kept, .ref a_t_isKept, .ref a_t_script, .int (zi c_t_scriptSize), .int (zi (c_t_spot + (0 : Int))), .ref a_t_read, .int (zi c_t_readHigh), .int (zi c_t_readWide), .ref a_t_wanted, .ref a_t_level, .ref a_t_chosen, .ref a_t_best])), (a_t_script, zI J 120 f_t_script)] tyX9 tyX9_ok nmX9 dX9_readLetter_45 iX9_readLetter_X9 rfl rfl (by decide) mX9_readLetter_f81 rfl (by decide +kernel) rfl rfl (Nat.le_of_ble_eq_true rfl) rfl rfl rfl ?_
        refine z_iload_n (pc' := 49) 0 dX9_readLetter_48 rfl rfl rfl ?_
        cases hsh
        exact z_zret rfl (by decide) dX9_readLetter_49 ⟨rfl, rfl⟩
      · replace hsh := zif_f q hsh
        refine z_iconst (pc' := 40) dX9_readLetter_39 rfl ?_
        refine z_goto (tgt := 44) dX9_readLetter_40 (by decide) ?_
        refine z_iadd (pc' := 45) dX9_readLetter_44 rfl ?_
        refine z_putfield (pc' := 48) (C := RX9) (T := TX9) (N := 20) (ty := .int) 0 12 [(a_t, .inr (8, [.int (zi c_t_refusal), .int (zi c_t_high), .int (zi c_t_wide), .ref a_t_now, .ref a_t_trial, .ref a_t_diary, .int (zi c_t_acts), .int (zi c_t_next), .ref a_t_kept, .ref a_t_isKept, .ref a_t_script, .int (zi c_t_scriptSize), .int (zi (c_t_spot + (1 : Int))), .ref a_t_read, .int (zi c_t_readHigh), .int (zi c_t_readWide), .ref a_t_wanted, .ref a_t_level, .ref a_t_chosen, .ref a_t_best])), (a_t_script, zI J 120 f_t_script)] tyX9 tyX9_ok nmX9 dX9_readLetter_45 iX9_readLetter_X9 rfl rfl (by decide) mX9_readLetter_f81 rfl (by decide +kernel) rfl rfl (Nat.le_of_ble_eq_true rfl) rfl rfl rfl ?_
        refine z_iload_n (pc' := 49) 0 dX9_readLetter_48 rfl rfl rfl ?_
        cases hsh
        exact z_zret rfl (by decide) dX9_readLetter_49 ⟨rfl, rfl⟩
    · replace hsh := zif_t q hsh
      refine z_iconst (pc' := 25) dX9_readLetter_24 rfl ?_
      refine z_goto (tgt := 29) dX9_readLetter_25 (by decide) ?_
      refine z_istore_n (pc' := 30) [(2, .int (zi (1 : Int))), (0, .ref a_t), (1, .int (zi p0))] dX9_readLetter_29 rfl (by decide) rfl rfl ?_
      refine z_aload_n (pc' := 31) 1 dX9_readLetter_30 rfl rfl rfl ?_
      refine z_dup (pc' := 32) dX9_readLetter_31 rfl rfl ?_
      refine z_getfield (pc' := 35) (C := RX9) (T := TX9) (N := 20) 0 12 dX9_readLetter_32 iX9_readLetter_X9 rfl rfl (by decide) mX9_readLetter_f81 rfl rfl ?_
      refine z_iload_n (pc' := 36) 0 dX9_readLetter_35 rfl rfl rfl ?_
      refine z_if_eq (pc' := 39) (tgt := 43) dX9_readLetter_36 (by decide) (by decide) rfl (fun q => ?_) (fun q => ?_)
      · replace hsh := zif_t q hsh
        refine z_iconst (pc' := 44) dX9_readLetter_43 rfl ?_
        refine z_iadd (pc' := 45) dX9_readLetter_44 rfl ?_
        refine z_putfield (pc' := 48) (C := RX9) (T := TX9) (N := 20) (ty := .int) 0 12 [(a_t, .inr (8, [.int (zi c_t_refusal), .int (zi c_t_high), .int (zi c_t_wide), .ref a_t_now, .ref a_t_trial, .ref a_t_diary, .int (zi c_t_acts), .int (zi c_t_next), .ref a_t_kept, .ref a_t_isKept, .ref a_t_script, .int (zi c_t_scriptSize), .int (zi (c_t_spot + (0 : Int))), .ref a_t_read, .int (zi c_t_readHigh), .int (zi c_t_readWide), .ref a_t_wanted, .ref a_t_level, .ref a_t_chosen, .ref a_t_best])), (a_t_script, zI J 120 f_t_script)] tyX9 tyX9_ok nmX9 dX9_readLetter_45 iX9_readLetter_X9 rfl rfl (by decide) mX9_readLetter_f81 rfl (by decide +kernel) rfl rfl (Nat.le_of_ble_eq_true rfl) rfl rfl rfl ?_
        refine z_iload_n (pc' := 49) 0 dX9_readLetter_48 rfl rfl rfl ?_
        cases hsh
        exact z_zret rfl (by decide) dX9_readLetter_49 ⟨rfl, rfl⟩
      · replace hsh := zif_f q hsh
        refine z_iconst (pc' := 40) dX9_readLetter_39 rfl ?_
        refine z_goto (tgt := 44) dX9_readLetter_40 (by decide) ?_
        refine z_iadd (pc' := 45) dX9_readLetter_44 rfl ?_
        refine z_putfield (pc' := 48) (C := RX9) (T := TX9) (N := 20) (ty := .int) 0 12 [(a_t, .inr (8, [.int (zi c_t_refusal), .int (zi c_t_high), .int (zi c_t_wide), .ref a_t_now, .ref a_t_trial, .ref a_t_diary, .int (zi c_t_acts), .int (zi c_t_next), .ref a_t_kept, .ref a_t_isKept, .ref a_t_script, .int (zi c_t_scriptSize), .int (zi (c_t_spot + (1 : Int))), .ref a_t_read, .int (zi c_t_readHigh), .int (zi c_t_readWide), .ref a_t_wanted, .ref a_t_level, .ref a_t_chosen, .ref a_t_best])), (a_t_script, zI J 120 f_t_script)] tyX9 tyX9_ok nmX9 dX9_readLetter_45 iX9_readLetter_X9 rfl rfl (by decide) mX9_readLetter_f81 rfl (by decide +kernel) rfl rfl (Nat.le_of_ble_eq_true rfl) rfl rfl rfl ?_
        refine z_iload_n (pc' := 49) 0 dX9_readLetter_48 rfl rfl rfl ?_
        cases hsh
        exact z_zret rfl (by decide) dX9_readLetter_49 ⟨rfl, rfl⟩
def sh_X9_digit (F : Nat) (c_t_scriptSize : Int) (c_t_spot : Int) (f_t_script : Nat → Int) (p0 : Int) (p1 : Int) : Option (Int × Int) := zkr c_t_spot (zkr c_t_scriptSize (if c_t_spot < c_t_scriptSize then zkx c_t_spot 120 (zkr ((f_t_script (c_t_spot).toNat) - (48 : Int)) (zkr p0 (zkr p1 ((sh_X9_in F ((f_t_script (c_t_spot).toNat) - (48 : Int)) p0 p1).bind (fun (q12 : Int) => zkr q12 (if q12 = (0 : Int) then some ((-9 : Int), c_t_spot) else some (((f_t_script (c_t_spot).toNat) - (48 : Int)), (c_t_spot + (1 : Int))))))))) else zkr p0 (zkr p1 ((sh_X9_in F (-9 : Int) p0 p1).bind (fun (q5 : Int) => zkr q5 (if q5 = (0 : Int) then some ((-9 : Int), c_t_spot) else some ((-9 : Int), (c_t_spot + (1 : Int)))))))))
theorem mX9_digit_f81 : Cond.fieldLink RX9 81 (TX9 12).1 (TX9 12).2.1 (TX9 12).2.2.1 ∈ wsX9_digit := List.mem_of_getElem? (i := 1) rfl
theorem iX9_digit_X9 : ∀ w ∈ wsX90, w ∈ wsX9_digit := fun _ h => (List.mem_cons_of_mem _ (List.mem_append_right _ h))
theorem mX9_digit_f74 : Cond.fieldLink RX9 74 (TX9 11).1 (TX9 11).2.1 (TX9 11).2.2.1 ∈ wsX9_digit := List.mem_of_getElem? (i := 2) rfl
theorem mX9_digit_f33 : Cond.fieldLink RX9 33 (TX9 10).1 (TX9 10).2.1 (TX9 10).2.2.1 ∈ wsX9_digit := List.mem_of_getElem? (i := 3) rfl
set_option maxRecDepth 100000 in
set_option maxHeartbeats 4000000 in
theorem zc_X9_digit (l : Launch) (D : va_G) (J : Nat → ClassId) (F : Nat) (a_t : Nat) (a_t_now : Nat) (a_t_trial : Nat) (a_t_diary : Nat) (a_t_kept : Nat) (a_t_isKept : Nat) (a_t_script : Nat) (a_t_read : Nat) (a_t_wanted : Nat) (a_t_level : Nat) (a_t_chosen : Nat) (a_t_best : Nat) (c_t_refusal : Int) (c_t_high : Int) (c_t_wide : Int) (c_t_acts : Int) (c_t_next : Int) (c_t_scriptSize : Int) (c_t_spot : Int) (c_t_readHigh : Int) (c_t_readWide : Int) (f_t_script : Nat → Int) (p0 : Int) (p1 : Int) (res : Int × Int) (hsh : sh_X9_digit F c_t_scriptSize c_t_spot f_t_script p0 p1 = some res) : ZM l D J yX9_digit wsX9_digit ({ frames := 1, cells := 0, slots := 0, locals := 25 } : Room) 0 0 [.ref a_t, .int (zi p0), .int (zi p1)] [(a_t, .inr (8, [.int (zi c_t_refusal), .int (zi c_t_high), .int (zi c_t_wide), .ref a_t_now, .ref a_t_trial, .ref a_t_diary, .int (zi c_t_acts), .int (zi c_t_next), .ref a_t_kept, .ref a_t_isKept, .ref a_t_script, .int (zi c_t_scriptSize), .int (zi c_t_spot), .ref a_t_read, .int (zi c_t_readHigh), .int (zi c_t_readWide), .ref a_t_wanted, .ref a_t_level, .ref a_t_chosen, .ref a_t_best])), (a_t_script, zI J 120 f_t_script)] (fun rv w9 => rv = some (.int (zi res.1)) ∧ w9 = [(a_t, .inr (8, [.int (zi c_t_refusal), .int (zi c_t_high), .int (zi c_t_wide), .ref a_t_now, .ref a_t_trial, .ref a_t_diary, .int (zi c_t_acts), .int (zi c_t_next), .ref a_t_kept, .ref a_t_isKept, .ref a_t_script, .int (zi c_t_scriptSize), .int (zi res.2), .ref a_t_read, .int (zi c_t_readHigh), .int (zi c_t_readWide), .ref a_t_wanted, .ref a_t_level, .ref a_t_chosen, .ref a_t_best])), (a_t_script, zI J 120 f_t_script)]) := by
  refine z_ofZ (cc := cX9_digit) (maxL := 4) (ret := (some .int)) 0 0 (by decide) rfl (Nat.le_of_ble_eq_true rfl) [(0, .ref a_t), (1, .int (zi p0)), (2, .int (zi p1))] rfl ?_
  intro p e s m args below meth c A
  unfold sh_X9_digit at hsh
  refine z_aload_n (pc' := 1) 0 dX9_digit_0 rfl rfl rfl ?_
  refine z_getfield (pc' := 4) (C := RX9) (T := TX9) (N := 20) 0 12 dX9_digit_1 iX9_digit_X9 rfl rfl (by decide) mX9_digit_f81 rfl rfl ?_
  refine z_aload_n (pc' := 5) 0 dX9_digit_4 rfl rfl rfl ?_
  refine z_getfield (pc' := 8) (C := RX9) (T := TX9) (N := 20) 0 11 dX9_digit_5 iX9_digit_X9 rfl rfl (by decide) mX9_digit_f74 rfl rfl ?_
  have g1 := zkr_p hsh
  replace hsh := zkr_k hsh
  have g2 := zkr_p hsh
  replace hsh := zkr_k hsh
  refine z_icmp_ge (pc' := 11) (tgt := 26) dX9_digit_8 (by decide) g1 g2 rfl (fun q => ?_) (fun q => ?_)
  · replace hsh := zif_f q hsh
    refine z_bipush (pc' := 28) dX9_digit_26 (by decide) rfl ?_
    refine z_istore_n (pc' := 29) [(3, .int (zi (-9 : Int))), (0, .ref a_t), (1, .int (zi p0)), (2, .int (zi p1))] dX9_digit_28 rfl (by decide) rfl rfl ?_
    refine z_iload_n (pc' := 30) 0 dX9_digit_29 rfl rfl rfl ?_
    refine z_i2l (pc' := 31) dX9_digit_30 (by decide) rfl ?_
    refine z_iload_n (pc' := 32) 2 dX9_digit_31 rfl rfl rfl ?_
    have g3 := zkr_p hsh
    replace hsh := zkr_k hsh
    refine z_i2l (pc' := 33) dX9_digit_32 g3 rfl ?_
    refine z_iload_n (pc' := 34) 3 dX9_digit_33 rfl rfl rfl ?_
    have g4 := zkr_p hsh
    replace hsh := zkr_k hsh
    refine z_i2l (pc' := 35) dX9_digit_34 g4 rfl ?_
    obtain ⟨q5, h6, hsh⟩ := zbind hsh
    refine z_callS (pc' := 38) (As := [.long (zl (-9 : Int)), .long (zl p0), .long (zl p1)]) (rest := []) (wr := [(a_t, .inr (8, [.int (zi c_t_refusal), .int (zi c_t_high), .int (zi c_t_wide), .ref a_t_now, .ref a_t_trial, .ref a_t_diary, .int (zi c_t_acts), .int (zi c_t_next), .ref a_t_kept, .ref a_t_isKept, .ref a_t_script, .int (zi c_t_scriptSize), .int (zi c_t_spot), .ref a_t_read, .int (zi c_t_readHigh), .int (zi c_t_readWide), .ref a_t_wanted, .ref a_t_level, .ref a_t_chosen, .ref a_t_best])), (a_t_script, zI J 120 f_t_script)]) 3 (zc_X9_in l D J F (p0 := (-9 : Int)) (p1 := p0) (p2 := p1)  q5 h6) dX9_digit_35 gX9_digit_X9_in rfl rfl rfl (by decide +kernel) ⟨Nat.le_of_ble_eq_true rfl, Nat.le_of_ble_eq_true rfl⟩ ⟨Nat.le_of_ble_eq_true rfl, Nat.le_of_ble_eq_true rfl⟩ (z_spl_of [0, 1] rfl rfl) rfl rfl (Nat.le_of_ble_eq_true rfl) rfl (fun rv w9 hq => ?_)
    obtain ⟨rfl, rfl⟩ := hq
    refine z_ws [(a_t, .inr (8, [.int (zi c_t_refusal), .int (zi c_t_high), .int (zi c_t_wide), .ref a_t_now, .ref a_t_trial, .ref a_t_diary, .int (zi c_t_acts), .int (zi c_t_next), .ref a_t_kept, .ref a_t_isKept, .ref a_t_script, .int (zi c_t_scriptSize), .int (zi c_t_spot), .ref a_t_read, .int (zi c_t_readHigh), .int (zi c_t_readWide), .ref a_t_wanted, .ref a_t_level, .ref a_t_chosen, .ref a_t_best])), (a_t_script, zI J 120 f_t_script)] rfl ?_
    have g7 := zkr_p hsh
    replace hsh := zkr_k hsh
    refine z_if_ne (pc' := 41) (tgt := 44) dX9_digit_38 (by decide) g7 rfl (fun q => ?_) (fun q => ?_)
    · replace hsh := zif_f q hsh
      refine z_aload_n (pc' := 45) 1 dX9_digit_44 rfl rfl rfl ?_
      refine z_dup (pc' := 46) dX9_digit_45 rfl rfl ?_
      refine z_getfield (pc' := 49) (C := RX9) (T := TX9) (N := 20) 0 12 dX9_digit_46 iX9_digit_X9 rfl rfl (by decide) mX9_digit_f81 rfl rfl ?_
      refine z_iconst (pc' := 50) dX9_digit_49 rfl ?_
      refine z_iadd (pc' := 51) dX9_digit_50 rfl ?_
      refine z_putfield (pc' := 54) (C := RX9) (T := TX9) (N := 20) (ty := .int) 0 12 [(a_t, .inr (8, [.int (zi c_t_refusal), .int (zi c_t_high), .int (zi c_t_wide), .ref a_t_now, .ref a_t_trial, .ref a_t_diary, .int (zi c_t_acts), .int (zi c_t_next), .ref a_t_kept, .ref a_t_isKept, .ref a_t_script, .int (zi c_t_scriptSize), .int (zi (c_t_spot + (1 : Int))), .ref a_t_read, .int (zi c_t_readHigh), .int (zi c_t_readWide), .ref a_t_wanted, .ref a_t_level, .ref a_t_chosen, .ref a_t_best])), (a_t_script, zI J 120 f_t_script)] tyX9 tyX9_ok nmX9 dX9_digit_51 iX9_digit_X9 rfl rfl (by decide) mX9_digit_f81 rfl (by decide +kernel) rfl rfl (Nat.le_of_ble_eq_true rfl) rfl rfl rfl ?_
      refine z_iload_n (pc' := 55) 0 dX9_digit_54 rfl rfl rfl ?_
      cases hsh
      exact z_iret rfl dX9_digit_55 ⟨rfl, rfl⟩
    · replace hsh := zif_t q hsh
      refine z_bipush (pc' := 43) dX9_digit_41 (by decide) rfl ?_
      cases hsh
      exact z_iret rfl dX9_digit_43 ⟨rfl, rfl⟩
  · replace hsh := zif_t q hsh
    refine z_aload_n (pc' := 12) 0 dX9_digit_11 rfl rfl rfl ?_
    refine z_getfield (pc' := 15) (C := RX9) (T := TX9) (N := 20) 0 10 dX9_digit_12 iX9_digit_X9 rfl rfl (by decide) mX9_digit_f33 rfl rfl ?_
    refine z_aload_n (pc' := 16) 0 dX9_digit_15 rfl rfl rfl ?_
    refine z_getfield (pc' := 19) (C := RX9) (T := TX9) (N := 20) 0 12 dX9_digit_16 iX9_digit_X9 rfl rfl (by decide) mX9_digit_f81 rfl rfl ?_
    have g8 := zkx_p hsh
    replace hsh := zkx_k hsh
    refine z_iaload (pc' := 20) 1 dX9_digit_19 rfl (by decide) g8 rfl ?_
    refine z_bipush (pc' := 22) dX9_digit_20 (by decide) rfl ?_
    refine z_isub (pc' := 23) dX9_digit_22 rfl ?_
    refine z_goto (tgt := 28) dX9_digit_23 (by decide) ?_
    refine z_istore_n (pc' := 29) [(3, .int (zi ((f_t_script (c_t_spot).toNat) - (48 : Int)))), (0, .ref a_t), (1, .int (zi p0)), (2, .int (zi p1))] dX9_digit_28 rfl (by decide) rfl rfl ?_
    refine z_iload_n (pc' := 30) 0 dX9_digit_29 rfl rfl rfl ?_
    have g9 := zkr_p hsh
    replace hsh := zkr_k hsh
    refine z_i2l (pc' := 31) dX9_digit_30 g9 rfl ?_
    refine z_iload_n (pc' := 32) 2 dX9_digit_31 rfl rfl rfl ?_
    have g10 := zkr_p hsh
    replace hsh := zkr_k hsh
    refine z_i2l (pc' := 33) dX9_digit_32 g10 rfl ?_
    refine z_iload_n (pc' := 34) 3 dX9_digit_33 rfl rfl rfl ?_
    have g11 := zkr_p hsh
    replace hsh := zkr_k hsh
    refine z_i2l (pc' := 35) dX9_digit_34 g11 rfl ?_
    obtain ⟨q12, h13, hsh⟩ := zbind hsh
    refine z_callS (pc' := 38) (As := [.long (zl ((f_t_script (c_t_spot).toNat) - (48 : Int))), .long (zl p0), .long (zl p1)]) (rest := []) (wr := [(a_t, .inr (8, [.int (zi c_t_refusal), .int (zi c_t_high), .int (zi c_t_wide), .ref a_t_now, .ref a_t_trial, .ref a_t_diary, .int (zi c_t_acts), .int (zi c_t_next), .ref a_t_kept, .ref a_t_isKept, .ref a_t_script, .int (zi c_t_scriptSize), .int (zi c_t_spot), .ref a_t_read, .int (zi c_t_readHigh), .int (zi c_t_readWide), .ref a_t_wanted, .ref a_t_level, .ref a_t_chosen, .ref a_t_best])), (a_t_script, zI J 120 f_t_script)]) 3 (zc_X9_in l D J F (p0 := ((f_t_script (c_t_spot).toNat) - (48 : Int))) (p1 := p0) (p2 := p1)  q12 h13) dX9_digit_35 gX9_digit_X9_in rfl rfl rfl (by decide +kernel) ⟨Nat.le_of_ble_eq_true rfl, Nat.le_of_ble_eq_true rfl⟩ ⟨Nat.le_of_ble_eq_true rfl, Nat.le_of_ble_eq_true rfl⟩ (z_spl_of [0, 1] rfl rfl) rfl rfl (Nat.le_of_ble_eq_true rfl) rfl (fun rv w9 hq => ?_)
    obtain ⟨rfl, rfl⟩ := hq
    refine z_ws [(a_t, .inr (8, [.int (zi c_t_refusal), .int (zi c_t_high), .int (zi c_t_wide), .ref a_t_now, .ref a_t_trial, .ref a_t_diary, .int (zi c_t_acts), .int (zi c_t_next), .ref a_t_kept, .ref a_t_isKept, .ref a_t_script, .int (zi c_t_scriptSize), .int (zi c_t_spot), .ref a_t_read, .int (zi c_t_readHigh), .int (zi c_t_readWide), .ref a_t_wanted, .ref a_t_level, .ref a_t_chosen, .ref a_t_best])), (a_t_script, zI J 120 f_t_script)] rfl ?_
    have g14 := zkr_p hsh
    replace hsh := zkr_k hsh
    refine z_if_ne (pc' := 41) (tgt := 44) dX9_digit_38 (by decide) g14 rfl (fun q => ?_) (fun q => ?_)
    · replace hsh := zif_f q hsh
      refine z_aload_n (pc' := 45) 1 dX9_digit_44 rfl rfl rfl ?_
      refine z_dup (pc' := 46) dX9_digit_45 rfl rfl ?_
      refine z_getfield (pc' := 49) (C := RX9) (T := TX9) (N := 20) 0 12 dX9_digit_46 iX9_digit_X9 rfl rfl (by decide) mX9_digit_f81 rfl rfl ?_
      refine z_iconst (pc' := 50) dX9_digit_49 rfl ?_
      refine z_iadd (pc' := 51) dX9_digit_50 rfl ?_
      refine z_putfield (pc' := 54) (C := RX9) (T := TX9) (N := 20) (ty := .int) 0 12 [(a_t, .inr (8, [.int (zi c_t_refusal), .int (zi c_t_high), .int (zi c_t_wide), .ref a_t_now, .ref a_t_trial, .ref a_t_diary, .int (zi c_t_acts), .int (zi c_t_next), .ref a_t_kept, .ref a_t_isKept, .ref a_t_script, .int (zi c_t_scriptSize), .int (zi (c_t_spot + (1 : Int))), .ref a_t_read, .int (zi c_t_readHigh), .int (zi c_t_readWide), .ref a_t_wanted, .ref a_t_level, .ref a_t_chosen, .ref a_t_best])), (a_t_script, zI J 120 f_t_script)] tyX9 tyX9_ok nmX9 dX9_digit_51 iX9_digit_X9 rfl rfl (by decide) mX9_digit_f81 rfl (by decide +kernel) rfl rfl (Nat.le_of_ble_eq_true rfl) rfl rfl rfl ?_
      refine z_iload_n (pc' := 55) 0 dX9_digit_54 rfl rfl rfl ?_
      cases hsh
      exact z_iret rfl dX9_digit_55 ⟨rfl, rfl⟩
    · replace hsh := zif_t q hsh
      refine z_bipush (pc' := 43) dX9_digit_41 (by decide) rfl ?_
      cases hsh
      exact z_iret rfl dX9_digit_43 ⟨rfl, rfl⟩
def sh_X9_readSlice (F : Nat) (c_t_scriptSize : Int) (c_t_spot : Int) (f_t_script : Nat → Int) (f_t_read : Nat → Int) (p0 : Int) : Option (Int × Int × (Nat → Int)) := (sh_X9_digit F c_t_scriptSize c_t_spot f_t_script (1 : Int) (9 : Int)).bind (fun (q1 : Int × Int) => zkr q1.1 (if q1.1 = (-9 : Int) then if (-9 : Int) = (-9 : Int) then some ((0 : Int), q1.2, f_t_read) else zkx (((15 : Int) * p0) + (2 : Int)) 243 (zkx ((((15 : Int) * p0) + (3 : Int)) + ((2 : Int) * (f_t_read ((((15 : Int) * p0) + (2 : Int))).toNat))) 243 (zkx (((((15 : Int) * p0) + (3 : Int)) + ((2 : Int) * (f_t_read ((((15 : Int) * p0) + (2 : Int))).toNat))) + (1 : Int)) 243 (some ((1 : Int), q1.2, (va_up (va_up (va_up f_t_read (((((15 : Int) * p0) + (3 : Int)) + ((2 : Int) * (f_t_read ((((15 : Int) * p0) + (2 : Int))).toNat)))).toNat q1.1) ((((((15 : Int) * p0) + (3 : Int)) + ((2 : Int) * (f_t_read ((((15 : Int) * p0) + (2 : Int))).toNat))) + (1 : Int))).toNat (-9 : Int)) ((((15 : Int) * p0) + (2 : Int))).toNat (((va_up (va_up f_t_read (((((15 : Int) * p0) + (3 : Int)) + ((2 : Int) * (f_t_read ((((15 : Int) * p0) + (2 : Int))).toNat)))).toNat q1.1) ((((((15 : Int) * p0) + (3 : Int)) + ((2 : Int) * (f_t_read ((((15 : Int) * p0) + (2 : Int))).toNat))) + (1 : Int))).toNat (-9 : Int)) ((((15 : Int) * p0) + (2 : Int))).toNat) + (1 : Int))))))) else (sh_X9_digit F c_t_scriptSize q1.2 f_t_script (0 : Int) (9 : Int)).bind (fun (q4 : Int × Int) => zkr q4.1 (if q4.1 = (-9 : Int) then some ((0 : Int), q4.2, f_t_read) else zkx (((15 : Int) * p0) + (2 : Int)) 243 (zkx ((((15 : Int) * p0) + (3 : Int)) + ((2 : Int) * (f_t_read ((((15 : Int) * p0) + (2 : Int))).toNat))) 243 (zkx (((((15 : Int) * p0) + (3 : Int)) + ((2 : Int) * (f_t_read ((((15 : Int) * p0) + (2 : Int))).toNat))) + (1 : Int)) 243 (some ((1 : Int), q4.2, (va_up (va_up (va_up f_t_read (((((15 : Int) * p0) + (3 : Int)) + ((2 : Int) * (f_t_read ((((15 : Int) * p0) + (2 : Int))).toNat)))).toNat q1.1) ((((((15 : Int) * p0) + (3 : Int)) + ((2 : Int) * (f_t_read ((((15 : Int) * p0) + (2 : Int))).toNat))) + (1 : Int))).toNat q4.1) ((((15 : Int) * p0) + (2 : Int))).toNat (((va_up (va_up f_t_read (((((15 : Int) * p0) + (3 : Int)) + ((2 : Int) * (f_t_read ((((15 : Int) * p0) + (2 : Int))).toNat)))).toNat q1.1) ((((((15 : Int) * p0) + (3 : Int)) + ((2 : Int) * (f_t_read ((((15 : Int) * p0) + (2 : Int))).toNat))) + (1 : Int))).toNat q4.1) ((((15 : Int) * p0) + (2 : Int))).toNat) + (1 : Int)))))))))))
theorem mX9_readSlice_f36 : Cond.fieldLink RX9 36 (TX9 13).1 (TX9 13).2.1 (TX9 13).2.2.1 ∈ wsX9_readSlice := List.mem_of_getElem? (i := 1) rfl
theorem iX9_readSlice_X9 : ∀ w ∈ wsX90, w ∈ wsX9_readSlice := fun _ h => (List.mem_cons_of_mem _ (List.mem_append_right _ h))
set_option maxRecDepth 100000 in
set_option maxHeartbeats 4000000 in
theorem zc_X9_readSlice (l : Launch) (D : va_G) (J : Nat → ClassId) (F : Nat) (a_t : Nat) (a_t_now : Nat) (a_t_trial : Nat) (a_t_diary : Nat) (a_t_kept : Nat) (a_t_isKept : Nat) (a_t_script : Nat) (a_t_read : Nat) (a_t_wanted : Nat) (a_t_level : Nat) (a_t_chosen : Nat) (a_t_best : Nat) (c_t_refusal : Int) (c_t_high : Int) (c_t_wide : Int) (c_t_acts : Int) (c_t_next : Int) (c_t_scriptSize : Int) (c_t_spot : Int) (c_t_readHigh : Int) (c_t_readWide : Int) (f_t_script : Nat → Int) (f_t_read : Nat → Int) (p0 : Int) (res : Int × Int × (Nat → Int)) (hsh : sh_X9_readSlice F c_t_scriptSize c_t_spot f_t_script f_t_read p0 = some res) : ZM l D J yX9_readSlice wsX9_readSlice ({ frames := 2, cells := 0, slots := 0, locals := 48 } : Room) 0 0 [.ref a_t, .int (zi p0)] [(a_t, .inr (8, [.int (zi c_t_refusal), .int (zi c_t_high), .int (zi c_t_wide), .ref a_t_now, .ref a_t_trial, .ref a_t_diary, .int (zi c_t_acts), .int (zi c_t_next), .ref a_t_kept, .ref a_t_isKept, .ref a_t_script, .int (zi c_t_scriptSize), .int (zi c_t_spot), .ref a_t_read, .int (zi c_t_readHigh), .int (zi c_t_readWide), .ref a_t_wanted, .ref a_t_level, .ref a_t_chosen, .ref a_t_best])), (a_t_script, zI J 120 f_t_script), (a_t_read, zI J 243 f_t_read)] (fun rv w9 => rv = some (.int (zi res.1)) ∧ w9 = [(a_t, .inr (8, [.int (zi c_t_refusal), .int (zi c_t_high), .int (zi c_t_wide), .ref a_t_now, .ref a_t_trial, .ref a_t_diary, .int (zi c_t_acts), .int (zi c_t_next), .ref a_t_kept, .ref a_t_isKept, .ref a_t_script, .int (zi c_t_scriptSize), .int (zi res.2.1), .ref a_t_read, .int (zi c_t_readHigh), .int (zi c_t_readWide), .ref a_t_wanted, .ref a_t_level, .ref a_t_chosen, .ref a_t_best])), (a_t_script, zI J 120 f_t_script), (a_t_read, zI J 243 res.2.2)]) := by
  refine z_ofZ (cc := cX9_readSlice) (maxL := 5) (ret := (some .boolean)) 0 0 (by decide) rfl (Nat.le_of_ble_eq_true rfl) [(0, .ref a_t), (1, .int (zi p0))] rfl ?_
  intro p e s m args below meth c A
  unfold sh_X9_readSlice at hsh
  refine z_aload_n (pc' := 1) 0 dX9_readSlice_0 rfl rfl rfl ?_
  refine z_iconst (pc' := 2) dX9_readSlice_1 rfl ?_
  refine z_bipush (pc' := 4) dX9_readSlice_2 (by decide) rfl ?_
  obtain ⟨q1, h2, hsh⟩ := zbind hsh
  refine z_callV (pc' := 7) (C := RX9) (As := [.int (zi (1 : Int)), .int (zi (9 : Int))]) (rest := []) (wr := [(a_t_read, zI J 243 f_t_read)]) 2 (zc_X9_digit l D J F (a_t := a_t) (a_t_now := a_t_now) (a_t_trial := a_t_trial) (a_t_diary := a_t_diary) (a_t_kept := a_t_kept) (a_t_isKept := a_t_isKept) (a_t_script := a_t_script) (a_t_read := a_t_read) (a_t_wanted := a_t_wanted) (a_t_level := a_t_level) (a_t_chosen := a_t_chosen) (a_t_best := a_t_best) (c_t_refusal := c_t_refusal) (c_t_high := c_t_high) (c_t_wide := c_t_wide) (c_t_acts := c_t_acts) (c_t_next := c_t_next) (c_t_scriptSize := c_t_scriptSize) (c_t_spot := c_t_spot) (c_t_readHigh := c_t_readHigh) (c_t_readWide := c_t_readWide) (f_t_script := f_t_script) (p0 := (1 : Int)) (p1 := (9 : Int))  q1 h2) dX9_readSlice_4 gX9_readSlice_X9_digit rfl rfl rfl (by decide +kernel) ⟨Nat.le_of_ble_eq_true rfl, Nat.le_of_ble_eq_true rfl⟩ ⟨Nat.le_of_ble_eq_true rfl, Nat.le_of_ble_eq_true rfl⟩ (z_spl_of [0, 1, 2] rfl rfl) rfl rfl rfl rfl (Nat.le_of_ble_eq_true rfl) rfl (fun rv w9 hq => ?_)
  obtain ⟨rfl, rfl⟩ := hq
  refine z_ws [(a_t_read, zI J 243 f_t_read), (a_t, .inr (8, [.int (zi c_t_refusal), .int (zi c_t_high), .int (zi c_t_wide), .ref a_t_now, .ref a_t_trial, .ref a_t_diary, .int (zi c_t_acts), .int (zi c_t_next), .ref a_t_kept, .ref a_t_isKept, .ref a_t_script, .int (zi c_t_scriptSize), .int (zi q1.2), .ref a_t_read, .int (zi c_t_readHigh), .int (zi c_t_readWide), .ref a_t_wanted, .ref a_t_level, .ref a_t_chosen, .ref a_t_best])), (a_t_script, zI J 120 f_t_script)] rfl ?_
  refine z_istore_n (pc' := 8) [(2, .int (zi q1.1)), (0, .ref a_t), (1, .int (zi p0))] dX9_readSlice_7 rfl (by decide) rfl rfl ?_
  refine z_iload_n (pc' := 9) 0 dX9_readSlice_8 rfl rfl rfl ?_
  refine z_bipush (pc' := 11) dX9_readSlice_9 (by decide) rfl ?_
  have g3 := zkr_p hsh
  replace hsh := zkr_k hsh
  refine z_icmp_ne (pc' := 14) (tgt := 19) dX9_readSlice_11 (by decide) g3 (by decide) rfl (fun q => ?_) (fun q => ?_)
  · replace hsh := zif_f q hsh
    refine z_aload_n (pc' := 20) 1 dX9_readSlice_19 rfl rfl rfl ?_
    refine z_iconst (pc' := 21) dX9_readSlice_20 rfl ?_
    refine z_bipush (pc' := 23) dX9_readSlice_21 (by decide) rfl ?_
    obtain ⟨q4, h5, hsh⟩ := zbind hsh
    refine z_callV (pc' := 26) (C := RX9) (As := [.int (zi (0 : Int)), .int (zi (9 : Int))]) (rest := []) (wr := [(a_t_read, zI J 243 f_t_read)]) 2 (zc_X9_digit l D J F (a_t := a_t) (a_t_now := a_t_now) (a_t_trial := a_t_trial) (a_t_diary := a_t_diary) (a_t_kept := a_t_kept) (a_t_isKept := a_t_isKept) (a_t_script := a_t_script) (a_t_read := a_t_read) (a_t_wanted := a_t_wanted) (a_t_level := a_t_level) (a_t_chosen := a_t_chosen) (a_t_best := a_t_best) (c_t_refusal := c_t_refusal) (c_t_high := c_t_high) (c_t_wide := c_t_wide) (c_t_acts := c_t_acts) (c_t_next := c_t_next) (c_t_scriptSize := c_t_scriptSize) (c_t_spot := q1.2) (c_t_readHigh := c_t_readHigh) (c_t_readWide := c_t_readWide) (f_t_script := f_t_script) (p0 := (0 : Int)) (p1 := (9 : Int))  q4 h5) dX9_readSlice_23 gX9_readSlice_X9_digit rfl rfl rfl (by decide +kernel) ⟨Nat.le_of_ble_eq_true rfl, Nat.le_of_ble_eq_true rfl⟩ ⟨Nat.le_of_ble_eq_true rfl, Nat.le_of_ble_eq_true rfl⟩ (z_spl_of [1, 2, 0] rfl rfl) rfl rfl rfl rfl (Nat.le_of_ble_eq_true rfl) rfl (fun rv w9 hq => ?_)
    obtain ⟨rfl, rfl⟩ := hq
    refine z_ws [(a_t_read, zI J 243 f_t_read), (a_t, .inr (8, [.int (zi c_t_refusal), .int (zi c_t_high), .int (zi c_t_wide), .ref a_t_now, .ref a_t_trial, .ref a_t_diary, .int (zi c_t_acts), .int (zi c_t_next), .ref a_t_kept, .ref a_t_isKept, .ref a_t_script, .int (zi c_t_scriptSize), .int (zi q4.2), .ref a_t_read, .int (zi c_t_readHigh), .int (zi c_t_readWide), .ref a_t_wanted, .ref a_t_level, .ref a_t_chosen, .ref a_t_best])), (a_t_script, zI J 120 f_t_script)] rfl ?_
    refine z_istore_n (pc' := 27) [(3, .int (zi q4.1)), (2, .int (zi q1.1)), (0, .ref a_t), (1, .int (zi p0))] dX9_readSlice_26 rfl (by decide) rfl rfl ?_
    refine z_iload_n (pc' := 28) 0 dX9_readSlice_27 rfl rfl rfl ?_
    refine z_bipush (pc' := 30) dX9_readSlice_28 (by decide) rfl ?_
    have g6 := zkr_p hsh
    replace hsh := zkr_k hsh
    refine z_icmp_ne (pc' := 33) (tgt := 35) dX9_readSlice_30 (by decide) g6 (by decide) rfl (fun q => ?_) (fun q => ?_)
    · replace hsh := zif_f q hsh
      refine z_bipush (pc' := 37) dX9_readSlice_35 (by decide) rfl ?_
      refine z_iload_n (pc' := 38) 3 dX9_readSlice_37 rfl rfl rfl ?_
      refine z_imul (pc' := 39) dX9_readSlice_38 rfl ?_
      refine z_iconst (pc' := 40) dX9_readSlice_39 rfl ?_
      refine z_iadd (pc' := 41) dX9_readSlice_40 rfl ?_
      refine z_iconst (pc' := 42) dX9_readSlice_41 rfl ?_
      refine z_aload_n (pc' := 43) 2 dX9_readSlice_42 rfl rfl rfl ?_
      refine z_getfield (pc' := 46) (C := RX9) (T := TX9) (N := 20) 1 13 dX9_readSlice_43 iX9_readSlice_X9 rfl rfl (by decide) mX9_readSlice_f36 rfl rfl ?_
      refine z_bipush (pc' := 48) dX9_readSlice_46 (by decide) rfl ?_
      refine z_iload_n (pc' := 49) 3 dX9_readSlice_48 rfl rfl rfl ?_
      refine z_imul (pc' := 50) dX9_readSlice_49 rfl ?_
      refine z_iconst (pc' := 51) dX9_readSlice_50 rfl ?_
      refine z_iadd (pc' := 52) dX9_readSlice_51 rfl ?_
      have g7 := zkx_p hsh
      replace hsh := zkx_k hsh
      refine z_iaload (pc' := 53) 0 dX9_readSlice_52 rfl (by decide) g7 rfl ?_
      refine z_imul (pc' := 54) dX9_readSlice_53 rfl ?_
      refine z_iadd (pc' := 55) dX9_readSlice_54 rfl ?_
      refine z_istore (pc' := 57) [(4, .int (zi ((((15 : Int) * p0) + (3 : Int)) + ((2 : Int) * (f_t_read ((((15 : Int) * p0) + (2 : Int))).toNat))))), (3, .int (zi q4.1)), (2, .int (zi q1.1)), (0, .ref a_t), (1, .int (zi p0))] dX9_readSlice_55 (by decide) rfl rfl ?_
      refine z_aload_n (pc' := 58) 3 dX9_readSlice_57 rfl rfl rfl ?_
      refine z_getfield (pc' := 61) (C := RX9) (T := TX9) (N := 20) 1 13 dX9_readSlice_58 iX9_readSlice_X9 rfl rfl (by decide) mX9_readSlice_f36 rfl rfl ?_
      refine z_iload (pc' := 63) 0 dX9_readSlice_61 rfl rfl ?_
      refine z_iload_n (pc' := 64) 2 dX9_readSlice_63 rfl rfl rfl ?_
      have g8 := zkx_p hsh
      replace hsh := zkx_k hsh
      refine z_iastore (pc' := 65) 0 [(a_t_read, zI J 243 (va_up f_t_read (((((15 : Int) * p0) + (3 : Int)) + ((2 : Int) * (f_t_read ((((15 : Int) * p0) + (2 : Int))).toNat)))).toNat q1.1)), (a_t, .inr (8, [.int (zi c_t_refusal), .int (zi c_t_high), .int (zi c_t_wide), .ref a_t_now, .ref a_t_trial, .ref a_t_diary, .int (zi c_t_acts), .int (zi c_t_next), .ref a_t_kept, .ref a_t_isKept, .ref a_t_script, .int (zi c_t_scriptSize), .int (zi q4.2), .ref a_t_read, .int (zi c_t_readHigh), .int (zi c_t_readWide), .ref a_t_wanted, .ref a_t_level, .ref a_t_chosen, .ref a_t_best])), (a_t_script, zI J 120 f_t_script)] dX9_readSlice_64 rfl (by decide) g8 rfl rfl ?_
      refine z_aload_n (pc' := 66) 3 dX9_readSlice_65 rfl rfl rfl ?_
      refine z_getfield (pc' := 69) (C := RX9) (T := TX9) (N := 20) 1 13 dX9_readSlice_66 iX9_readSlice_X9 rfl rfl (by decide) mX9_readSlice_f36 rfl rfl ?_
      refine z_iload (pc' := 71) 0 dX9_readSlice_69 rfl rfl ?_
      refine z_iconst (pc' := 72) dX9_readSlice_71 rfl ?_
      refine z_iadd (pc' := 73) dX9_readSlice_72 rfl ?_
      refine z_iload_n (pc' := 74) 1 dX9_readSlice_73 rfl rfl rfl ?_
      have g9 := zkx_p hsh
      replace hsh := zkx_k hsh
      refine z_iastore (pc' := 75) 0 [(a_t_read, zI J 243 (va_up (va_up f_t_read (((((15 : Int) * p0) + (3 : Int)) + ((2 : Int) * (f_t_read ((((15 : Int) * p0) + (2 : Int))).toNat)))).toNat q1.1) ((((((15 : Int) * p0) + (3 : Int)) + ((2 : Int) * (f_t_read ((((15 : Int) * p0) + (2 : Int))).toNat))) + (1 : Int))).toNat q4.1)), (a_t, .inr (8, [.int (zi c_t_refusal), .int (zi c_t_high), .int (zi c_t_wide), .ref a_t_now, .ref a_t_trial, .ref a_t_diary, .int (zi c_t_acts), .int (zi c_t_next), .ref a_t_kept, .ref a_t_isKept, .ref a_t_script, .int (zi c_t_scriptSize), .int (zi q4.2), .ref a_t_read, .int (zi c_t_readHigh), .int (zi c_t_readWide), .ref a_t_wanted, .ref a_t_level, .ref a_t_chosen, .ref a_t_best])), (a_t_script, zI J 120 f_t_script)] dX9_readSlice_74 rfl (by decide) g9 rfl rfl ?_
      refine z_aload_n (pc' := 76) 3 dX9_readSlice_75 rfl rfl rfl ?_
      refine z_getfield (pc' := 79) (C := RX9) (T := TX9) (N := 20) 1 13 dX9_readSlice_76 iX9_readSlice_X9 rfl rfl (by decide) mX9_readSlice_f36 rfl rfl ?_
      refine z_bipush (pc' := 81) dX9_readSlice_79 (by decide) rfl ?_
      refine z_iload_n (pc' := 82) 4 dX9_readSlice_81 rfl rfl rfl ?_
      refine z_imul (pc' := 83) dX9_readSlice_82 rfl ?_
      refine z_iconst (pc' := 84) dX9_readSlice_83 rfl ?_
      refine z_iadd (pc' := 85) dX9_readSlice_84 rfl ?_
      refine z_dup2 (pc' := 86) dX9_readSlice_85 rfl rfl rfl ?_
      refine z_iaload (pc' := 87) 0 dX9_readSlice_86 rfl (by decide) g7 rfl ?_
      refine z_iconst (pc' := 88) dX9_readSlice_87 rfl ?_
      refine z_iadd (pc' := 89) dX9_readSlice_88 rfl ?_
      refine z_iastore (pc' := 90) 0 [(a_t_read, zI J 243 (va_up (va_up (va_up f_t_read (((((15 : Int) * p0) + (3 : Int)) + ((2 : Int) * (f_t_read ((((15 : Int) * p0) + (2 : Int))).toNat)))).toNat q1.1) ((((((15 : Int) * p0) + (3 : Int)) + ((2 : Int) * (f_t_read ((((15 : Int) * p0) + (2 : Int))).toNat))) + (1 : Int))).toNat q4.1) ((((15 : Int) * p0) + (2 : Int))).toNat (((va_up (va_up f_t_read (((((15 : Int) * p0) + (3 : Int)) + ((2 : Int) * (f_t_read ((((15 : Int) * p0) + (2 : Int))).toNat)))).toNat q1.1) ((((((15 : Int) * p0) + (3 : Int)) + ((2 : Int) * (f_t_read ((((15 : Int) * p0) + (2 : Int))).toNat))) + (1 : Int))).toNat q4.1) ((((15 : Int) * p0) + (2 : Int))).toNat) + (1 : Int)))), (a_t, .inr (8, [.int (zi c_t_refusal), .int (zi c_t_high), .int (zi c_t_wide), .ref a_t_now, .ref a_t_trial, .ref a_t_diary, .int (zi c_t_acts), .int (zi c_t_next), .ref a_t_kept, .ref a_t_isKept, .ref a_t_script, .int (zi c_t_scriptSize), .int (zi q4.2), .ref a_t_read, .int (zi c_t_readHigh), .int (zi c_t_readWide), .ref a_t_wanted, .ref a_t_level, .ref a_t_chosen, .ref a_t_best])), (a_t_script, zI J 120 f_t_script)] dX9_readSlice_89 rfl (by decide) g7 rfl rfl ?_
      refine z_iconst (pc' := 91) dX9_readSlice_90 rfl ?_
      refine z_perm [(a_t, .inr (8, [.int (zi c_t_refusal), .int (zi c_t_high), .int (zi c_t_wide), .ref a_t_now, .ref a_t_trial, .ref a_t_diary, .int (zi c_t_acts), .int (zi c_t_next), .ref a_t_kept, .ref a_t_isKept, .ref a_t_script, .int (zi c_t_scriptSize), .int (zi q4.2), .ref a_t_read, .int (zi c_t_readHigh), .int (zi c_t_readWide), .ref a_t_wanted, .ref a_t_level, .ref a_t_chosen, .ref a_t_best])), (a_t_script, zI J 120 f_t_script), (a_t_read, zI J 243 (va_up (va_up (va_up f_t_read (((((15 : Int) * p0) + (3 : Int)) + ((2 : Int) * (f_t_read ((((15 : Int) * p0) + (2 : Int))).toNat)))).toNat q1.1) ((((((15 : Int) * p0) + (3 : Int)) + ((2 : Int) * (f_t_read ((((15 : Int) * p0) + (2 : Int))).toNat))) + (1 : Int))).toNat q4.1) ((((15 : Int) * p0) + (2 : Int))).toNat (((va_up (va_up f_t_read (((((15 : Int) * p0) + (3 : Int)) + ((2 : Int) * (f_t_read ((((15 : Int) * p0) + (2 : Int))).toNat)))).toNat q1.1) ((((((15 : Int) * p0) + (3 : Int)) + ((2 : Int) * (f_t_read ((((15 : Int) * p0) + (2 : Int))).toNat))) + (1 : Int))).toNat q4.1) ((((15 : Int) * p0) + (2 : Int))).toNat) + (1 : Int))))] [(4, .int (zi ((((15 : Int) * p0) + (3 : Int)) + ((2 : Int) * (f_t_read ((((15 : Int) * p0) + (2 : Int))).toNat))))), (3, .int (zi q4.1)), (2, .int (zi q1.1)), (0, .ref a_t), (1, .int (zi p0))] [1, 2, 0] [0, 1, 2, 3, 4] rfl rfl rfl ?_
      cases hsh
      exact z_zret rfl (by decide) dX9_readSlice_91 ⟨rfl, rfl⟩
    · replace hsh := zif_t q hsh
      refine z_iconst (pc' := 34) dX9_readSlice_33 rfl ?_
      refine z_perm [(a_t, .inr (8, [.int (zi c_t_refusal), .int (zi c_t_high), .int (zi c_t_wide), .ref a_t_now, .ref a_t_trial, .ref a_t_diary, .int (zi c_t_acts), .int (zi c_t_next), .ref a_t_kept, .ref a_t_isKept, .ref a_t_script, .int (zi c_t_scriptSize), .int (zi q4.2), .ref a_t_read, .int (zi c_t_readHigh), .int (zi c_t_readWide), .ref a_t_wanted, .ref a_t_level, .ref a_t_chosen, .ref a_t_best])), (a_t_script, zI J 120 f_t_script), (a_t_read, zI J 243 f_t_read)] [(3, .int (zi q4.1)), (2, .int (zi q1.1)), (0, .ref a_t), (1, .int (zi p0))] [1, 2, 0] [0, 1, 2, 3] rfl rfl rfl ?_
      cases hsh
      exact z_zret rfl (by decide) dX9_readSlice_34 ⟨rfl, rfl⟩
  · replace hsh := zif_t q hsh
    refine z_bipush (pc' := 16) dX9_readSlice_14 (by decide) rfl ?_
    refine z_goto (tgt := 26) dX9_readSlice_16 (by decide) ?_
    refine z_istore_n (pc' := 27) [(3, .int (zi (-9 : Int))), (2, .int (zi q1.1)), (0, .ref a_t), (1, .int (zi p0))] dX9_readSlice_26 rfl (by decide) rfl rfl ?_
    refine z_iload_n (pc' := 28) 0 dX9_readSlice_27 rfl rfl rfl ?_
    refine z_bipush (pc' := 30) dX9_readSlice_28 (by decide) rfl ?_
    refine z_icmp_ne (pc' := 33) (tgt := 35) dX9_readSlice_30 (by decide) (by decide) (by decide) rfl (fun q => ?_) (fun q => ?_)
    · replace hsh := zif_f q hsh
      refine z_bipush (pc' := 37) dX9_readSlice_35 (by decide) rfl ?_
      refine z_iload_n (pc' := 38) 3 dX9_readSlice_37 rfl rfl rfl ?_
      refine z_imul (pc' := 39) dX9_readSlice_38 rfl ?_
      refine z_iconst (pc' := 40) dX9_readSlice_39 rfl ?_
      refine z_iadd (pc' := 41) dX9_readSlice_40 rfl ?_
      refine z_iconst (pc' := 42) dX9_readSlice_41 rfl ?_
      refine z_aload_n (pc' := 43) 2 dX9_readSlice_42 rfl rfl rfl ?_
      refine z_getfield (pc' := 46) (C := RX9) (T := TX9) (N := 20) 1 13 dX9_readSlice_43 iX9_readSlice_X9 rfl rfl (by decide) mX9_readSlice_f36 rfl rfl ?_
      refine z_bipush (pc' := 48) dX9_readSlice_46 (by decide) rfl ?_
      refine z_iload_n (pc' := 49) 3 dX9_readSlice_48 rfl rfl rfl ?_
      refine z_imul (pc' := 50) dX9_readSlice_49 rfl ?_
      refine z_iconst (pc' := 51) dX9_readSlice_50 rfl ?_
      refine z_iadd (pc' := 52) dX9_readSlice_51 rfl ?_
      have g10 := zkx_p hsh
      replace hsh := zkx_k hsh
      refine z_iaload (pc' := 53) 0 dX9_readSlice_52 rfl (by decide) g10 rfl ?_
      refine z_imul (pc' := 54) dX9_readSlice_53 rfl ?_
      refine z_iadd (pc' := 55) dX9_readSlice_54 rfl ?_
      refine z_istore (pc' := 57) [(4, .int (zi ((((15 : Int) * p0) + (3 : Int)) + ((2 : Int) * (f_t_read ((((15 : Int) * p0) + (2 : Int))).toNat))))), (3, .int (zi (-9 : Int))), (2, .int (zi q1.1)), (0, .ref a_t), (1, .int (zi p0))] dX9_readSlice_55 (by decide) rfl rfl ?_
      refine z_aload_n (pc' := 58) 3 dX9_readSlice_57 rfl rfl rfl ?_
      refine z_getfield (pc' := 61) (C := RX9) (T := TX9) (N := 20) 1 13 dX9_readSlice_58 iX9_readSlice_X9 rfl rfl (by decide) mX9_readSlice_f36 rfl rfl ?_
      refine z_iload (pc' := 63) 0 dX9_readSlice_61 rfl rfl ?_
      refine z_iload_n (pc' := 64) 2 dX9_readSlice_63 rfl rfl rfl ?_
      have g11 := zkx_p hsh
      replace hsh := zkx_k hsh
      refine z_iastore (pc' := 65) 0 [(a_t_read, zI J 243 (va_up f_t_read (((((15 : Int) * p0) + (3 : Int)) + ((2 : Int) * (f_t_read ((((15 : Int) * p0) + (2 : Int))).toNat)))).toNat q1.1)), (a_t, .inr (8, [.int (zi c_t_refusal), .int (zi c_t_high), .int (zi c_t_wide), .ref a_t_now, .ref a_t_trial, .ref a_t_diary, .int (zi c_t_acts), .int (zi c_t_next), .ref a_t_kept, .ref a_t_isKept, .ref a_t_script, .int (zi c_t_scriptSize), .int (zi q1.2), .ref a_t_read, .int (zi c_t_readHigh), .int (zi c_t_readWide), .ref a_t_wanted, .ref a_t_level, .ref a_t_chosen, .ref a_t_best])), (a_t_script, zI J 120 f_t_script)] dX9_readSlice_64 rfl (by decide) g11 rfl rfl ?_
      refine z_aload_n (pc' := 66) 3 dX9_readSlice_65 rfl rfl rfl ?_
      refine z_getfield (pc' := 69) (C := RX9) (T := TX9) (N := 20) 1 13 dX9_readSlice_66 iX9_readSlice_X9 rfl rfl (by decide) mX9_readSlice_f36 rfl rfl ?_
      refine z_iload (pc' := 71) 0 dX9_readSlice_69 rfl rfl ?_
      refine z_iconst (pc' := 72) dX9_readSlice_71 rfl ?_
      refine z_iadd (pc' := 73) dX9_readSlice_72 rfl ?_
      refine z_iload_n (pc' := 74) 1 dX9_readSlice_73 rfl rfl rfl ?_
      have g12 := zkx_p hsh
      replace hsh := zkx_k hsh
      refine z_iastore (pc' := 75) 0 [(a_t_read, zI J 243 (va_up (va_up f_t_read (((((15 : Int) * p0) + (3 : Int)) + ((2 : Int) * (f_t_read ((((15 : Int) * p0) + (2 : Int))).toNat)))).toNat q1.1) ((((((15 : Int) * p0) + (3 : Int)) + ((2 : Int) * (f_t_read ((((15 : Int) * p0) + (2 : Int))).toNat))) + (1 : Int))).toNat (-9 : Int))), (a_t, .inr (8, [.int (zi c_t_refusal), .int (zi c_t_high), .int (zi c_t_wide), .ref a_t_now, .ref a_t_trial, .ref a_t_diary, .int (zi c_t_acts), .int (zi c_t_next), .ref a_t_kept, .ref a_t_isKept, .ref a_t_script, .int (zi c_t_scriptSize), .int (zi q1.2), .ref a_t_read, .int (zi c_t_readHigh), .int (zi c_t_readWide), .ref a_t_wanted, .ref a_t_level, .ref a_t_chosen, .ref a_t_best])), (a_t_script, zI J 120 f_t_script)] dX9_readSlice_74 rfl (by decide) g12 rfl rfl ?_
      refine z_aload_n (pc' := 76) 3 dX9_readSlice_75 rfl rfl rfl ?_
      refine z_getfield (pc' := 79) (C := RX9) (T := TX9) (N := 20) 1 13 dX9_readSlice_76 iX9_readSlice_X9 rfl rfl (by decide) mX9_readSlice_f36 rfl rfl ?_
      refine z_bipush (pc' := 81) dX9_readSlice_79 (by decide) rfl ?_
      refine z_iload_n (pc' := 82) 4 dX9_readSlice_81 rfl rfl rfl ?_
      refine z_imul (pc' := 83) dX9_readSlice_82 rfl ?_
      refine z_iconst (pc' := 84) dX9_readSlice_83 rfl ?_
      refine z_iadd (pc' := 85) dX9_readSlice_84 rfl ?_
      refine z_dup2 (pc' := 86) dX9_readSlice_85 rfl rfl rfl ?_
      refine z_iaload (pc' := 87) 0 dX9_readSlice_86 rfl (by decide) g10 rfl ?_
      refine z_iconst (pc' := 88) dX9_readSlice_87 rfl ?_
      refine z_iadd (pc' := 89) dX9_readSlice_88 rfl ?_
      refine z_iastore (pc' := 90) 0 [(a_t_read, zI J 243 (va_up (va_up (va_up f_t_read (((((15 : Int) * p0) + (3 : Int)) + ((2 : Int) * (f_t_read ((((15 : Int) * p0) + (2 : Int))).toNat)))).toNat q1.1) ((((((15 : Int) * p0) + (3 : Int)) + ((2 : Int) * (f_t_read ((((15 : Int) * p0) + (2 : Int))).toNat))) + (1 : Int))).toNat (-9 : Int)) ((((15 : Int) * p0) + (2 : Int))).toNat (((va_up (va_up f_t_read (((((15 : Int) * p0) + (3 : Int)) + ((2 : Int) * (f_t_read ((((15 : Int) * p0) + (2 : Int))).toNat)))).toNat q1.1) ((((((15 : Int) * p0) + (3 : Int)) + ((2 : Int) * (f_t_read ((((15 : Int) * p0) + (2 : Int))).toNat))) + (1 : Int))).toNat (-9 : Int)) ((((15 : Int) * p0) + (2 : Int))).toNat) + (1 : Int)))), (a_t, .inr (8, [.int (zi c_t_refusal), .int (zi c_t_high), .int (zi c_t_wide), .ref a_t_now, .ref a_t_trial, .ref a_t_diary, .int (zi c_t_acts), .int (zi c_t_next), .ref a_t_kept, .ref a_t_isKept, .ref a_t_script, .int (zi c_t_scriptSize), .int (zi q1.2), .ref a_t_read, .int (zi c_t_readHigh), .int (zi c_t_readWide), .ref a_t_wanted, .ref a_t_level, .ref a_t_chosen, .ref a_t_best])), (a_t_script, zI J 120 f_t_script)] dX9_readSlice_89 rfl (by decide) g10 rfl rfl ?_
      refine z_iconst (pc' := 91) dX9_readSlice_90 rfl ?_
      refine z_perm [(a_t, .inr (8, [.int (zi c_t_refusal), .int (zi c_t_high), .int (zi c_t_wide), .ref a_t_now, .ref a_t_trial, .ref a_t_diary, .int (zi c_t_acts), .int (zi c_t_next), .ref a_t_kept, .ref a_t_isKept, .ref a_t_script, .int (zi c_t_scriptSize), .int (zi q1.2), .ref a_t_read, .int (zi c_t_readHigh), .int (zi c_t_readWide), .ref a_t_wanted, .ref a_t_level, .ref a_t_chosen, .ref a_t_best])), (a_t_script, zI J 120 f_t_script), (a_t_read, zI J 243 (va_up (va_up (va_up f_t_read (((((15 : Int) * p0) + (3 : Int)) + ((2 : Int) * (f_t_read ((((15 : Int) * p0) + (2 : Int))).toNat)))).toNat q1.1) ((((((15 : Int) * p0) + (3 : Int)) + ((2 : Int) * (f_t_read ((((15 : Int) * p0) + (2 : Int))).toNat))) + (1 : Int))).toNat (-9 : Int)) ((((15 : Int) * p0) + (2 : Int))).toNat (((va_up (va_up f_t_read (((((15 : Int) * p0) + (3 : Int)) + ((2 : Int) * (f_t_read ((((15 : Int) * p0) + (2 : Int))).toNat)))).toNat q1.1) ((((((15 : Int) * p0) + (3 : Int)) + ((2 : Int) * (f_t_read ((((15 : Int) * p0) + (2 : Int))).toNat))) + (1 : Int))).toNat (-9 : Int)) ((((15 : Int) * p0) + (2 : Int))).toNat) + (1 : Int))))] [(4, .int (zi ((((15 : Int) * p0) + (3 : Int)) + ((2 : Int) * (f_t_read ((((15 : Int) * p0) + (2 : Int))).toNat))))), (3, .int (zi (-9 : Int))), (2, .int (zi q1.1)), (0, .ref a_t), (1, .int (zi p0))] [1, 2, 0] [0, 1, 2, 3, 4] rfl rfl rfl ?_
      cases hsh
      exact z_zret rfl (by decide) dX9_readSlice_91 ⟨rfl, rfl⟩
    · replace hsh := zif_t q hsh
      refine z_iconst (pc' := 34) dX9_readSlice_33 rfl ?_
      refine z_perm [(a_t, .inr (8, [.int (zi c_t_refusal), .int (zi c_t_high), .int (zi c_t_wide), .ref a_t_now, .ref a_t_trial, .ref a_t_diary, .int (zi c_t_acts), .int (zi c_t_next), .ref a_t_kept, .ref a_t_isKept, .ref a_t_script, .int (zi c_t_scriptSize), .int (zi q1.2), .ref a_t_read, .int (zi c_t_readHigh), .int (zi c_t_readWide), .ref a_t_wanted, .ref a_t_level, .ref a_t_chosen, .ref a_t_best])), (a_t_script, zI J 120 f_t_script), (a_t_read, zI J 243 f_t_read)] [(3, .int (zi (-9 : Int))), (2, .int (zi q1.1)), (0, .ref a_t), (1, .int (zi p0))] [1, 2, 0] [0, 1, 2, 3] rfl rfl rfl ?_
      cases hsh
      exact z_zret rfl (by decide) dX9_readSlice_34 ⟨rfl, rfl⟩
def sh_X9_readColumn_L0 (F : Nat) (p0 : Int) (c_t_scriptSize : Int) (f_t_script : Nat → Int) (k : Int → (Nat → Int) → Option (Int × Int × (Nat → Int))) : Nat → Int → (Nat → Int) → Option (Int × Int × (Nat → Int))
  | 0, _, _ => none
  | N + 1, v3, v4 => (sh_X9_readLetter F c_t_scriptSize v3 f_t_script (59 : Int)).bind (fun (q5 : Int × Int) => zkr q5.1 (if q5.1 = (0 : Int) then zkx (((15 : Int) * p0) + (2 : Int)) 243 (zkr (v4 ((((15 : Int) * p0) + (2 : Int))).toNat) (if (v4 ((((15 : Int) * p0) + (2 : Int))).toNat) = (6 : Int) then k q5.2 v4 else (sh_X9_readSlice F c_t_scriptSize q5.2 f_t_script v4 p0).bind (fun (q10 : Int × Int × (Nat → Int)) => zkr q10.1 (if q10.1 = (0 : Int) then k q10.2.1 q10.2.2 else sh_X9_readColumn_L0 F p0 c_t_scriptSize f_t_script k N q10.2.1 q10.2.2)))) else some ((1 : Int), q5.2, v4)))
def sh_X9_readColumn (F : Nat) (c_t_scriptSize : Int) (c_t_spot : Int) (f_t_script : Nat → Int) (f_t_read : Nat → Int) (p0 : Int) : Option (Int × Int × (Nat → Int)) := sh_X9_readColumn_L0 F p0 c_t_scriptSize f_t_script (fun (v13 : Int) (v14 : (Nat → Int)) => some ((0 : Int), v13, v14)) F c_t_spot f_t_read
theorem mX9_readColumn_f36 : Cond.fieldLink RX9 36 (TX9 13).1 (TX9 13).2.1 (TX9 13).2.2.1 ∈ wsX9_readColumn := List.mem_of_getElem? (i := 1) rfl
theorem iX9_readColumn_X9 : ∀ w ∈ wsX90, w ∈ wsX9_readColumn := fun _ h => (List.mem_cons_of_mem _ (List.mem_append_right _ h))
set_option maxRecDepth 100000 in
set_option maxHeartbeats 4000000 in
theorem zl_X9_readColumn_L0 {p : Program} {l : Launch} {e : Env} {s : State} {m : MethodId} {args : Array Value} {below : List Frame} {meth : Method} {c : Code} {A : Nat → Prop} {D : va_G} {J : Nat → ClassId} {F : Nat} {p0 : Int} {c_t_scriptSize : Int} {f_t_script : Nat → Int} {a_t : Nat} {c_t_refusal : Int} {c_t_high : Int} {c_t_wide : Int} {a_t_now : Nat} {a_t_trial : Nat} {a_t_diary : Nat} {c_t_acts : Int} {c_t_next : Int} {a_t_kept : Nat} {a_t_isKept : Nat} {a_t_script : Nat} {a_t_read : Nat} {c_t_readHigh : Int} {c_t_readWide : Int} {a_t_wanted : Nat} {a_t_level : Nat} {a_t_chosen : Nat} {a_t_best : Nat} {res : Int × Int × (Nat → Int)} {k : Int → (Nat → Int) → Option (Int × Int × (Nat → Int))} (hk : ∀ (v3' : Int) (v4' : (Nat → Int)), k v3' v4' = some res → Z p l e ({ frames := 3, cells := 0, slots := 0, locals := 72 } : Room) s m args below meth c (MQ below (zQ D J A (fun rv w9 => rv = some (.int (zi res.1)) ∧ w9 = [(a_t, .inr (8, [.int (zi c_t_refusal), .int (zi c_t_high), .int (zi c_t_wide), .ref a_t_now, .ref a_t_trial, .ref a_t_diary, .int (zi c_t_acts), .int (zi c_t_next), .ref a_t_kept, .ref a_t_isKept, .ref a_t_script, .int (zi c_t_scriptSize), .int (zi res.2.1), .ref a_t_read, .int (zi c_t_readHigh), .int (zi c_t_readWide), .ref a_t_wanted, .ref a_t_level, .ref a_t_chosen, .ref a_t_best])), (a_t_script, zI J 120 f_t_script), (a_t_read, zI J 243 res.2.2)])) args s 0 0 A) cX9_readColumn 2 wsX9_readColumn RX9 D J A (some .boolean) (yX9_readColumn.name, []) 0 0 [(a_t, .inr (8, [.int (zi c_t_refusal), .int (zi c_t_high), .int (zi c_t_wide), .ref a_t_now, .ref a_t_trial, .ref a_t_diary, .int (zi c_t_acts), .int (zi c_t_next), .ref a_t_kept, .ref a_t_isKept, .ref a_t_script, .int (zi c_t_scriptSize), .int (zi v3'), .ref a_t_read, .int (zi c_t_readHigh), .int (zi c_t_readWide), .ref a_t_wanted, .ref a_t_level, .ref a_t_chosen, .ref a_t_best])), (a_t_script, zI J 120 f_t_script), (a_t_read, zI J 243 v4')] [] 33 []) : ∀ (N : Nat) (v3 : Int) (v4 : (Nat → Int)), sh_X9_readColumn_L0 F p0 c_t_scriptSize f_t_script k N v3 v4 = some res → Z p l e ({ frames := 3, cells := 0, slots := 0, locals := 72 } : Room) s m args below meth c (MQ below (zQ D J A (fun rv w9 => rv = some (.int (zi res.1)) ∧ w9 = [(a_t, .inr (8, [.int (zi c_t_refusal), .int (zi c_t_high), .int (zi c_t_wide), .ref a_t_now, .ref a_t_trial, .ref a_t_diary, .int (zi c_t_acts), .int (zi c_t_next), .ref a_t_kept, .ref a_t_isKept, .ref a_t_script, .int (zi c_t_scriptSize), .int (zi res.2.1), .ref a_t_read, .int (zi c_t_readHigh), .int (zi c_t_readWide), .ref a_t_wanted, .ref a_t_level, .ref a_t_chosen, .ref a_t_best])), (a_t_script, zI J 120 f_t_script), (a_t_read, zI J 243 res.2.2)])) args s 0 0 A) cX9_readColumn 2 wsX9_readColumn RX9 D J A (some .boolean) (yX9_readColumn.name, []) 0 0 [(a_t, .inr (8, [.int (zi c_t_refusal), .int (zi c_t_high), .int (zi c_t_wide), .ref a_t_now, .ref a_t_trial, .ref a_t_diary, .int (zi c_t_acts), .int (zi c_t_next), .ref a_t_kept, .ref a_t_isKept, .ref a_t_script, .int (zi c_t_scriptSize), .int (zi v3), .ref a_t_read, .int (zi c_t_readHigh), .int (zi c_t_readWide), .ref a_t_wanted, .ref a_t_level, .ref a_t_chosen, .ref a_t_best])), (a_t_script, zI J 120 f_t_script), (a_t_read, zI J 243 v4)] [(0, .ref a_t), (1, .int (zi p0))] 0 [] := by
  intro N
  induction N with
  | zero =>
    intro v3 v4 hsh
    exact absurd hsh (by simp [sh_X9_readColumn_L0])
  | succ N ih =>
    intro v3 v4 hsh
    rw [sh_X9_readColumn_L0] at hsh
    refine z_aload_n (pc' := 1) 0 dX9_readColumn_0 rfl rfl rfl ?_
    refine z_bipush (pc' := 3) dX9_readColumn_1 (by decide) rfl ?_
    obtain ⟨q5, h6, hsh⟩ := zbind hsh
    refine z_callV (pc' := 6) (C := RX9) (As := [.int (zi (59 : Int))]) (rest := []) (wr := [(a_t_read, zI J 243 v4)]) 1 (zc_X9_readLetter l D J F (a_t := a_t) (a_t_now := a_t_now) (a_t_trial := a_t_trial) (a_t_diary := a_t_diary) (a_t_kept := a_t_kept) (a_t_isKept := a_t_isKept) (a_t_script := a_t_script) (a_t_read := a_t_read) (a_t_wanted := a_t_wanted) (a_t_level := a_t_level) (a_t_chosen := a_t_chosen) (a_t_best := a_t_best) (c_t_refusal := c_t_refusal) (c_t_high := c_t_high) (c_t_wide := c_t_wide) (c_t_acts := c_t_acts) (c_t_next := c_t_next) (c_t_scriptSize := c_t_scriptSize) (c_t_spot := v3) (c_t_readHigh := c_t_readHigh) (c_t_readWide := c_t_readWide) (f_t_script := f_t_script) (p0 := (59 : Int))  q5 h6) dX9_readColumn_3 gX9_readColumn_X9_readLetter rfl rfl rfl (by decide +kernel) ⟨Nat.le_of_ble_eq_true rfl, Nat.le_of_ble_eq_true rfl⟩ ⟨Nat.le_of_ble_eq_true rfl, Nat.le_of_ble_eq_true rfl⟩ (z_spl_of [0, 1, 2] rfl rfl) rfl rfl rfl rfl (Nat.le_of_ble_eq_true rfl) rfl (fun rv w9 hq => ?_)
    obtain ⟨rfl, rfl⟩ := hq
    refine z_ws [(a_t_read, zI J 243 v4), (a_t, .inr (8, [.int (zi c_t_refusal), .int (zi c_t_high), .int (zi c_t_wide), .ref a_t_now, .ref a_t_trial, .ref a_t_diary, .int (zi c_t_acts), .int (zi c_t_next), .ref a_t_kept, .ref a_t_isKept, .ref a_t_script, .int (zi c_t_scriptSize), .int (zi q5.2), .ref a_t_read, .int (zi c_t_readHigh), .int (zi c_t_readWide), .ref a_t_wanted, .ref a_t_level, .ref a_t_chosen, .ref a_t_best])), (a_t_script, zI J 120 f_t_script)] rfl ?_
    have g7 := zkr_p hsh
    replace hsh := zkr_k hsh
    refine z_if_ne (pc' := 9) (tgt := 35) dX9_readColumn_6 (by decide) g7 rfl (fun q => ?_) (fun q => ?_)
    · replace hsh := zif_f q hsh
      refine z_iconst (pc' := 36) dX9_readColumn_35 rfl ?_
      refine z_perm [(a_t, .inr (8, [.int (zi c_t_refusal), .int (zi c_t_high), .int (zi c_t_wide), .ref a_t_now, .ref a_t_trial, .ref a_t_diary, .int (zi c_t_acts), .int (zi c_t_next), .ref a_t_kept, .ref a_t_isKept, .ref a_t_script, .int (zi c_t_scriptSize), .int (zi q5.2), .ref a_t_read, .int (zi c_t_readHigh), .int (zi c_t_readWide), .ref a_t_wanted, .ref a_t_level, .ref a_t_chosen, .ref a_t_best])), (a_t_script, zI J 120 f_t_script), (a_t_read, zI J 243 v4)] [(0, .ref a_t), (1, .int (zi p0))] [1, 2, 0] [0, 1] rfl rfl rfl ?_
      cases hsh
      exact z_zret rfl (by decide) dX9_readColumn_36 ⟨rfl, rfl⟩
    · replace hsh := zif_t q hsh
      refine z_aload_n (pc' := 10) 0 dX9_readColumn_9 rfl rfl rfl ?_
      refine z_getfield (pc' := 13) (C := RX9) (T := TX9) (N := 20) 1 13 dX9_readColumn_10 iX9_readColumn_X9 rfl rfl (by decide) mX9_readColumn_f36 rfl rfl ?_
      refine z_bipush (pc' := 15) dX9_readColumn_13 (by decide) rfl ?_
      refine z_iload_n (pc' := 16) 1 dX9_readColumn_15 rfl rfl rfl ?_
      refine z_imul (pc' := 17) dX9_readColumn_16 rfl ?_
      refine z_iconst (pc' := 18) dX9_readColumn_17 rfl ?_
      refine z_iadd (pc' := 19) dX9_readColumn_18 rfl ?_
      have g8 := zkx_p hsh
      replace hsh := zkx_k hsh
      refine z_iaload (pc' := 20) 0 dX9_readColumn_19 rfl (by decide) g8 rfl ?_
      refine z_bipush (pc' := 22) dX9_readColumn_20 (by decide) rfl ?_
      have g9 := zkr_p hsh
      replace hsh := zkr_k hsh
      refine z_icmp_eq (pc' := 25) (tgt := 33) dX9_readColumn_22 (by decide) g9 (by decide) rfl (fun q => ?_) (fun q => ?_)
      · replace hsh := zif_t q hsh
        refine z_perm [(a_t, .inr (8, [.int (zi c_t_refusal), .int (zi c_t_high), .int (zi c_t_wide), .ref a_t_now, .ref a_t_trial, .ref a_t_diary, .int (zi c_t_acts), .int (zi c_t_next), .ref a_t_kept, .ref a_t_isKept, .ref a_t_script, .int (zi c_t_scriptSize), .int (zi q5.2), .ref a_t_read, .int (zi c_t_readHigh), .int (zi c_t_readWide), .ref a_t_wanted, .ref a_t_level, .ref a_t_chosen, .ref a_t_best])), (a_t_script, zI J 120 f_t_script), (a_t_read, zI J 243 v4)] [] [1, 2, 0] [] rfl rfl rfl ?_
        exact hk _ _ hsh
      · replace hsh := zif_f q hsh
        refine z_aload_n (pc' := 26) 0 dX9_readColumn_25 rfl rfl rfl ?_
        refine z_iload_n (pc' := 27) 1 dX9_readColumn_26 rfl rfl rfl ?_
        obtain ⟨q10, h11, hsh⟩ := zbind hsh
        refine z_callV (pc' := 30) (C := RX9) (As := [.int (zi p0)]) (rest := []) (wr := []) 1 (zc_X9_readSlice l D J F (a_t := a_t) (a_t_now := a_t_now) (a_t_trial := a_t_trial) (a_t_diary := a_t_diary) (a_t_kept := a_t_kept) (a_t_isKept := a_t_isKept) (a_t_script := a_t_script) (a_t_read := a_t_read) (a_t_wanted := a_t_wanted) (a_t_level := a_t_level) (a_t_chosen := a_t_chosen) (a_t_best := a_t_best) (c_t_refusal := c_t_refusal) (c_t_high := c_t_high) (c_t_wide := c_t_wide) (c_t_acts := c_t_acts) (c_t_next := c_t_next) (c_t_scriptSize := c_t_scriptSize) (c_t_spot := q5.2) (c_t_readHigh := c_t_readHigh) (c_t_readWide := c_t_readWide) (f_t_script := f_t_script) (f_t_read := v4) (p0 := p0)  q10 h11) dX9_readColumn_27 gX9_readColumn_X9_readSlice rfl rfl rfl (by decide +kernel) ⟨Nat.le_of_ble_eq_true rfl, Nat.le_of_ble_eq_true rfl⟩ ⟨Nat.le_of_ble_eq_true rfl, Nat.le_of_ble_eq_true rfl⟩ (z_spl_of [1, 2, 0] rfl rfl) rfl rfl rfl rfl (Nat.le_of_ble_eq_true rfl) rfl (fun rv w9 hq => ?_)
        obtain ⟨rfl, rfl⟩ := hq
        refine z_ws [(a_t, .inr (8, [.int (zi c_t_refusal), .int (zi c_t_high), .int (zi c_t_wide), .ref a_t_now, .ref a_t_trial, .ref a_t_diary, .int (zi c_t_acts), .int (zi c_t_next), .ref a_t_kept, .ref a_t_isKept, .ref a_t_script, .int (zi c_t_scriptSize), .int (zi q10.2.1), .ref a_t_read, .int (zi c_t_readHigh), .int (zi c_t_readWide), .ref a_t_wanted, .ref a_t_level, .ref a_t_chosen, .ref a_t_best])), (a_t_script, zI J 120 f_t_script), (a_t_read, zI J 243 q10.2.2)] rfl ?_
        have g12 := zkr_p hsh
        replace hsh := zkr_k hsh
        refine z_if_ne (pc' := 33) (tgt := 0) dX9_readColumn_30 (by decide) g12 rfl (fun q => ?_) (fun q => ?_)
        · replace hsh := zif_f q hsh
          exact ih _ _ hsh
        · replace hsh := zif_t q hsh
          refine z_perm [(a_t, .inr (8, [.int (zi c_t_refusal), .int (zi c_t_high), .int (zi c_t_wide), .ref a_t_now, .ref a_t_trial, .ref a_t_diary, .int (zi c_t_acts), .int (zi c_t_next), .ref a_t_kept, .ref a_t_isKept, .ref a_t_script, .int (zi c_t_scriptSize), .int (zi q10.2.1), .ref a_t_read, .int (zi c_t_readHigh), .int (zi c_t_readWide), .ref a_t_wanted, .ref a_t_level, .ref a_t_chosen, .ref a_t_best])), (a_t_script, zI J 120 f_t_script), (a_t_read, zI J 243 q10.2.2)] [] [0, 1, 2] [] rfl rfl rfl ?_
          exact hk _ _ hsh
set_option maxRecDepth 100000 in
set_option maxHeartbeats 4000000 in
theorem zc_X9_readColumn (l : Launch) (D : va_G) (J : Nat → ClassId) (F : Nat) (a_t : Nat) (a_t_now : Nat) (a_t_trial : Nat) (a_t_diary : Nat) (a_t_kept : Nat) (a_t_isKept : Nat) (a_t_script : Nat) (a_t_read : Nat) (a_t_wanted : Nat) (a_t_level : Nat) (a_t_chosen : Nat) (a_t_best : Nat) (c_t_refusal : Int) (c_t_high : Int) (c_t_wide : Int) (c_t_acts : Int) (c_t_next : Int) (c_t_scriptSize : Int) (c_t_spot : Int) (c_t_readHigh : Int) (c_t_readWide : Int) (f_t_script : Nat → Int) (f_t_read : Nat → Int) (p0 : Int) (res : Int × Int × (Nat → Int)) (hsh : sh_X9_readColumn F c_t_scriptSize c_t_spot f_t_script f_t_read p0 = some res) : ZM l D J yX9_readColumn wsX9_readColumn ({ frames := 3, cells := 0, slots := 0, locals := 72 } : Room) 0 0 [.ref a_t, .int (zi p0)] [(a_t, .inr (8, [.int (zi c_t_refusal), .int (zi c_t_high), .int (zi c_t_wide), .ref a_t_now, .ref a_t_trial, .ref a_t_diary, .int (zi c_t_acts), .int (zi c_t_next), .ref a_t_kept, .ref a_t_isKept, .ref a_t_script, .int (zi c_t_scriptSize), .int (zi c_t_spot), .ref a_t_read, .int (zi c_t_readHigh), .int (zi c_t_readWide), .ref a_t_wanted, .ref a_t_level, .ref a_t_chosen, .ref a_t_best])), (a_t_script, zI J 120 f_t_script), (a_t_read, zI J 243 f_t_read)] (fun rv w9 => rv = some (.int (zi res.1)) ∧ w9 = [(a_t, .inr (8, [.int (zi c_t_refusal), .int (zi c_t_high), .int (zi c_t_wide), .ref a_t_now, .ref a_t_trial, .ref a_t_diary, .int (zi c_t_acts), .int (zi c_t_next), .ref a_t_kept, .ref a_t_isKept, .ref a_t_script, .int (zi c_t_scriptSize), .int (zi res.2.1), .ref a_t_read, .int (zi c_t_readHigh), .int (zi c_t_readWide), .ref a_t_wanted, .ref a_t_level, .ref a_t_chosen, .ref a_t_best])), (a_t_script, zI J 120 f_t_script), (a_t_read, zI J 243 res.2.2)]) := by
  refine z_ofZ (cc := cX9_readColumn) (maxL := 2) (ret := (some .boolean)) 0 0 (by decide) rfl (Nat.le_of_ble_eq_true rfl) [(0, .ref a_t), (1, .int (zi p0))] rfl ?_
  intro p e s m args below meth c A
  unfold sh_X9_readColumn at hsh
  refine zl_X9_readColumn_L0 (F := F) (hk := fun v13 v14 hsh => ?_) _ _ _ hsh
  refine z_iconst (pc' := 34) dX9_readColumn_33 rfl ?_
  cases hsh
  exact z_zret rfl (by decide) dX9_readColumn_34 ⟨rfl, rfl⟩
def sh_X9_readText_L2 (F : Nat) (k : Int → (Nat → Int) → Option (Int × Int × Int × Int × (Nat → Int))) : Nat → Int → (Nat → Int) → Option (Int × Int × Int × Int × (Nat → Int))
  | 0, _, _ => none
  | N + 1, v4, v5 => zkr v4 (if v4 < (243 : Int) then zkx v4 243 (sh_X9_readText_L2 F k N (v4 + (1 : Int)) (va_up v5 (v4).toNat (0 : Int))) else k v4 v5)
def sh_X9_readText_L124 (F : Nat) (c_t_scriptSize : Int) (f_t_script : Nat → Int) (q13 : Int × Int) (q16 : Int × Int) (k : Int → Int → (Nat → Int) → Option (Int × Int × Int × Int × (Nat → Int))) : Nat → Int → Int → (Nat → Int) → Option (Int × Int × Int × Int × (Nat → Int))
  | 0, _, _, _ => none
  | N + 1, v26, v27, v28 => zkr v26 (zkr (q13.1 * q16.1) (if v26 < (q13.1 * q16.1) then (sh_X9_readColumn F c_t_scriptSize v27 f_t_script v28 v26).bind (fun (q31 : Int × Int × (Nat → Int)) => zkr q31.1 (if q31.1 = (0 : Int) then some (q31.2.1, q31.2.1, q13.1, q16.1, q31.2.2) else sh_X9_readText_L124 F c_t_scriptSize f_t_script q13 q16 k N (v26 + (1 : Int)) q31.2.1 q31.2.2)) else k v26 v27 v28))
def sh_X9_readText_L124_2 (F : Nat) (c_t_scriptSize : Int) (f_t_script : Nat → Int) (q13 : Int × Int) (q16 : Int × Int) (k : Int → Int → (Nat → Int) → Option (Int × Int × Int × Int × (Nat → Int))) : Nat → Int → Int → (Nat → Int) → Option (Int × Int × Int × Int × (Nat → Int))
  | 0, _, _, _ => none
  | N + 1, v44, v45, v46 => zkr v44 (zkr (q13.1 * q16.1) (if v44 < (q13.1 * q16.1) then (sh_X9_readColumn F c_t_scriptSize v45 f_t_script v46 v44).bind (fun (q49 : Int × Int × (Nat → Int)) => zkr q49.1 (if q49.1 = (0 : Int) then some (q49.2.1, q49.2.1, q13.1, q16.1, q49.2.2) else sh_X9_readText_L124_2 F c_t_scriptSize f_t_script q13 q16 k N (v44 + (1 : Int)) q49.2.1 q49.2.2)) else k v44 v45 v46))
def sh_X9_readText_L124_3 (F : Nat) (c_t_scriptSize : Int) (f_t_script : Nat → Int) (q13 : Int × Int) (k : Int → Int → (Nat → Int) → Option (Int × Int × Int × Int × (Nat → Int))) : Nat → Int → Int → (Nat → Int) → Option (Int × Int × Int × Int × (Nat → Int))
  | 0, _, _, _ => none
  | N + 1, v64, v65, v66 => zkr v64 (zkr (q13.1 * (-9 : Int)) (if v64 < (q13.1 * (-9 : Int)) then (sh_X9_readColumn F c_t_scriptSize v65 f_t_script v66 v64).bind (fun (q69 : Int × Int × (Nat → Int)) => zkr q69.1 (if q69.1 = (0 : Int) then some (q69.2.1, q69.2.1, q13.1, (-9 : Int), q69.2.2) else sh_X9_readText_L124_3 F c_t_scriptSize f_t_script q13 k N (v64 + (1 : Int)) q69.2.1 q69.2.2)) else k v64 v65 v66))
def sh_X9_readText_L124_4 (F : Nat) (c_t_scriptSize : Int) (f_t_script : Nat → Int) (q13 : Int × Int) (k : Int → Int → (Nat → Int) → Option (Int × Int × Int × Int × (Nat → Int))) : Nat → Int → Int → (Nat → Int) → Option (Int × Int × Int × Int × (Nat → Int))
  | 0, _, _, _ => none
  | N + 1, v82, v83, v84 => zkr v82 (zkr (q13.1 * (-9 : Int)) (if v82 < (q13.1 * (-9 : Int)) then (sh_X9_readColumn F c_t_scriptSize v83 f_t_script v84 v82).bind (fun (q87 : Int × Int × (Nat → Int)) => zkr q87.1 (if q87.1 = (0 : Int) then some (q87.2.1, q87.2.1, q13.1, (-9 : Int), q87.2.2) else sh_X9_readText_L124_4 F c_t_scriptSize f_t_script q13 k N (v82 + (1 : Int)) q87.2.1 q87.2.2)) else k v82 v83 v84))
def sh_X9_readText (F : Nat) (c_t_scriptSize : Int) (c_t_readHigh : Int) (c_t_readWide : Int) (f_t_script : Nat → Int) (f_t_read : Nat → Int) : Option (Int × Int × Int × Int × (Nat → Int)) := sh_X9_readText_L2 F (fun (v8 : Int) (v9 : (Nat → Int)) => (sh_X9_readLetter F c_t_scriptSize (0 : Int) f_t_script (68 : Int)).bind (fun (q10 : Int × Int) => zkr q10.1 (if q10.1 = (0 : Int) then some (q10.2, q10.2, c_t_readHigh, c_t_readWide, v9) else (sh_X9_digit F c_t_scriptSize q10.2 f_t_script (1 : Int) (4 : Int)).bind (fun (q13 : Int × Int) => zkr q13.1 (if q13.1 = (-9 : Int) then if (-9 : Int) = (-9 : Int) then zkr ((va_up v9 ((240 : Int)).toNat (-9 : Int)) ((240 : Int)).toNat) (if ((va_up v9 ((240 : Int)).toNat (-9 : Int)) ((240 : Int)).toNat) = (-9 : Int) then some (q13.2, q13.2, q13.1, (-9 : Int), (va_up v9 ((240 : Int)).toNat (-9 : Int))) else sh_X9_readText_L124_4 F c_t_scriptSize f_t_script q13 (fun (v90 : Int) (v91 : Int) (v92 : (Nat → Int)) => zkr v91 (zkr c_t_scriptSize (if v91 = c_t_scriptSize then some ((-9 : Int), v91, q13.1, (-9 : Int), v92) else some (v91, v91, q13.1, (-9 : Int), v92)))) F (0 : Int) q13.2 (va_up v9 ((240 : Int)).toNat (-9 : Int))) else (sh_X9_digit F c_t_scriptSize q13.2 f_t_script (1 : Int) (9 : Int)).bind (fun (q57 : Int × Int) => zkr ((va_up v9 ((240 : Int)).toNat q57.1) ((240 : Int)).toNat) (if ((va_up v9 ((240 : Int)).toNat q57.1) ((240 : Int)).toNat) = (-9 : Int) then some (q57.2, q57.2, q13.1, (-9 : Int), (va_up v9 ((240 : Int)).toNat q57.1)) else sh_X9_readText_L124_3 F c_t_scriptSize f_t_script q13 (fun (v72 : Int) (v73 : Int) (v74 : (Nat → Int)) => zkr v73 (zkr c_t_scriptSize (if v73 = c_t_scriptSize then some ((-9 : Int), v73, q13.1, (-9 : Int), v74) else some (v73, v73, q13.1, (-9 : Int), v74)))) F (0 : Int) q57.2 (va_up v9 ((240 : Int)).toNat q57.1))) else (sh_X9_digit F c_t_scriptSize q13.2 f_t_script (1 : Int) (4 : Int)).bind (fun (q16 : Int × Int) => zkr q16.1 (if q16.1 = (-9 : Int) then zkr ((va_up v9 ((240 : Int)).toNat (-9 : Int)) ((240 : Int)).toNat) (if ((va_up v9 ((240 : Int)).toNat (-9 : Int)) ((240 : Int)).toNat) = (-9 : Int) then some (q16.2, q16.2, q13.1, q16.1, (va_up v9 ((240 : Int)).toNat (-9 : Int))) else sh_X9_readText_L124_2 F c_t_scriptSize f_t_script q13 q16 (fun (v52 : Int) (v53 : Int) (v54 : (Nat → Int)) => zkr v53 (zkr c_t_scriptSize (if v53 = c_t_scriptSize then some ((-9 : Int), v53, q13.1, q16.1, v54) else some (v53, v53, q13.1, q16.1, v54)))) F (0 : Int) q16.2 (va_up v9 ((240 : Int)).toNat (-9 : Int))) else (sh_X9_digit F c_t_scriptSize q16.2 f_t_script (1 : Int) (9 : Int)).bind (fun (q19 : Int × Int) => zkr ((va_up v9 ((240 : Int)).toNat q19.1) ((240 : Int)).toNat) (if ((va_up v9 ((240 : Int)).toNat q19.1) ((240 : Int)).toNat) = (-9 : Int) then some (q19.2, q19.2, q13.1, q16.1, (va_up v9 ((240 : Int)).toNat q19.1)) else sh_X9_readText_L124 F c_t_scriptSize f_t_script q13 q16 (fun (v34 : Int) (v35 : Int) (v36 : (Nat → Int)) => zkr v35 (zkr c_t_scriptSize (if v35 = c_t_scriptSize then some ((-9 : Int), v35, q13.1, q16.1, v36) else some (v35, v35, q13.1, q16.1, v36)))) F (0 : Int) q19.2 (va_up v9 ((240 : Int)).toNat q19.1)))))))))) F (0 : Int) f_t_read
theorem mX9_readText_f36 : Cond.fieldLink RX9 36 (TX9 13).1 (TX9 13).2.1 (TX9 13).2.2.1 ∈ wsX9_readText := List.mem_of_getElem? (i := 1) rfl
theorem iX9_readText_X9 : ∀ w ∈ wsX90, w ∈ wsX9_readText := fun _ h => (List.mem_cons_of_mem _ (List.mem_append_right _ h))
theorem mX9_readText_f81 : Cond.fieldLink RX9 81 (TX9 12).1 (TX9 12).2.1 (TX9 12).2.2.1 ∈ wsX9_readText := List.mem_of_getElem? (i := 2) rfl
theorem mX9_readText_f94 : Cond.fieldLink RX9 94 (TX9 14).1 (TX9 14).2.1 (TX9 14).2.2.1 ∈ wsX9_readText := List.mem_of_getElem? (i := 3) rfl
theorem mX9_readText_f97 : Cond.fieldLink RX9 97 (TX9 15).1 (TX9 15).2.1 (TX9 15).2.2.1 ∈ wsX9_readText := List.mem_of_getElem? (i := 4) rfl
theorem mX9_readText_f74 : Cond.fieldLink RX9 74 (TX9 11).1 (TX9 11).2.1 (TX9 11).2.2.1 ∈ wsX9_readText := List.mem_of_getElem? (i := 5) rfl
set_option maxRecDepth 100000 in
set_option maxHeartbeats 4000000 in
theorem zl_X9_readText_L2 {p : Program} {l : Launch} {e : Env} {s : State} {m : MethodId} {args : Array Value} {below : List Frame} {meth : Method} {c : Code} {A : Nat → Prop} {D : va_G} {J : Nat → ClassId} {F : Nat} {a_t : Nat} {c_t_refusal : Int} {c_t_high : Int} {c_t_wide : Int} {a_t_now : Nat} {a_t_trial : Nat} {a_t_diary : Nat} {c_t_acts : Int} {c_t_next : Int} {a_t_kept : Nat} {a_t_isKept : Nat} {a_t_script : Nat} {c_t_scriptSize : Int} {c_t_spot : Int} {a_t_read : Nat} {c_t_readHigh : Int} {c_t_readWide : Int} {a_t_wanted : Nat} {a_t_level : Nat} {a_t_chosen : Nat} {a_t_best : Nat} {f_t_script : Nat → Int} {res : Int × Int × Int × Int × (Nat → Int)} {k : Int → (Nat → Int) → Option (Int × Int × Int × Int × (Nat → Int))} (hk : ∀ (v4' : Int) (v5' : (Nat → Int)), k v4' v5' = some res → Z p l e ({ frames := 4, cells := 0, slots := 0, locals := 93 } : Room) s m args below meth c (MQ below (zQ D J A (fun rv w9 => rv = some (.int (zi res.1)) ∧ w9 = [(a_t, .inr (8, [.int (zi c_t_refusal), .int (zi c_t_high), .int (zi c_t_wide), .ref a_t_now, .ref a_t_trial, .ref a_t_diary, .int (zi c_t_acts), .int (zi c_t_next), .ref a_t_kept, .ref a_t_isKept, .ref a_t_script, .int (zi c_t_scriptSize), .int (zi res.2.1), .ref a_t_read, .int (zi res.2.2.1), .int (zi res.2.2.2.1), .ref a_t_wanted, .ref a_t_level, .ref a_t_chosen, .ref a_t_best])), (a_t_script, zI J 120 f_t_script), (a_t_read, zI J 243 res.2.2.2.2)])) args s 0 0 A) cX9_readText 2 wsX9_readText RX9 D J A (some .int) (yX9_readText.name, []) 0 0 [(a_t, .inr (8, [.int (zi c_t_refusal), .int (zi c_t_high), .int (zi c_t_wide), .ref a_t_now, .ref a_t_trial, .ref a_t_diary, .int (zi c_t_acts), .int (zi c_t_next), .ref a_t_kept, .ref a_t_isKept, .ref a_t_script, .int (zi c_t_scriptSize), .int (zi c_t_spot), .ref a_t_read, .int (zi c_t_readHigh), .int (zi c_t_readWide), .ref a_t_wanted, .ref a_t_level, .ref a_t_chosen, .ref a_t_best])), (a_t_script, zI J 120 f_t_script), (a_t_read, zI J 243 v5')] [(0, .ref a_t)] 22 []) : ∀ (N : Nat) (v4 : Int) (v5 : (Nat → Int)), sh_X9_readText_L2 F k N v4 v5 = some res → Z p l e ({ frames := 4, cells := 0, slots := 0, locals := 93 } : Room) s m args below meth c (MQ below (zQ D J A (fun rv w9 => rv = some (.int (zi res.1)) ∧ w9 = [(a_t, .inr (8, [.int (zi c_t_refusal), .int (zi c_t_high), .int (zi c_t_wide), .ref a_t_now, .ref a_t_trial, .ref a_t_diary, .int (zi c_t_acts), .int (zi c_t_next), .ref a_t_kept, .ref a_t_isKept, .ref a_t_script, .int (zi c_t_scriptSize), .int (zi res.2.1), .ref a_t_read, .int (zi res.2.2.1), .int (zi res.2.2.2.1), .ref a_t_wanted, .ref a_t_level, .ref a_t_chosen, .ref a_t_best])), (a_t_script, zI J 120 f_t_script), (a_t_read, zI J 243 res.2.2.2.2)])) args s 0 0 A) cX9_readText 2 wsX9_readText RX9 D J A (some .int) (yX9_readText.name, []) 0 0 [(a_t, .inr (8, [.int (zi c_t_refusal), .int (zi c_t_high), .int (zi c_t_wide), .ref a_t_now, .ref a_t_trial, .ref a_t_diary, .int (zi c_t_acts), .int (zi c_t_next), .ref a_t_kept, .ref a_t_isKept, .ref a_t_script, .int (zi c_t_scriptSize), .int (zi c_t_spot), .ref a_t_read, .int (zi c_t_readHigh), .int (zi c_t_readWide), .ref a_t_wanted, .ref a_t_level, .ref a_t_chosen, .ref a_t_best])), (a_t_script, zI J 120 f_t_script), (a_t_read, zI J 243 v5)] [(0, .ref a_t), (1, .int (zi v4))] 2 [] := by
  intro N
  induction N with
  | zero =>
    intro v4 v5 hsh
    exact absurd hsh (by simp [sh_X9_readText_L2])
  | succ N ih =>
    intro v4 v5 hsh
    rw [sh_X9_readText_L2] at hsh
    refine z_iload_n (pc' := 3) 1 dX9_readText_2 rfl rfl rfl ?_
    refine z_sipush (pc' := 6) dX9_readText_3 (by decide) rfl ?_
    have g6 := zkr_p hsh
    replace hsh := zkr_k hsh
    refine z_icmp_ge (pc' := 9) (tgt := 22) dX9_readText_6 (by decide) g6 (by decide) rfl (fun q => ?_) (fun q => ?_)
    · replace hsh := zif_f q hsh
      refine z_perm [(a_t, .inr (8, [.int (zi c_t_refusal), .int (zi c_t_high), .int (zi c_t_wide), .ref a_t_now, .ref a_t_trial, .ref a_t_diary, .int (zi c_t_acts), .int (zi c_t_next), .ref a_t_kept, .ref a_t_isKept, .ref a_t_script, .int (zi c_t_scriptSize), .int (zi c_t_spot), .ref a_t_read, .int (zi c_t_readHigh), .int (zi c_t_readWide), .ref a_t_wanted, .ref a_t_level, .ref a_t_chosen, .ref a_t_best])), (a_t_script, zI J 120 f_t_script), (a_t_read, zI J 243 v5)] [(0, .ref a_t)] [0, 1, 2] [0] rfl rfl rfl ?_
      exact hk _ _ hsh
    · replace hsh := zif_t q hsh
      refine z_aload_n (pc' := 10) 0 dX9_readText_9 rfl rfl rfl ?_
      refine z_getfield (pc' := 13) (C := RX9) (T := TX9) (N := 20) 0 13 dX9_readText_10 iX9_readText_X9 rfl rfl (by decide) mX9_readText_f36 rfl rfl ?_
      refine z_iload_n (pc' := 14) 1 dX9_readText_13 rfl rfl rfl ?_
      refine z_iconst (pc' := 15) dX9_readText_14 rfl ?_
      have g7 := zkx_p hsh
      replace hsh := zkx_k hsh
      refine z_iastore (pc' := 16) 2 [(a_t, .inr (8, [.int (zi c_t_refusal), .int (zi c_t_high), .int (zi c_t_wide), .ref a_t_now, .ref a_t_trial, .ref a_t_diary, .int (zi c_t_acts), .int (zi c_t_next), .ref a_t_kept, .ref a_t_isKept, .ref a_t_script, .int (zi c_t_scriptSize), .int (zi c_t_spot), .ref a_t_read, .int (zi c_t_readHigh), .int (zi c_t_readWide), .ref a_t_wanted, .ref a_t_level, .ref a_t_chosen, .ref a_t_best])), (a_t_script, zI J 120 f_t_script), (a_t_read, zI J 243 (va_up v5 (v4).toNat (0 : Int)))] dX9_readText_15 rfl (by decide) g7 rfl rfl ?_
      refine z_iinc (pc' := 19) [(1, .int (zi (v4 + (1 : Int)))), (0, .ref a_t)] 1 dX9_readText_16 rfl (by decide) rfl rfl ?_
      refine z_goto (tgt := 2) dX9_readText_19 (by decide) ?_
      refine z_perm [(a_t, .inr (8, [.int (zi c_t_refusal), .int (zi c_t_high), .int (zi c_t_wide), .ref a_t_now, .ref a_t_trial, .ref a_t_diary, .int (zi c_t_acts), .int (zi c_t_next), .ref a_t_kept, .ref a_t_isKept, .ref a_t_script, .int (zi c_t_scriptSize), .int (zi c_t_spot), .ref a_t_read, .int (zi c_t_readHigh), .int (zi c_t_readWide), .ref a_t_wanted, .ref a_t_level, .ref a_t_chosen, .ref a_t_best])), (a_t_script, zI J 120 f_t_script), (a_t_read, zI J 243 (va_up v5 (v4).toNat (0 : Int)))] [(0, .ref a_t), (1, .int (zi (v4 + (1 : Int))))] [0, 1, 2] [1, 0] rfl rfl rfl ?_
      exact ih _ _ hsh
set_option maxRecDepth 100000 in
set_option maxHeartbeats 4000000 in
theorem zl_X9_readText_L124 {p : Program} {l : Launch} {e : Env} {s : State} {m : MethodId} {args : Array Value} {below : List Frame} {meth : Method} {c : Code} {A : Nat → Prop} {D : va_G} {J : Nat → ClassId} {F : Nat} {c_t_scriptSize : Int} {f_t_script : Nat → Int} {q13 : Int × Int} {q16 : Int × Int} {a_t : Nat} {c_t_refusal : Int} {c_t_high : Int} {c_t_wide : Int} {a_t_now : Nat} {a_t_trial : Nat} {a_t_diary : Nat} {c_t_acts : Int} {c_t_next : Int} {a_t_kept : Nat} {a_t_isKept : Nat} {a_t_script : Nat} {a_t_read : Nat} {a_t_wanted : Nat} {a_t_level : Nat} {a_t_chosen : Nat} {a_t_best : Nat} {res : Int × Int × Int × Int × (Nat → Int)} {k : Int → Int → (Nat → Int) → Option (Int × Int × Int × Int × (Nat → Int))} (hk : ∀ (v26' : Int) (v27' : Int) (v28' : (Nat → Int)), k v26' v27' v28' = some res → Z p l e ({ frames := 4, cells := 0, slots := 0, locals := 93 } : Room) s m args below meth c (MQ below (zQ D J A (fun rv w9 => rv = some (.int (zi res.1)) ∧ w9 = [(a_t, .inr (8, [.int (zi c_t_refusal), .int (zi c_t_high), .int (zi c_t_wide), .ref a_t_now, .ref a_t_trial, .ref a_t_diary, .int (zi c_t_acts), .int (zi c_t_next), .ref a_t_kept, .ref a_t_isKept, .ref a_t_script, .int (zi c_t_scriptSize), .int (zi res.2.1), .ref a_t_read, .int (zi res.2.2.1), .int (zi res.2.2.2.1), .ref a_t_wanted, .ref a_t_level, .ref a_t_chosen, .ref a_t_best])), (a_t_script, zI J 120 f_t_script), (a_t_read, zI J 243 res.2.2.2.2)])) args s 0 0 A) cX9_readText 2 wsX9_readText RX9 D J A (some .int) (yX9_readText.name, []) 0 0 [(a_t, .inr (8, [.int (zi c_t_refusal), .int (zi c_t_high), .int (zi c_t_wide), .ref a_t_now, .ref a_t_trial, .ref a_t_diary, .int (zi c_t_acts), .int (zi c_t_next), .ref a_t_kept, .ref a_t_isKept, .ref a_t_script, .int (zi c_t_scriptSize), .int (zi v27'), .ref a_t_read, .int (zi q13.1), .int (zi q16.1), .ref a_t_wanted, .ref a_t_level, .ref a_t_chosen, .ref a_t_best])), (a_t_script, zI J 120 f_t_script), (a_t_read, zI J 243 v28')] [(0, .ref a_t)] 156 []) : ∀ (N : Nat) (v26 : Int) (v27 : Int) (v28 : (Nat → Int)), sh_X9_readText_L124 F c_t_scriptSize f_t_script q13 q16 k N v26 v27 v28 = some res → Z p l e ({ frames := 4, cells := 0, slots := 0, locals := 93 } : Room) s m args below meth c (MQ below (zQ D J A (fun rv w9 => rv = some (.int (zi res.1)) ∧ w9 = [(a_t, .inr (8, [.int (zi c_t_refusal), .int (zi c_t_high), .int (zi c_t_wide), .ref a_t_now, .ref a_t_trial, .ref a_t_diary, .int (zi c_t_acts), .int (zi c_t_next), .ref a_t_kept, .ref a_t_isKept, .ref a_t_script, .int (zi c_t_scriptSize), .int (zi res.2.1), .ref a_t_read, .int (zi res.2.2.1), .int (zi res.2.2.2.1), .ref a_t_wanted, .ref a_t_level, .ref a_t_chosen, .ref a_t_best])), (a_t_script, zI J 120 f_t_script), (a_t_read, zI J 243 res.2.2.2.2)])) args s 0 0 A) cX9_readText 2 wsX9_readText RX9 D J A (some .int) (yX9_readText.name, []) 0 0 [(a_t, .inr (8, [.int (zi c_t_refusal), .int (zi c_t_high), .int (zi c_t_wide), .ref a_t_now, .ref a_t_trial, .ref a_t_diary, .int (zi c_t_acts), .int (zi c_t_next), .ref a_t_kept, .ref a_t_isKept, .ref a_t_script, .int (zi c_t_scriptSize), .int (zi v27), .ref a_t_read, .int (zi q13.1), .int (zi q16.1), .ref a_t_wanted, .ref a_t_level, .ref a_t_chosen, .ref a_t_best])), (a_t_script, zI J 120 f_t_script), (a_t_read, zI J 243 v28)] [(0, .ref a_t), (1, .int (zi v26))] 124 [] := by
  intro N
  induction N with
  | zero =>
    intro v26 v27 v28 hsh
    exact absurd hsh (by simp [sh_X9_readText_L124])
  | succ N ih =>
    intro v26 v27 v28 hsh
    rw [sh_X9_readText_L124] at hsh
    refine z_iload_n (pc' := 125) 1 dX9_readText_124 rfl rfl rfl ?_
    refine z_aload_n (pc' := 126) 0 dX9_readText_125 rfl rfl rfl ?_
    refine z_getfield (pc' := 129) (C := RX9) (T := TX9) (N := 20) 0 14 dX9_readText_126 iX9_readText_X9 rfl rfl (by decide) mX9_readText_f94 rfl rfl ?_
    refine z_aload_n (pc' := 130) 0 dX9_readText_129 rfl rfl rfl ?_
    refine z_getfield (pc' := 133) (C := RX9) (T := TX9) (N := 20) 0 15 dX9_readText_130 iX9_readText_X9 rfl rfl (by decide) mX9_readText_f97 rfl rfl ?_
    refine z_imul (pc' := 134) dX9_readText_133 rfl ?_
    have g29 := zkr_p hsh
    replace hsh := zkr_k hsh
    have g30 := zkr_p hsh
    replace hsh := zkr_k hsh
    refine z_icmp_ge (pc' := 137) (tgt := 156) dX9_readText_134 (by decide) g29 g30 rfl (fun q => ?_) (fun q => ?_)
    · replace hsh := zif_f q hsh
      refine z_perm [(a_t, .inr (8, [.int (zi c_t_refusal), .int (zi c_t_high), .int (zi c_t_wide), .ref a_t_now, .ref a_t_trial, .ref a_t_diary, .int (zi c_t_acts), .int (zi c_t_next), .ref a_t_kept, .ref a_t_isKept, .ref a_t_script, .int (zi c_t_scriptSize), .int (zi v27), .ref a_t_read, .int (zi q13.1), .int (zi q16.1), .ref a_t_wanted, .ref a_t_level, .ref a_t_chosen, .ref a_t_best])), (a_t_script, zI J 120 f_t_script), (a_t_read, zI J 243 v28)] [(0, .ref a_t)] [0, 1, 2] [0] rfl rfl rfl ?_
      exact hk _ _ _ hsh
    · replace hsh := zif_t q hsh
      refine z_aload_n (pc' := 138) 0 dX9_readText_137 rfl rfl rfl ?_
      refine z_iload_n (pc' := 139) 1 dX9_readText_138 rfl rfl rfl ?_
      obtain ⟨q31, h32, hsh⟩ := zbind hsh
      refine z_callV (pc' := 142) (C := RX9) (As := [.int (zi v26)]) (rest := []) (wr := []) 1 (zc_X9_readColumn l D J F (a_t := a_t) (a_t_now := a_t_now) (a_t_trial := a_t_trial) (a_t_diary := a_t_diary) (a_t_kept := a_t_kept) (a_t_isKept := a_t_isKept) (a_t_script := a_t_script) (a_t_read := a_t_read) (a_t_wanted := a_t_wanted) (a_t_level := a_t_level) (a_t_chosen := a_t_chosen) (a_t_best := a_t_best) (c_t_refusal := c_t_refusal) (c_t_high := c_t_high) (c_t_wide := c_t_wide) (c_t_acts := c_t_acts) (c_t_next := c_t_next) (c_t_scriptSize := c_t_scriptSize) (c_t_spot := v27) (c_t_readHigh := q13.1) (c_t_readWide := q16.1) (f_t_script := f_t_script) (f_t_read := v28) (p0 := v26)  q31 h32) dX9_readText_139 gX9_readText_X9_readColumn rfl rfl rfl (by decide +kernel) ⟨Nat.le_of_ble_eq_true rfl, Nat.le_of_ble_eq_true rfl⟩ ⟨Nat.le_of_ble_eq_true rfl, Nat.le_of_ble_eq_true rfl⟩ (z_spl_of [0, 1, 2] rfl rfl) rfl rfl rfl rfl (Nat.le_of_ble_eq_true rfl) rfl (fun rv w9 hq => ?_)
      obtain ⟨rfl, rfl⟩ := hq
      refine z_ws [(a_t, .inr (8, [.int (zi c_t_refusal), .int (zi c_t_high), .int (zi c_t_wide), .ref a_t_now, .ref a_t_trial, .ref a_t_diary, .int (zi c_t_acts), .int (zi c_t_next), .ref a_t_kept, .ref a_t_isKept, .ref a_t_script, .int (zi c_t_scriptSize), .int (zi q31.2.1), .ref a_t_read, .int (zi q13.1), .int (zi q16.1), .ref a_t_wanted, .ref a_t_level, .ref a_t_chosen, .ref a_t_best])), (a_t_script, zI J 120 f_t_script), (a_t_read, zI J 243 q31.2.2)] rfl ?_
      have g33 := zkr_p hsh
      replace hsh := zkr_k hsh
      refine z_if_ne (pc' := 145) (tgt := 150) dX9_readText_142 (by decide) g33 rfl (fun q => ?_) (fun q => ?_)
      · replace hsh := zif_f q hsh
        refine z_iinc (pc' := 153) [(1, .int (zi (v26 + (1 : Int)))), (0, .ref a_t)] 1 dX9_readText_150 rfl (by decide) rfl rfl ?_
        refine z_goto (tgt := 124) dX9_readText_153 (by decide) ?_
        refine z_perm [(a_t, .inr (8, [.int (zi c_t_refusal), .int (zi c_t_high), .int (zi c_t_wide), .ref a_t_now, .ref a_t_trial, .ref a_t_diary, .int (zi c_t_acts), .int (zi c_t_next), .ref a_t_kept, .ref a_t_isKept, .ref a_t_script, .int (zi c_t_scriptSize), .int (zi q31.2.1), .ref a_t_read, .int (zi q13.1), .int (zi q16.1), .ref a_t_wanted, .ref a_t_level, .ref a_t_chosen, .ref a_t_best])), (a_t_script, zI J 120 f_t_script), (a_t_read, zI J 243 q31.2.2)] [(0, .ref a_t), (1, .int (zi (v26 + (1 : Int))))] [0, 1, 2] [1, 0] rfl rfl rfl ?_
        exact ih _ _ _ hsh
      · replace hsh := zif_t q hsh
        refine z_aload_n (pc' := 146) 0 dX9_readText_145 rfl rfl rfl ?_
        refine z_getfield (pc' := 149) (C := RX9) (T := TX9) (N := 20) 0 12 dX9_readText_146 iX9_readText_X9 rfl rfl (by decide) mX9_readText_f81 rfl rfl ?_
        cases hsh
        exact z_iret rfl dX9_readText_149 ⟨rfl, rfl⟩
set_option maxRecDepth 100000 in
set_option maxHeartbeats 4000000 in
theorem zl_X9_readText_L124_2 {p : Program} {l : Launch} {e : Env} {s : State} {m : MethodId} {args : Array Value} {below : List Frame} {meth : Method} {c : Code} {A : Nat → Prop} {D : va_G} {J : Nat → ClassId} {F : Nat} {c_t_scriptSize : Int} {f_t_script : Nat → Int} {q13 : Int × Int} {q16 : Int × Int} {a_t : Nat} {c_t_refusal : Int} {c_t_high : Int} {c_t_wide : Int} {a_t_now : Nat} {a_t_trial : Nat} {a_t_diary : Nat} {c_t_acts : Int} {c_t_next : Int} {a_t_kept : Nat} {a_t_isKept : Nat} {a_t_script : Nat} {a_t_read : Nat} {a_t_wanted : Nat} {a_t_level : Nat} {a_t_chosen : Nat} {a_t_best : Nat} {res : Int × Int × Int × Int × (Nat → Int)} {k : Int → Int → (Nat → Int) → Option (Int × Int × Int × Int × (Nat → Int))} (hk : ∀ (v44' : Int) (v45' : Int) (v46' : (Nat → Int)), k v44' v45' v46' = some res → Z p l e ({ frames := 4, cells := 0, slots := 0, locals := 93 } : Room) s m args below meth c (MQ below (zQ D J A (fun rv w9 => rv = some (.int (zi res.1)) ∧ w9 = [(a_t, .inr (8, [.int (zi c_t_refusal), .int (zi c_t_high), .int (zi c_t_wide), .ref a_t_now, .ref a_t_trial, .ref a_t_diary, .int (zi c_t_acts), .int (zi c_t_next), .ref a_t_kept, .ref a_t_isKept, .ref a_t_script, .int (zi c_t_scriptSize), .int (zi res.2.1), .ref a_t_read, .int (zi res.2.2.1), .int (zi res.2.2.2.1), .ref a_t_wanted, .ref a_t_level, .ref a_t_chosen, .ref a_t_best])), (a_t_script, zI J 120 f_t_script), (a_t_read, zI J 243 res.2.2.2.2)])) args s 0 0 A) cX9_readText 2 wsX9_readText RX9 D J A (some .int) (yX9_readText.name, []) 0 0 [(a_t, .inr (8, [.int (zi c_t_refusal), .int (zi c_t_high), .int (zi c_t_wide), .ref a_t_now, .ref a_t_trial, .ref a_t_diary, .int (zi c_t_acts), .int (zi c_t_next), .ref a_t_kept, .ref a_t_isKept, .ref a_t_script, .int (zi c_t_scriptSize), .int (zi v45'), .ref a_t_read, .int (zi q13.1), .int (zi q16.1), .ref a_t_wanted, .ref a_t_level, .ref a_t_chosen, .ref a_t_best])), (a_t_script, zI J 120 f_t_script), (a_t_read, zI J 243 v46')] [(0, .ref a_t)] 156 []) : ∀ (N : Nat) (v44 : Int) (v45 : Int) (v46 : (Nat → Int)), sh_X9_readText_L124_2 F c_t_scriptSize f_t_script q13 q16 k N v44 v45 v46 = some res → Z p l e ({ frames := 4, cells := 0, slots := 0, locals := 93 } : Room) s m args below meth c (MQ below (zQ D J A (fun rv w9 => rv = some (.int (zi res.1)) ∧ w9 = [(a_t, .inr (8, [.int (zi c_t_refusal), .int (zi c_t_high), .int (zi c_t_wide), .ref a_t_now, .ref a_t_trial, .ref a_t_diary, .int (zi c_t_acts), .int (zi c_t_next), .ref a_t_kept, .ref a_t_isKept, .ref a_t_script, .int (zi c_t_scriptSize), .int (zi res.2.1), .ref a_t_read, .int (zi res.2.2.1), .int (zi res.2.2.2.1), .ref a_t_wanted, .ref a_t_level, .ref a_t_chosen, .ref a_t_best])), (a_t_script, zI J 120 f_t_script), (a_t_read, zI J 243 res.2.2.2.2)])) args s 0 0 A) cX9_readText 2 wsX9_readText RX9 D J A (some .int) (yX9_readText.name, []) 0 0 [(a_t, .inr (8, [.int (zi c_t_refusal), .int (zi c_t_high), .int (zi c_t_wide), .ref a_t_now, .ref a_t_trial, .ref a_t_diary, .int (zi c_t_acts), .int (zi c_t_next), .ref a_t_kept, .ref a_t_isKept, .ref a_t_script, .int (zi c_t_scriptSize), .int (zi v45), .ref a_t_read, .int (zi q13.1), .int (zi q16.1), .ref a_t_wanted, .ref a_t_level, .ref a_t_chosen, .ref a_t_best])), (a_t_script, zI J 120 f_t_script), (a_t_read, zI J 243 v46)] [(0, .ref a_t), (1, .int (zi v44))] 124 [] := by
  intro N
  induction N with
  | zero =>
    intro v44 v45 v46 hsh
    exact absurd hsh (by simp [sh_X9_readText_L124_2])
  | succ N ih =>
    intro v44 v45 v46 hsh
    rw [sh_X9_readText_L124_2] at hsh
    refine z_iload_n (pc' := 125) 1 dX9_readText_124 rfl rfl rfl ?_
    refine z_aload_n (pc' := 126) 0 dX9_readText_125 rfl rfl rfl ?_
    refine z_getfield (pc' := 129) (C := RX9) (T := TX9) (N := 20) 0 14 dX9_readText_126 iX9_readText_X9 rfl rfl (by decide) mX9_readText_f94 rfl rfl ?_
    refine z_aload_n (pc' := 130) 0 dX9_readText_129 rfl rfl rfl ?_
    refine z_getfield (pc' := 133) (C := RX9) (T := TX9) (N := 20) 0 15 dX9_readText_130 iX9_readText_X9 rfl rfl (by decide) mX9_readText_f97 rfl rfl ?_
    refine z_imul (pc' := 134) dX9_readText_133 rfl ?_
    have g47 := zkr_p hsh
    replace hsh := zkr_k hsh
    have g48 := zkr_p hsh
    replace hsh := zkr_k hsh
    refine z_icmp_ge (pc' := 137) (tgt := 156) dX9_readText_134 (by decide) g47 g48 rfl (fun q => ?_) (fun q => ?_)
    · replace hsh := zif_f q hsh
      refine z_perm [(a_t, .inr (8, [.int (zi c_t_refusal), .int (zi c_t_high), .int (zi c_t_wide), .ref a_t_now, .ref a_t_trial, .ref a_t_diary, .int (zi c_t_acts), .int (zi c_t_next), .ref a_t_kept, .ref a_t_isKept, .ref a_t_script, .int (zi c_t_scriptSize), .int (zi v45), .ref a_t_read, .int (zi q13.1), .int (zi q16.1), .ref a_t_wanted, .ref a_t_level, .ref a_t_chosen, .ref a_t_best])), (a_t_script, zI J 120 f_t_script), (a_t_read, zI J 243 v46)] [(0, .ref a_t)] [0, 1, 2] [0] rfl rfl rfl ?_
      exact hk _ _ _ hsh
    · replace hsh := zif_t q hsh
      refine z_aload_n (pc' := 138) 0 dX9_readText_137 rfl rfl rfl ?_
      refine z_iload_n (pc' := 139) 1 dX9_readText_138 rfl rfl rfl ?_
      obtain ⟨q49, h50, hsh⟩ := zbind hsh
      refine z_callV (pc' := 142) (C := RX9) (As := [.int (zi v44)]) (rest := []) (wr := []) 1 (zc_X9_readColumn l D J F (a_t := a_t) (a_t_now := a_t_now) (a_t_trial := a_t_trial) (a_t_diary := a_t_diary) (a_t_kept := a_t_kept) (a_t_isKept := a_t_isKept) (a_t_script := a_t_script) (a_t_read := a_t_read) (a_t_wanted := a_t_wanted) (a_t_level := a_t_level) (a_t_chosen := a_t_chosen) (a_t_best := a_t_best) (c_t_refusal := c_t_refusal) (c_t_high := c_t_high) (c_t_wide := c_t_wide) (c_t_acts := c_t_acts) (c_t_next := c_t_next) (c_t_scriptSize := c_t_scriptSize) (c_t_spot := v45) (c_t_readHigh := q13.1) (c_t_readWide := q16.1) (f_t_script := f_t_script) (f_t_read := v46) (p0 := v44)  q49 h50) dX9_readText_139 gX9_readText_X9_readColumn rfl rfl rfl (by decide +kernel) ⟨Nat.le_of_ble_eq_true rfl, Nat.le_of_ble_eq_true rfl⟩ ⟨Nat.le_of_ble_eq_true rfl, Nat.le_of_ble_eq_true rfl⟩ (z_spl_of [0, 1, 2] rfl rfl) rfl rfl rfl rfl (Nat.le_of_ble_eq_true rfl) rfl (fun rv w9 hq => ?_)
      obtain ⟨rfl, rfl⟩ := hq
      refine z_ws [(a_t, .inr (8, [.int (zi c_t_refusal), .int (zi c_t_high), .int (zi c_t_wide), .ref a_t_now, .ref a_t_trial, .ref a_t_diary, .int (zi c_t_acts), .int (zi c_t_next), .ref a_t_kept, .ref a_t_isKept, .ref a_t_script, .int (zi c_t_scriptSize), .int (zi q49.2.1), .ref a_t_read, .int (zi q13.1), .int (zi q16.1), .ref a_t_wanted, .ref a_t_level, .ref a_t_chosen, .ref a_t_best])), (a_t_script, zI J 120 f_t_script), (a_t_read, zI J 243 q49.2.2)] rfl ?_
      have g51 := zkr_p hsh
      replace hsh := zkr_k hsh
      refine z_if_ne (pc' := 145) (tgt := 150) dX9_readText_142 (by decide) g51 rfl (fun q => ?_) (fun q => ?_)
      · replace hsh := zif_f q hsh
        refine z_iinc (pc' := 153) [(1, .int (zi (v44 + (1 : Int)))), (0, .ref a_t)] 1 dX9_readText_150 rfl (by decide) rfl rfl ?_
        refine z_goto (tgt := 124) dX9_readText_153 (by decide) ?_
        refine z_perm [(a_t, .inr (8, [.int (zi c_t_refusal), .int (zi c_t_high), .int (zi c_t_wide), .ref a_t_now, .ref a_t_trial, .ref a_t_diary, .int (zi c_t_acts), .int (zi c_t_next), .ref a_t_kept, .ref a_t_isKept, .ref a_t_script, .int (zi c_t_scriptSize), .int (zi q49.2.1), .ref a_t_read, .int (zi q13.1), .int (zi q16.1), .ref a_t_wanted, .ref a_t_level, .ref a_t_chosen, .ref a_t_best])), (a_t_script, zI J 120 f_t_script), (a_t_read, zI J 243 q49.2.2)] [(0, .ref a_t), (1, .int (zi (v44 + (1 : Int))))] [0, 1, 2] [1, 0] rfl rfl rfl ?_
        exact ih _ _ _ hsh
      · replace hsh := zif_t q hsh
        refine z_aload_n (pc' := 146) 0 dX9_readText_145 rfl rfl rfl ?_
        refine z_getfield (pc' := 149) (C := RX9) (T := TX9) (N := 20) 0 12 dX9_readText_146 iX9_readText_X9 rfl rfl (by decide) mX9_readText_f81 rfl rfl ?_
        cases hsh
        exact z_iret rfl dX9_readText_149 ⟨rfl, rfl⟩
set_option maxRecDepth 100000 in
set_option maxHeartbeats 4000000 in
theorem zl_X9_readText_L124_3 {p : Program} {l : Launch} {e : Env} {s : State} {m : MethodId} {args : Array Value} {below : List Frame} {meth : Method} {c : Code} {A : Nat → Prop} {D : va_G} {J : Nat → ClassId} {F : Nat} {c_t_scriptSize : Int} {f_t_script : Nat → Int} {q13 : Int × Int} {a_t : Nat} {c_t_refusal : Int} {c_t_high : Int} {c_t_wide : Int} {a_t_now : Nat} {a_t_trial : Nat} {a_t_diary : Nat} {c_t_acts : Int} {c_t_next : Int} {a_t_kept : Nat} {a_t_isKept : Nat} {a_t_script : Nat} {a_t_read : Nat} {a_t_wanted : Nat} {a_t_level : Nat} {a_t_chosen : Nat} {a_t_best : Nat} {res : Int × Int × Int × Int × (Nat → Int)} {k : Int → Int → (Nat → Int) → Option (Int × Int × Int × Int × (Nat → Int))} (hk : ∀ (v64' : Int) (v65' : Int) (v66' : (Nat → Int)), k v64' v65' v66' = some res → Z p l e ({ frames := 4, cells := 0, slots := 0, locals := 93 } : Room) s m args below meth c (MQ below (zQ D J A (fun rv w9 => rv = some (.int (zi res.1)) ∧ w9 = [(a_t, .inr (8, [.int (zi c_t_refusal), .int (zi c_t_high), .int (zi c_t_wide), .ref a_t_now, .ref a_t_trial, .ref a_t_diary, .int (zi c_t_acts), .int (zi c_t_next), .ref a_t_kept, .ref a_t_isKept, .ref a_t_script, .int (zi c_t_scriptSize), .int (zi res.2.1), .ref a_t_read, .int (zi res.2.2.1), .int (zi res.2.2.2.1), .ref a_t_wanted, .ref a_t_level, .ref a_t_chosen, .ref a_t_best])), (a_t_script, zI J 120 f_t_script), (a_t_read, zI J 243 res.2.2.2.2)])) args s 0 0 A) cX9_readText 2 wsX9_readText RX9 D J A (some .int) (yX9_readText.name, []) 0 0 [(a_t, .inr (8, [.int (zi c_t_refusal), .int (zi c_t_high), .int (zi c_t_wide), .ref a_t_now, .ref a_t_trial, .ref a_t_diary, .int (zi c_t_acts), .int (zi c_t_next), .ref a_t_kept, .ref a_t_isKept, .ref a_t_script, .int (zi c_t_scriptSize), .int (zi v65'), .ref a_t_read, .int (zi q13.1), .int (zi (-9 : Int)), .ref a_t_wanted, .ref a_t_level, .ref a_t_chosen, .ref a_t_best])), (a_t_script, zI J 120 f_t_script), (a_t_read, zI J 243 v66')] [(0, .ref a_t)] 156 []) : ∀ (N : Nat) (v64 : Int) (v65 : Int) (v66 : (Nat → Int)), sh_X9_readText_L124_3 F c_t_scriptSize f_t_script q13 k N v64 v65 v66 = some res → Z p l e ({ frames := 4, cells := 0, slots := 0, locals := 93 } : Room) s m args below meth c (MQ below (zQ D J A (fun rv w9 => rv = some (.int (zi res.1)) ∧ w9 = [(a_t, .inr (8, [.int (zi c_t_refusal), .int (zi c_t_high), .int (zi c_t_wide), .ref a_t_now, .ref a_t_trial, .ref a_t_diary, .int (zi c_t_acts), .int (zi c_t_next), .ref a_t_kept, .ref a_t_isKept, .ref a_t_script, .int (zi c_t_scriptSize), .int (zi res.2.1), .ref a_t_read, .int (zi res.2.2.1), .int (zi res.2.2.2.1), .ref a_t_wanted, .ref a_t_level, .ref a_t_chosen, .ref a_t_best])), (a_t_script, zI J 120 f_t_script), (a_t_read, zI J 243 res.2.2.2.2)])) args s 0 0 A) cX9_readText 2 wsX9_readText RX9 D J A (some .int) (yX9_readText.name, []) 0 0 [(a_t, .inr (8, [.int (zi c_t_refusal), .int (zi c_t_high), .int (zi c_t_wide), .ref a_t_now, .ref a_t_trial, .ref a_t_diary, .int (zi c_t_acts), .int (zi c_t_next), .ref a_t_kept, .ref a_t_isKept, .ref a_t_script, .int (zi c_t_scriptSize), .int (zi v65), .ref a_t_read, .int (zi q13.1), .int (zi (-9 : Int)), .ref a_t_wanted, .ref a_t_level, .ref a_t_chosen, .ref a_t_best])), (a_t_script, zI J 120 f_t_script), (a_t_read, zI J 243 v66)] [(0, .ref a_t), (1, .int (zi v64))] 124 [] := by
  intro N
  induction N with
  | zero =>
    intro v64 v65 v66 hsh
    exact absurd hsh (by simp [sh_X9_readText_L124_3])
  | succ N ih =>
    intro v64 v65 v66 hsh
    rw [sh_X9_readText_L124_3] at hsh
    refine z_iload_n (pc' := 125) 1 dX9_readText_124 rfl rfl rfl ?_
    refine z_aload_n (pc' := 126) 0 dX9_readText_125 rfl rfl rfl ?_
    refine z_getfield (pc' := 129) (C := RX9) (T := TX9) (N := 20) 0 14 dX9_readText_126 iX9_readText_X9 rfl rfl (by decide) mX9_readText_f94 rfl rfl ?_
    refine z_aload_n (pc' := 130) 0 dX9_readText_129 rfl rfl rfl ?_
    refine z_getfield (pc' := 133) (C := RX9) (T := TX9) (N := 20) 0 15 dX9_readText_130 iX9_readText_X9 rfl rfl (by decide) mX9_readText_f97 rfl rfl ?_
    refine z_imul (pc' := 134) dX9_readText_133 rfl ?_
    have g67 := zkr_p hsh
    replace hsh := zkr_k hsh
    have g68 := zkr_p hsh
    replace hsh := zkr_k hsh
    refine z_icmp_ge (pc' := 137) (tgt := 156) dX9_readText_134 (by decide) g67 g68 rfl (fun q => ?_) (fun q => ?_)
    · replace hsh := zif_f q hsh
      refine z_perm [(a_t, .inr (8, [.int (zi c_t_refusal), .int (zi c_t_high), .int (zi c_t_wide), .ref a_t_now, .ref a_t_trial, .ref a_t_diary, .int (zi c_t_acts), .int (zi c_t_next), .ref a_t_kept, .ref a_t_isKept, .ref a_t_script, .int (zi c_t_scriptSize), .int (zi v65), .ref a_t_read, .int (zi q13.1), .int (zi (-9 : Int)), .ref a_t_wanted, .ref a_t_level, .ref a_t_chosen, .ref a_t_best])), (a_t_script, zI J 120 f_t_script), (a_t_read, zI J 243 v66)] [(0, .ref a_t)] [0, 1, 2] [0] rfl rfl rfl ?_
      exact hk _ _ _ hsh
    · replace hsh := zif_t q hsh
      refine z_aload_n (pc' := 138) 0 dX9_readText_137 rfl rfl rfl ?_
      refine z_iload_n (pc' := 139) 1 dX9_readText_138 rfl rfl rfl ?_
      obtain ⟨q69, h70, hsh⟩ := zbind hsh
      refine z_callV (pc' := 142) (C := RX9) (As := [.int (zi v64)]) (rest := []) (wr := []) 1 (zc_X9_readColumn l D J F (a_t := a_t) (a_t_now := a_t_now) (a_t_trial := a_t_trial) (a_t_diary := a_t_diary) (a_t_kept := a_t_kept) (a_t_isKept := a_t_isKept) (a_t_script := a_t_script) (a_t_read := a_t_read) (a_t_wanted := a_t_wanted) (a_t_level := a_t_level) (a_t_chosen := a_t_chosen) (a_t_best := a_t_best) (c_t_refusal := c_t_refusal) (c_t_high := c_t_high) (c_t_wide := c_t_wide) (c_t_acts := c_t_acts) (c_t_next := c_t_next) (c_t_scriptSize := c_t_scriptSize) (c_t_spot := v65) (c_t_readHigh := q13.1) (c_t_readWide := (-9 : Int)) (f_t_script := f_t_script) (f_t_read := v66) (p0 := v64)  q69 h70) dX9_readText_139 gX9_readText_X9_readColumn rfl rfl rfl (by decide +kernel) ⟨Nat.le_of_ble_eq_true rfl, Nat.le_of_ble_eq_true rfl⟩ ⟨Nat.le_of_ble_eq_true rfl, Nat.le_of_ble_eq_true rfl⟩ (z_spl_of [0, 1, 2] rfl rfl) rfl rfl rfl rfl (Nat.le_of_ble_eq_true rfl) rfl (fun rv w9 hq => ?_)
      obtain ⟨rfl, rfl⟩ := hq
      refine z_ws [(a_t, .inr (8, [.int (zi c_t_refusal), .int (zi c_t_high), .int (zi c_t_wide), .ref a_t_now, .ref a_t_trial, .ref a_t_diary, .int (zi c_t_acts), .int (zi c_t_next), .ref a_t_kept, .ref a_t_isKept, .ref a_t_script, .int (zi c_t_scriptSize), .int (zi q69.2.1), .ref a_t_read, .int (zi q13.1), .int (zi (-9 : Int)), .ref a_t_wanted, .ref a_t_level, .ref a_t_chosen, .ref a_t_best])), (a_t_script, zI J 120 f_t_script), (a_t_read, zI J 243 q69.2.2)] rfl ?_
      have g71 := zkr_p hsh
      replace hsh := zkr_k hsh
      refine z_if_ne (pc' := 145) (tgt := 150) dX9_readText_142 (by decide) g71 rfl (fun q => ?_) (fun q => ?_)
      · replace hsh := zif_f q hsh
        refine z_iinc (pc' := 153) [(1, .int (zi (v64 + (1 : Int)))), (0, .ref a_t)] 1 dX9_readText_150 rfl (by decide) rfl rfl ?_
        refine z_goto (tgt := 124) dX9_readText_153 (by decide) ?_
        refine z_perm [(a_t, .inr (8, [.int (zi c_t_refusal), .int (zi c_t_high), .int (zi c_t_wide), .ref a_t_now, .ref a_t_trial, .ref a_t_diary, .int (zi c_t_acts), .int (zi c_t_next), .ref a_t_kept, .ref a_t_isKept, .ref a_t_script, .int (zi c_t_scriptSize), .int (zi q69.2.1), .ref a_t_read, .int (zi q13.1), .int (zi (-9 : Int)), .ref a_t_wanted, .ref a_t_level, .ref a_t_chosen, .ref a_t_best])), (a_t_script, zI J 120 f_t_script), (a_t_read, zI J 243 q69.2.2)] [(0, .ref a_t), (1, .int (zi (v64 + (1 : Int))))] [0, 1, 2] [1, 0] rfl rfl rfl ?_
        exact ih _ _ _ hsh
      · replace hsh := zif_t q hsh
        refine z_aload_n (pc' := 146) 0 dX9_readText_145 rfl rfl rfl ?_
        refine z_getfield (pc' := 149) (C := RX9) (T := TX9) (N := 20) 0 12 dX9_readText_146 iX9_readText_X9 rfl rfl (by decide) mX9_readText_f81 rfl rfl ?_
        cases hsh
        exact z_iret rfl dX9_readText_149 ⟨rfl, rfl⟩
set_option maxRecDepth 100000 in
set_option maxHeartbeats 4000000 in
theorem zl_X9_readText_L124_4 {p : Program} {l : Launch} {e : Env} {s : State} {m : MethodId} {args : Array Value} {below : List Frame} {meth : Method} {c : Code} {A : Nat → Prop} {D : va_G} {J : Nat → ClassId} {F : Nat} {c_t_scriptSize : Int} {f_t_script : Nat → Int} {q13 : Int × Int} {a_t : Nat} {c_t_refusal : Int} {c_t_high : Int} {c_t_wide : Int} {a_t_now : Nat} {a_t_trial : Nat} {a_t_diary : Nat} {c_t_acts : Int} {c_t_next : Int} {a_t_kept : Nat} {a_t_isKept : Nat} {a_t_script : Nat} {a_t_read : Nat} {a_t_wanted : Nat} {a_t_level : Nat} {a_t_chosen : Nat} {a_t_best : Nat} {res : Int × Int × Int × Int × (Nat → Int)} {k : Int → Int → (Nat → Int) → Option (Int × Int × Int × Int × (Nat → Int))} (hk : ∀ (v82' : Int) (v83' : Int) (v84' : (Nat → Int)), k v82' v83' v84' = some res → Z p l e ({ frames := 4, cells := 0, slots := 0, locals := 93 } : Room) s m args below meth c (MQ below (zQ D J A (fun rv w9 => rv = some (.int (zi res.1)) ∧ w9 = [(a_t, .inr (8, [.int (zi c_t_refusal), .int (zi c_t_high), .int (zi c_t_wide), .ref a_t_now, .ref a_t_trial, .ref a_t_diary, .int (zi c_t_acts), .int (zi c_t_next), .ref a_t_kept, .ref a_t_isKept, .ref a_t_script, .int (zi c_t_scriptSize), .int (zi res.2.1), .ref a_t_read, .int (zi res.2.2.1), .int (zi res.2.2.2.1), .ref a_t_wanted, .ref a_t_level, .ref a_t_chosen, .ref a_t_best])), (a_t_script, zI J 120 f_t_script), (a_t_read, zI J 243 res.2.2.2.2)])) args s 0 0 A) cX9_readText 2 wsX9_readText RX9 D J A (some .int) (yX9_readText.name, []) 0 0 [(a_t, .inr (8, [.int (zi c_t_refusal), .int (zi c_t_high), .int (zi c_t_wide), .ref a_t_now, .ref a_t_trial, .ref a_t_diary, .int (zi c_t_acts), .int (zi c_t_next), .ref a_t_kept, .ref a_t_isKept, .ref a_t_script, .int (zi c_t_scriptSize), .int (zi v83'), .ref a_t_read, .int (zi q13.1), .int (zi (-9 : Int)), .ref a_t_wanted, .ref a_t_level, .ref a_t_chosen, .ref a_t_best])), (a_t_script, zI J 120 f_t_script), (a_t_read, zI J 243 v84')] [(0, .ref a_t)] 156 []) : ∀ (N : Nat) (v82 : Int) (v83 : Int) (v84 : (Nat → Int)), sh_X9_readText_L124_4 F c_t_scriptSize f_t_script q13 k N v82 v83 v84 = some res → Z p l e ({ frames := 4, cells := 0, slots := 0, locals := 93 } : Room) s m args below meth c (MQ below (zQ D J A (fun rv w9 => rv = some (.int (zi res.1)) ∧ w9 = [(a_t, .inr (8, [.int (zi c_t_refusal), .int (zi c_t_high), .int (zi c_t_wide), .ref a_t_now, .ref a_t_trial, .ref a_t_diary, .int (zi c_t_acts), .int (zi c_t_next), .ref a_t_kept, .ref a_t_isKept, .ref a_t_script, .int (zi c_t_scriptSize), .int (zi res.2.1), .ref a_t_read, .int (zi res.2.2.1), .int (zi res.2.2.2.1), .ref a_t_wanted, .ref a_t_level, .ref a_t_chosen, .ref a_t_best])), (a_t_script, zI J 120 f_t_script), (a_t_read, zI J 243 res.2.2.2.2)])) args s 0 0 A) cX9_readText 2 wsX9_readText RX9 D J A (some .int) (yX9_readText.name, []) 0 0 [(a_t, .inr (8, [.int (zi c_t_refusal), .int (zi c_t_high), .int (zi c_t_wide), .ref a_t_now, .ref a_t_trial, .ref a_t_diary, .int (zi c_t_acts), .int (zi c_t_next), .ref a_t_kept, .ref a_t_isKept, .ref a_t_script, .int (zi c_t_scriptSize), .int (zi v83), .ref a_t_read, .int (zi q13.1), .int (zi (-9 : Int)), .ref a_t_wanted, .ref a_t_level, .ref a_t_chosen, .ref a_t_best])), (a_t_script, zI J 120 f_t_script), (a_t_read, zI J 243 v84)] [(0, .ref a_t), (1, .int (zi v82))] 124 [] := by
  intro N
  induction N with
  | zero =>
    intro v82 v83 v84 hsh
    exact absurd hsh (by simp [sh_X9_readText_L124_4])
  | succ N ih =>
    intro v82 v83 v84 hsh
    rw [sh_X9_readText_L124_4] at hsh
    refine z_iload_n (pc' := 125) 1 dX9_readText_124 rfl rfl rfl ?_
    refine z_aload_n (pc' := 126) 0 dX9_readText_125 rfl rfl rfl ?_
    refine z_getfield (pc' := 129) (C := RX9) (T := TX9) (N := 20) 0 14 dX9_readText_126 iX9_readText_X9 rfl rfl (by decide) mX9_readText_f94 rfl rfl ?_
    refine z_aload_n (pc' := 130) 0 dX9_readText_129 rfl rfl rfl ?_
    refine z_getfield (pc' := 133) (C := RX9) (T := TX9) (N := 20) 0 15 dX9_readText_130 iX9_readText_X9 rfl rfl (by decide) mX9_readText_f97 rfl rfl ?_
    refine z_imul (pc' := 134) dX9_readText_133 rfl ?_
    have g85 := zkr_p hsh
    replace hsh := zkr_k hsh
    have g86 := zkr_p hsh
    replace hsh := zkr_k hsh
    refine z_icmp_ge (pc' := 137) (tgt := 156) dX9_readText_134 (by decide) g85 g86 rfl (fun q => ?_) (fun q => ?_)
    · replace hsh := zif_f q hsh
      refine z_perm [(a_t, .inr (8, [.int (zi c_t_refusal), .int (zi c_t_high), .int (zi c_t_wide), .ref a_t_now, .ref a_t_trial, .ref a_t_diary, .int (zi c_t_acts), .int (zi c_t_next), .ref a_t_kept, .ref a_t_isKept, .ref a_t_script, .int (zi c_t_scriptSize), .int (zi v83), .ref a_t_read, .int (zi q13.1), .int (zi (-9 : Int)), .ref a_t_wanted, .ref a_t_level, .ref a_t_chosen, .ref a_t_best])), (a_t_script, zI J 120 f_t_script), (a_t_read, zI J 243 v84)] [(0, .ref a_t)] [0, 1, 2] [0] rfl rfl rfl ?_
      exact hk _ _ _ hsh
    · replace hsh := zif_t q hsh
      refine z_aload_n (pc' := 138) 0 dX9_readText_137 rfl rfl rfl ?_
      refine z_iload_n (pc' := 139) 1 dX9_readText_138 rfl rfl rfl ?_
      obtain ⟨q87, h88, hsh⟩ := zbind hsh
      refine z_callV (pc' := 142) (C := RX9) (As := [.int (zi v82)]) (rest := []) (wr := []) 1 (zc_X9_readColumn l D J F (a_t := a_t) (a_t_now := a_t_now) (a_t_trial := a_t_trial) (a_t_diary := a_t_diary) (a_t_kept := a_t_kept) (a_t_isKept := a_t_isKept) (a_t_script := a_t_script) (a_t_read := a_t_read) (a_t_wanted := a_t_wanted) (a_t_level := a_t_level) (a_t_chosen := a_t_chosen) (a_t_best := a_t_best) (c_t_refusal := c_t_refusal) (c_t_high := c_t_high) (c_t_wide := c_t_wide) (c_t_acts := c_t_acts) (c_t_next := c_t_next) (c_t_scriptSize := c_t_scriptSize) (c_t_spot := v83) (c_t_readHigh := q13.1) (c_t_readWide := (-9 : Int)) (f_t_script := f_t_script) (f_t_read := v84) (p0 := v82)  q87 h88) dX9_readText_139 gX9_readText_X9_readColumn rfl rfl rfl (by decide +kernel) ⟨Nat.le_of_ble_eq_true rfl, Nat.le_of_ble_eq_true rfl⟩ ⟨Nat.le_of_ble_eq_true rfl, Nat.le_of_ble_eq_true rfl⟩ (z_spl_of [0, 1, 2] rfl rfl) rfl rfl rfl rfl (Nat.le_of_ble_eq_true rfl) rfl (fun rv w9 hq => ?_)
      obtain ⟨rfl, rfl⟩ := hq
      refine z_ws [(a_t, .inr (8, [.int (zi c_t_refusal), .int (zi c_t_high), .int (zi c_t_wide), .ref a_t_now, .ref a_t_trial, .ref a_t_diary, .int (zi c_t_acts), .int (zi c_t_next), .ref a_t_kept, .ref a_t_isKept, .ref a_t_script, .int (zi c_t_scriptSize), .int (zi q87.2.1), .ref a_t_read, .int (zi q13.1), .int (zi (-9 : Int)), .ref a_t_wanted, .ref a_t_level, .ref a_t_chosen, .ref a_t_best])), (a_t_script, zI J 120 f_t_script), (a_t_read, zI J 243 q87.2.2)] rfl ?_
      have g89 := zkr_p hsh
      replace hsh := zkr_k hsh
      refine z_if_ne (pc' := 145) (tgt := 150) dX9_readText_142 (by decide) g89 rfl (fun q => ?_) (fun q => ?_)
      · replace hsh := zif_f q hsh
        refine z_iinc (pc' := 153) [(1, .int (zi (v82 + (1 : Int)))), (0, .ref a_t)] 1 dX9_readText_150 rfl (by decide) rfl rfl ?_
        refine z_goto (tgt := 124) dX9_readText_153 (by decide) ?_
        refine z_perm [(a_t, .inr (8, [.int (zi c_t_refusal), .int (zi c_t_high), .int (zi c_t_wide), .ref a_t_now, .ref a_t_trial, .ref a_t_diary, .int (zi c_t_acts), .int (zi c_t_next), .ref a_t_kept, .ref a_t_isKept, .ref a_t_script, .int (zi c_t_scriptSize), .int (zi q87.2.1), .ref a_t_read, .int (zi q13.1), .int (zi (-9 : Int)), .ref a_t_wanted, .ref a_t_level, .ref a_t_chosen, .ref a_t_best])), (a_t_script, zI J 120 f_t_script), (a_t_read, zI J 243 q87.2.2)] [(0, .ref a_t), (1, .int (zi (v82 + (1 : Int))))] [0, 1, 2] [1, 0] rfl rfl rfl ?_
        exact ih _ _ _ hsh
      · replace hsh := zif_t q hsh
        refine z_aload_n (pc' := 146) 0 dX9_readText_145 rfl rfl rfl ?_
        refine z_getfield (pc' := 149) (C := RX9) (T := TX9) (N := 20) 0 12 dX9_readText_146 iX9_readText_X9 rfl rfl (by decide) mX9_readText_f81 rfl rfl ?_
        cases hsh
        exact z_iret rfl dX9_readText_149 ⟨rfl, rfl⟩
set_option maxRecDepth 100000 in
set_option maxHeartbeats 4000000 in
theorem zc_X9_readText (l : Launch) (D : va_G) (J : Nat → ClassId) (F : Nat) (a_t : Nat) (a_t_now : Nat) (a_t_trial : Nat) (a_t_diary : Nat) (a_t_kept : Nat) (a_t_isKept : Nat) (a_t_script : Nat) (a_t_read : Nat) (a_t_wanted : Nat) (a_t_level : Nat) (a_t_chosen : Nat) (a_t_best : Nat) (c_t_refusal : Int) (c_t_high : Int) (c_t_wide : Int) (c_t_acts : Int) (c_t_next : Int) (c_t_scriptSize : Int) (c_t_spot : Int) (c_t_readHigh : Int) (c_t_readWide : Int) (f_t_script : Nat → Int) (f_t_read : Nat → Int) (res : Int × Int × Int × Int × (Nat → Int)) (hsh : sh_X9_readText F c_t_scriptSize c_t_readHigh c_t_readWide f_t_script f_t_read = some res) : ZM l D J yX9_readText wsX9_readText ({ frames := 4, cells := 0, slots := 0, locals := 93 } : Room) 0 0 [.ref a_t] [(a_t, .inr (8, [.int (zi c_t_refusal), .int (zi c_t_high), .int (zi c_t_wide), .ref a_t_now, .ref a_t_trial, .ref a_t_diary, .int (zi c_t_acts), .int (zi c_t_next), .ref a_t_kept, .ref a_t_isKept, .ref a_t_script, .int (zi c_t_scriptSize), .int (zi c_t_spot), .ref a_t_read, .int (zi c_t_readHigh), .int (zi c_t_readWide), .ref a_t_wanted, .ref a_t_level, .ref a_t_chosen, .ref a_t_best])), (a_t_script, zI J 120 f_t_script), (a_t_read, zI J 243 f_t_read)] (fun rv w9 => rv = some (.int (zi res.1)) ∧ w9 = [(a_t, .inr (8, [.int (zi c_t_refusal), .int (zi c_t_high), .int (zi c_t_wide), .ref a_t_now, .ref a_t_trial, .ref a_t_diary, .int (zi c_t_acts), .int (zi c_t_next), .ref a_t_kept, .ref a_t_isKept, .ref a_t_script, .int (zi c_t_scriptSize), .int (zi res.2.1), .ref a_t_read, .int (zi res.2.2.1), .int (zi res.2.2.2.1), .ref a_t_wanted, .ref a_t_level, .ref a_t_chosen, .ref a_t_best])), (a_t_script, zI J 120 f_t_script), (a_t_read, zI J 243 res.2.2.2.2)]) := by
  refine z_ofZ (cc := cX9_readText) (maxL := 2) (ret := (some .int)) 0 0 (by decide) rfl (Nat.le_of_ble_eq_true rfl) [(0, .ref a_t)] rfl ?_
  intro p e s m args below meth c A
  unfold sh_X9_readText at hsh
  refine z_iconst (pc' := 1) dX9_readText_0 rfl ?_
  refine z_istore_n (pc' := 2) [(1, .int (zi (0 : Int))), (0, .ref a_t)] dX9_readText_1 rfl (by decide) rfl rfl ?_
  refine z_perm [(a_t, .inr (8, [.int (zi c_t_refusal), .int (zi c_t_high), .int (zi c_t_wide), .ref a_t_now, .ref a_t_trial, .ref a_t_diary, .int (zi c_t_acts), .int (zi c_t_next), .ref a_t_kept, .ref a_t_isKept, .ref a_t_script, .int (zi c_t_scriptSize), .int (zi c_t_spot), .ref a_t_read, .int (zi c_t_readHigh), .int (zi c_t_readWide), .ref a_t_wanted, .ref a_t_level, .ref a_t_chosen, .ref a_t_best])), (a_t_script, zI J 120 f_t_script), (a_t_read, zI J 243 f_t_read)] [(0, .ref a_t), (1, .int (zi (0 : Int)))] [0, 1, 2] [1, 0] rfl rfl rfl ?_
  refine zl_X9_readText_L2 (F := F) (hk := fun v8 v9 hsh => ?_) _ _ _ hsh
  refine z_aload_n (pc' := 23) 0 dX9_readText_22 rfl rfl rfl ?_
  refine z_iconst (pc' := 24) dX9_readText_23 rfl ?_
  refine z_putfield (pc' := 27) (C := RX9) (T := TX9) (N := 20) (ty := .int) 0 12 [(a_t, .inr (8, [.int (zi c_t_refusal), .int (zi c_t_high), .int (zi c_t_wide), .ref a_t_now, .ref a_t_trial, .ref a_t_diary, .int (zi c_t_acts), .int (zi c_t_next), .ref a_t_kept, .ref a_t_isKept, .ref a_t_script, .int (zi c_t_scriptSize), .int (zi (0 : Int)), .ref a_t_read, .int (zi c_t_readHigh), .int (zi c_t_readWide), .ref a_t_wanted, .ref a_t_level, .ref a_t_chosen, .ref a_t_best])), (a_t_script, zI J 120 f_t_script), (a_t_read, zI J 243 v9)] tyX9 tyX9_ok nmX9 dX9_readText_24 iX9_readText_X9 rfl rfl (by decide) mX9_readText_f81 rfl (by decide +kernel) rfl rfl (Nat.le_of_ble_eq_true rfl) rfl rfl rfl ?_
  refine z_aload_n (pc' := 28) 0 dX9_readText_27 rfl rfl rfl ?_
  refine z_bipush (pc' := 30) dX9_readText_28 (by decide) rfl ?_
  obtain ⟨q10, h11, hsh⟩ := zbind hsh
  refine z_callV (pc' := 33) (C := RX9) (As := [.int (zi (68 : Int))]) (rest := []) (wr := [(a_t_read, zI J 243 v9)]) 1 (zc_X9_readLetter l D J F (a_t := a_t) (a_t_now := a_t_now) (a_t_trial := a_t_trial) (a_t_diary := a_t_diary) (a_t_kept := a_t_kept) (a_t_isKept := a_t_isKept) (a_t_script := a_t_script) (a_t_read := a_t_read) (a_t_wanted := a_t_wanted) (a_t_level := a_t_level) (a_t_chosen := a_t_chosen) (a_t_best := a_t_best) (c_t_refusal := c_t_refusal) (c_t_high := c_t_high) (c_t_wide := c_t_wide) (c_t_acts := c_t_acts) (c_t_next := c_t_next) (c_t_scriptSize := c_t_scriptSize) (c_t_spot := (0 : Int)) (c_t_readHigh := c_t_readHigh) (c_t_readWide := c_t_readWide) (f_t_script := f_t_script) (p0 := (68 : Int))  q10 h11) dX9_readText_30 gX9_readText_X9_readLetter rfl rfl rfl (by decide +kernel) ⟨Nat.le_of_ble_eq_true rfl, Nat.le_of_ble_eq_true rfl⟩ ⟨Nat.le_of_ble_eq_true rfl, Nat.le_of_ble_eq_true rfl⟩ (z_spl_of [0, 1, 2] rfl rfl) rfl rfl rfl rfl (Nat.le_of_ble_eq_true rfl) rfl (fun rv w9 hq => ?_)
  obtain ⟨rfl, rfl⟩ := hq
  refine z_ws [(a_t_read, zI J 243 v9), (a_t, .inr (8, [.int (zi c_t_refusal), .int (zi c_t_high), .int (zi c_t_wide), .ref a_t_now, .ref a_t_trial, .ref a_t_diary, .int (zi c_t_acts), .int (zi c_t_next), .ref a_t_kept, .ref a_t_isKept, .ref a_t_script, .int (zi c_t_scriptSize), .int (zi q10.2), .ref a_t_read, .int (zi c_t_readHigh), .int (zi c_t_readWide), .ref a_t_wanted, .ref a_t_level, .ref a_t_chosen, .ref a_t_best])), (a_t_script, zI J 120 f_t_script)] rfl ?_
  have g12 := zkr_p hsh
  replace hsh := zkr_k hsh
  refine z_if_ne (pc' := 36) (tgt := 41) dX9_readText_33 (by decide) g12 rfl (fun q => ?_) (fun q => ?_)
  · replace hsh := zif_f q hsh
    refine z_aload_n (pc' := 42) 0 dX9_readText_41 rfl rfl rfl ?_
    refine z_aload_n (pc' := 43) 0 dX9_readText_42 rfl rfl rfl ?_
    refine z_iconst (pc' := 44) dX9_readText_43 rfl ?_
    refine z_iconst (pc' := 45) dX9_readText_44 rfl ?_
    obtain ⟨q13, h14, hsh⟩ := zbind hsh
    refine z_callV (pc' := 48) (C := RX9) (As := [.int (zi (1 : Int)), .int (zi (4 : Int))]) (rest := [.ref a_t]) (wr := [(a_t_read, zI J 243 v9)]) 2 (zc_X9_digit l D J F (a_t := a_t) (a_t_now := a_t_now) (a_t_trial := a_t_trial) (a_t_diary := a_t_diary) (a_t_kept := a_t_kept) (a_t_isKept := a_t_isKept) (a_t_script := a_t_script) (a_t_read := a_t_read) (a_t_wanted := a_t_wanted) (a_t_level := a_t_level) (a_t_chosen := a_t_chosen) (a_t_best := a_t_best) (c_t_refusal := c_t_refusal) (c_t_high := c_t_high) (c_t_wide := c_t_wide) (c_t_acts := c_t_acts) (c_t_next := c_t_next) (c_t_scriptSize := c_t_scriptSize) (c_t_spot := q10.2) (c_t_readHigh := c_t_readHigh) (c_t_readWide := c_t_readWide) (f_t_script := f_t_script) (p0 := (1 : Int)) (p1 := (4 : Int))  q13 h14) dX9_readText_45 gX9_readText_X9_digit rfl rfl rfl (by decide +kernel) ⟨Nat.le_of_ble_eq_true rfl, Nat.le_of_ble_eq_true rfl⟩ ⟨Nat.le_of_ble_eq_true rfl, Nat.le_of_ble_eq_true rfl⟩ (z_spl_of [1, 2, 0] rfl rfl) rfl rfl rfl rfl (Nat.le_of_ble_eq_true rfl) rfl (fun rv w9 hq => ?_)
    obtain ⟨rfl, rfl⟩ := hq
    refine z_ws [(a_t_read, zI J 243 v9), (a_t, .inr (8, [.int (zi c_t_refusal), .int (zi c_t_high), .int (zi c_t_wide), .ref a_t_now, .ref a_t_trial, .ref a_t_diary, .int (zi c_t_acts), .int (zi c_t_next), .ref a_t_kept, .ref a_t_isKept, .ref a_t_script, .int (zi c_t_scriptSize), .int (zi q13.2), .ref a_t_read, .int (zi c_t_readHigh), .int (zi c_t_readWide), .ref a_t_wanted, .ref a_t_level, .ref a_t_chosen, .ref a_t_best])), (a_t_script, zI J 120 f_t_script)] rfl ?_
    refine z_putfield (pc' := 51) (C := RX9) (T := TX9) (N := 20) (ty := .int) 1 14 [(a_t_read, zI J 243 v9), (a_t, .inr (8, [.int (zi c_t_refusal), .int (zi c_t_high), .int (zi c_t_wide), .ref a_t_now, .ref a_t_trial, .ref a_t_diary, .int (zi c_t_acts), .int (zi c_t_next), .ref a_t_kept, .ref a_t_isKept, .ref a_t_script, .int (zi c_t_scriptSize), .int (zi q13.2), .ref a_t_read, .int (zi q13.1), .int (zi c_t_readWide), .ref a_t_wanted, .ref a_t_level, .ref a_t_chosen, .ref a_t_best])), (a_t_script, zI J 120 f_t_script)] tyX9 tyX9_ok nmX9 dX9_readText_48 iX9_readText_X9 rfl rfl (by decide) mX9_readText_f94 rfl (by decide +kernel) rfl rfl (Nat.le_of_ble_eq_true rfl) rfl rfl rfl ?_
    refine z_aload_n (pc' := 52) 0 dX9_readText_51 rfl rfl rfl ?_
    refine z_aload_n (pc' := 53) 0 dX9_readText_52 rfl rfl rfl ?_
    refine z_getfield (pc' := 56) (C := RX9) (T := TX9) (N := 20) 1 14 dX9_readText_53 iX9_readText_X9 rfl rfl (by decide) mX9_readText_f94 rfl rfl ?_
    refine z_bipush (pc' := 58) dX9_readText_56 (by decide) rfl ?_
    have g15 := zkr_p hsh
    replace hsh := zkr_k hsh
    refine z_icmp_ne (pc' := 61) (tgt := 66) dX9_readText_58 (by decide) g15 (by decide) rfl (fun q => ?_) (fun q => ?_)
    · replace hsh := zif_f q hsh
      refine z_aload_n (pc' := 67) 0 dX9_readText_66 rfl rfl rfl ?_
      refine z_iconst (pc' := 68) dX9_readText_67 rfl ?_
      refine z_iconst (pc' := 69) dX9_readText_68 rfl ?_
      obtain ⟨q16, h17, hsh⟩ := zbind hsh
      refine z_callV (pc' := 72) (C := RX9) (As := [.int (zi (1 : Int)), .int (zi (4 : Int))]) (rest := [.ref a_t]) (wr := [(a_t_read, zI J 243 v9)]) 2 (zc_X9_digit l D J F (a_t := a_t) (a_t_now := a_t_now) (a_t_trial := a_t_trial) (a_t_diary := a_t_diary) (a_t_kept := a_t_kept) (a_t_isKept := a_t_isKept) (a_t_script := a_t_script) (a_t_read := a_t_read) (a_t_wanted := a_t_wanted) (a_t_level := a_t_level) (a_t_chosen := a_t_chosen) (a_t_best := a_t_best) (c_t_refusal := c_t_refusal) (c_t_high := c_t_high) (c_t_wide := c_t_wide) (c_t_acts := c_t_acts) (c_t_next := c_t_next) (c_t_scriptSize := c_t_scriptSize) (c_t_spot := q13.2) (c_t_readHigh := q13.1) (c_t_readWide := c_t_readWide) (f_t_script := f_t_script) (p0 := (1 : Int)) (p1 := (4 : Int))  q16 h17) dX9_readText_69 gX9_readText_X9_digit rfl rfl rfl (by decide +kernel) ⟨Nat.le_of_ble_eq_true rfl, Nat.le_of_ble_eq_true rfl⟩ ⟨Nat.le_of_ble_eq_true rfl, Nat.le_of_ble_eq_true rfl⟩ (z_spl_of [1, 2, 0] rfl rfl) rfl rfl rfl rfl (Nat.le_of_ble_eq_true rfl) rfl (fun rv w9 hq => ?_)
      obtain ⟨rfl, rfl⟩ := hq
      refine z_ws [(a_t_read, zI J 243 v9), (a_t, .inr (8, [.int (zi c_t_refusal), .int (zi c_t_high), .int (zi c_t_wide), .ref a_t_now, .ref a_t_trial, .ref a_t_diary, .int (zi c_t_acts), .int (zi c_t_next), .ref a_t_kept, .ref a_t_isKept, .ref a_t_script, .int (zi c_t_scriptSize), .int (zi q16.2), .ref a_t_read, .int (zi q13.1), .int (zi c_t_readWide), .ref a_t_wanted, .ref a_t_level, .ref a_t_chosen, .ref a_t_best])), (a_t_script, zI J 120 f_t_script)] rfl ?_
      refine z_putfield (pc' := 75) (C := RX9) (T := TX9) (N := 20) (ty := .int) 1 15 [(a_t_read, zI J 243 v9), (a_t, .inr (8, [.int (zi c_t_refusal), .int (zi c_t_high), .int (zi c_t_wide), .ref a_t_now, .ref a_t_trial, .ref a_t_diary, .int (zi c_t_acts), .int (zi c_t_next), .ref a_t_kept, .ref a_t_isKept, .ref a_t_script, .int (zi c_t_scriptSize), .int (zi q16.2), .ref a_t_read, .int (zi q13.1), .int (zi q16.1), .ref a_t_wanted, .ref a_t_level, .ref a_t_chosen, .ref a_t_best])), (a_t_script, zI J 120 f_t_script)] tyX9 tyX9_ok nmX9 dX9_readText_72 iX9_readText_X9 rfl rfl (by decide) mX9_readText_f97 rfl (by decide +kernel) rfl rfl (Nat.le_of_ble_eq_true rfl) rfl rfl rfl ?_
      refine z_aload_n (pc' := 76) 0 dX9_readText_75 rfl rfl rfl ?_
      refine z_getfield (pc' := 79) (C := RX9) (T := TX9) (N := 20) 1 13 dX9_readText_76 iX9_readText_X9 rfl rfl (by decide) mX9_readText_f36 rfl rfl ?_
      refine z_sipush (pc' := 82) dX9_readText_79 (by decide) rfl ?_
      refine z_aload_n (pc' := 83) 0 dX9_readText_82 rfl rfl rfl ?_
      refine z_getfield (pc' := 86) (C := RX9) (T := TX9) (N := 20) 1 15 dX9_readText_83 iX9_readText_X9 rfl rfl (by decide) mX9_readText_f97 rfl rfl ?_
      refine z_bipush (pc' := 88) dX9_readText_86 (by decide) rfl ?_
      have g18 := zkr_p hsh
      replace hsh := zkr_k hsh
      refine z_icmp_ne (pc' := 91) (tgt := 96) dX9_readText_88 (by decide) g18 (by decide) rfl (fun q => ?_) (fun q => ?_)
      · replace hsh := zif_f q hsh
        refine z_aload_n (pc' := 97) 0 dX9_readText_96 rfl rfl rfl ?_
        refine z_iconst (pc' := 98) dX9_readText_97 rfl ?_
        refine z_bipush (pc' := 100) dX9_readText_98 (by decide) rfl ?_
        obtain ⟨q19, h20, hsh⟩ := zbind hsh
        refine z_callV (pc' := 103) (C := RX9) (As := [.int (zi (1 : Int)), .int (zi (9 : Int))]) (rest := [.int (zi (240 : Int)), .ref a_t_read]) (wr := [(a_t_read, zI J 243 v9)]) 2 (zc_X9_digit l D J F (a_t := a_t) (a_t_now := a_t_now) (a_t_trial := a_t_trial) (a_t_diary := a_t_diary) (a_t_kept := a_t_kept) (a_t_isKept := a_t_isKept) (a_t_script := a_t_script) (a_t_read := a_t_read) (a_t_wanted := a_t_wanted) (a_t_level := a_t_level) (a_t_chosen := a_t_chosen) (a_t_best := a_t_best) (c_t_refusal := c_t_refusal) (c_t_high := c_t_high) (c_t_wide := c_t_wide) (c_t_acts := c_t_acts) (c_t_next := c_t_next) (c_t_scriptSize := c_t_scriptSize) (c_t_spot := q16.2) (c_t_readHigh := q13.1) (c_t_readWide := q16.1) (f_t_script := f_t_script) (p0 := (1 : Int)) (p1 := (9 : Int))  q19 h20) dX9_readText_100 gX9_readText_X9_digit rfl rfl rfl (by decide +kernel) ⟨Nat.le_of_ble_eq_true rfl, Nat.le_of_ble_eq_true rfl⟩ ⟨Nat.le_of_ble_eq_true rfl, Nat.le_of_ble_eq_true rfl⟩ (z_spl_of [1, 2, 0] rfl rfl) rfl rfl rfl rfl (Nat.le_of_ble_eq_true rfl) rfl (fun rv w9 hq => ?_)
        obtain ⟨rfl, rfl⟩ := hq
        refine z_ws [(a_t_read, zI J 243 v9), (a_t, .inr (8, [.int (zi c_t_refusal), .int (zi c_t_high), .int (zi c_t_wide), .ref a_t_now, .ref a_t_trial, .ref a_t_diary, .int (zi c_t_acts), .int (zi c_t_next), .ref a_t_kept, .ref a_t_isKept, .ref a_t_script, .int (zi c_t_scriptSize), .int (zi q19.2), .ref a_t_read, .int (zi q13.1), .int (zi q16.1), .ref a_t_wanted, .ref a_t_level, .ref a_t_chosen, .ref a_t_best])), (a_t_script, zI J 120 f_t_script)] rfl ?_
        refine z_iastore (pc' := 104) 0 [(a_t_read, zI J 243 (va_up v9 ((240 : Int)).toNat q19.1)), (a_t, .inr (8, [.int (zi c_t_refusal), .int (zi c_t_high), .int (zi c_t_wide), .ref a_t_now, .ref a_t_trial, .ref a_t_diary, .int (zi c_t_acts), .int (zi c_t_next), .ref a_t_kept, .ref a_t_isKept, .ref a_t_script, .int (zi c_t_scriptSize), .int (zi q19.2), .ref a_t_read, .int (zi q13.1), .int (zi q16.1), .ref a_t_wanted, .ref a_t_level, .ref a_t_chosen, .ref a_t_best])), (a_t_script, zI J 120 f_t_script)] dX9_readText_103 rfl (by decide) (by decide) rfl rfl ?_
        refine z_aload_n (pc' := 105) 0 dX9_readText_104 rfl rfl rfl ?_
        refine z_getfield (pc' := 108) (C := RX9) (T := TX9) (N := 20) 1 13 dX9_readText_105 iX9_readText_X9 rfl rfl (by decide) mX9_readText_f36 rfl rfl ?_
        refine z_sipush (pc' := 111) dX9_readText_108 (by decide) rfl ?_
        refine z_iaload (pc' := 112) 0 dX9_readText_111 rfl (by decide) (by decide) rfl ?_
        refine z_bipush (pc' := 114) dX9_readText_112 (by decide) rfl ?_
        have g21 := zkr_p hsh
        replace hsh := zkr_k hsh
        refine z_icmp_ne (pc' := 117) (tgt := 122) dX9_readText_114 (by decide) g21 (by decide) rfl (fun q => ?_) (fun q => ?_)
        · replace hsh := zif_f q hsh
          refine z_iconst (pc' := 123) dX9_readText_122 rfl ?_
          refine z_istore_n (pc' := 124) [(1, .int (zi (0 : Int))), (0, .ref a_t)] dX9_readText_123 rfl (by decide) rfl rfl ?_
          refine z_perm [(a_t, .inr (8, [.int (zi c_t_refusal), .int (zi c_t_high), .int (zi c_t_wide), .ref a_t_now, .ref a_t_trial, .ref a_t_diary, .int (zi c_t_acts), .int (zi c_t_next), .ref a_t_kept, .ref a_t_isKept, .ref a_t_script, .int (zi c_t_scriptSize), .int (zi q19.2), .ref a_t_read, .int (zi q13.1), .int (zi q16.1), .ref a_t_wanted, .ref a_t_level, .ref a_t_chosen, .ref a_t_best])), (a_t_script, zI J 120 f_t_script), (a_t_read, zI J 243 (va_up v9 ((240 : Int)).toNat q19.1))] [(0, .ref a_t), (1, .int (zi (0 : Int)))] [1, 2, 0] [1, 0] rfl rfl rfl ?_
          refine zl_X9_readText_L124 (F := F) (hk := fun v34 v35 v36 hsh => ?_) _ _ _ _ hsh
          refine z_aload_n (pc' := 157) 0 dX9_readText_156 rfl rfl rfl ?_
          refine z_getfield (pc' := 160) (C := RX9) (T := TX9) (N := 20) 0 12 dX9_readText_157 iX9_readText_X9 rfl rfl (by decide) mX9_readText_f81 rfl rfl ?_
          refine z_aload_n (pc' := 161) 0 dX9_readText_160 rfl rfl rfl ?_
          refine z_getfield (pc' := 164) (C := RX9) (T := TX9) (N := 20) 0 11 dX9_readText_161 iX9_readText_X9 rfl rfl (by decide) mX9_readText_f74 rfl rfl ?_
          have g37 := zkr_p hsh
          replace hsh := zkr_k hsh
          have g38 := zkr_p hsh
          replace hsh := zkr_k hsh
          refine z_icmp_ne (pc' := 167) (tgt := 172) dX9_readText_164 (by decide) g37 g38 rfl (fun q => ?_) (fun q => ?_)
          · replace hsh := zif_f q hsh
            refine z_aload_n (pc' := 173) 0 dX9_readText_172 rfl rfl rfl ?_
            refine z_getfield (pc' := 176) (C := RX9) (T := TX9) (N := 20) 0 12 dX9_readText_173 iX9_readText_X9 rfl rfl (by decide) mX9_readText_f81 rfl rfl ?_
            cases hsh
            exact z_iret rfl dX9_readText_176 ⟨rfl, rfl⟩
          · replace hsh := zif_t q hsh
            refine z_bipush (pc' := 169) dX9_readText_167 (by decide) rfl ?_
            refine z_goto (tgt := 176) dX9_readText_169 (by decide) ?_
            cases hsh
            exact z_iret rfl dX9_readText_176 ⟨rfl, rfl⟩
        · replace hsh := zif_t q hsh
          refine z_aload_n (pc' := 118) 0 dX9_readText_117 rfl rfl rfl ?_
          refine z_getfield (pc' := 121) (C := RX9) (T := TX9) (N := 20) 1 12 dX9_readText_118 iX9_readText_X9 rfl rfl (by decide) mX9_readText_f81 rfl rfl ?_
          refine z_perm [(a_t, .inr (8, [.int (zi c_t_refusal), .int (zi c_t_high), .int (zi c_t_wide), .ref a_t_now, .ref a_t_trial, .ref a_t_diary, .int (zi c_t_acts), .int (zi c_t_next), .ref a_t_kept, .ref a_t_isKept, .ref a_t_script, .int (zi c_t_scriptSize), .int (zi q19.2), .ref a_t_read, .int (zi q13.1), .int (zi q16.1), .ref a_t_wanted, .ref a_t_level, .ref a_t_chosen, .ref a_t_best])), (a_t_script, zI J 120 f_t_script), (a_t_read, zI J 243 (va_up v9 ((240 : Int)).toNat q19.1))] [(0, .ref a_t)] [1, 2, 0] [0] rfl rfl rfl ?_
          cases hsh
          exact z_iret rfl dX9_readText_121 ⟨rfl, rfl⟩
      · replace hsh := zif_t q hsh
        refine z_bipush (pc' := 93) dX9_readText_91 (by decide) rfl ?_
        refine z_goto (tgt := 103) dX9_readText_93 (by decide) ?_
        refine z_iastore (pc' := 104) 0 [(a_t_read, zI J 243 (va_up v9 ((240 : Int)).toNat (-9 : Int))), (a_t, .inr (8, [.int (zi c_t_refusal), .int (zi c_t_high), .int (zi c_t_wide), .ref a_t_now, .ref a_t_trial, .ref a_t_diary, .int (zi c_t_acts), .int (zi c_t_next), .ref a_t_kept, .ref a_t_isKept, .ref a_t_script, .int (zi c_t_scriptSize), .int (zi q16.2), .ref a_t_read, .int (zi q13.1), .int (zi q16.1), .ref a_t_wanted, .ref a_t_level, .ref a_t_chosen, .ref a_t_best])), (a_t_script, zI J 120 f_t_script)] dX9_readText_103 rfl (by decide) (by decide) rfl rfl ?_
        refine z_aload_n (pc' := 105) 0 dX9_readText_104 rfl rfl rfl ?_
        refine z_getfield (pc' := 108) (C := RX9) (T := TX9) (N := 20) 1 13 dX9_readText_105 iX9_readText_X9 rfl rfl (by decide) mX9_readText_f36 rfl rfl ?_
        refine z_sipush (pc' := 111) dX9_readText_108 (by decide) rfl ?_
        refine z_iaload (pc' := 112) 0 dX9_readText_111 rfl (by decide) (by decide) rfl ?_
        refine z_bipush (pc' := 114) dX9_readText_112 (by decide) rfl ?_
        have g39 := zkr_p hsh
        replace hsh := zkr_k hsh
        refine z_icmp_ne (pc' := 117) (tgt := 122) dX9_readText_114 (by decide) g39 (by decide) rfl (fun q => ?_) (fun q => ?_)
        · replace hsh := zif_f q hsh
          refine z_iconst (pc' := 123) dX9_readText_122 rfl ?_
          refine z_istore_n (pc' := 124) [(1, .int (zi (0 : Int))), (0, .ref a_t)] dX9_readText_123 rfl (by decide) rfl rfl ?_
          refine z_perm [(a_t, .inr (8, [.int (zi c_t_refusal), .int (zi c_t_high), .int (zi c_t_wide), .ref a_t_now, .ref a_t_trial, .ref a_t_diary, .int (zi c_t_acts), .int (zi c_t_next), .ref a_t_kept, .ref a_t_isKept, .ref a_t_script, .int (zi c_t_scriptSize), .int (zi q16.2), .ref a_t_read, .int (zi q13.1), .int (zi q16.1), .ref a_t_wanted, .ref a_t_level, .ref a_t_chosen, .ref a_t_best])), (a_t_script, zI J 120 f_t_script), (a_t_read, zI J 243 (va_up v9 ((240 : Int)).toNat (-9 : Int)))] [(0, .ref a_t), (1, .int (zi (0 : Int)))] [1, 2, 0] [1, 0] rfl rfl rfl ?_
          refine zl_X9_readText_L124_2 (F := F) (hk := fun v52 v53 v54 hsh => ?_) _ _ _ _ hsh
          refine z_aload_n (pc' := 157) 0 dX9_readText_156 rfl rfl rfl ?_
          refine z_getfield (pc' := 160) (C := RX9) (T := TX9) (N := 20) 0 12 dX9_readText_157 iX9_readText_X9 rfl rfl (by decide) mX9_readText_f81 rfl rfl ?_
          refine z_aload_n (pc' := 161) 0 dX9_readText_160 rfl rfl rfl ?_
          refine z_getfield (pc' := 164) (C := RX9) (T := TX9) (N := 20) 0 11 dX9_readText_161 iX9_readText_X9 rfl rfl (by decide) mX9_readText_f74 rfl rfl ?_
          have g55 := zkr_p hsh
          replace hsh := zkr_k hsh
          have g56 := zkr_p hsh
          replace hsh := zkr_k hsh
          refine z_icmp_ne (pc' := 167) (tgt := 172) dX9_readText_164 (by decide) g55 g56 rfl (fun q => ?_) (fun q => ?_)
          · replace hsh := zif_f q hsh
            refine z_aload_n (pc' := 173) 0 dX9_readText_172 rfl rfl rfl ?_
            refine z_getfield (pc' := 176) (C := RX9) (T := TX9) (N := 20) 0 12 dX9_readText_173 iX9_readText_X9 rfl rfl (by decide) mX9_readText_f81 rfl rfl ?_
            cases hsh
            exact z_iret rfl dX9_readText_176 ⟨rfl, rfl⟩
          · replace hsh := zif_t q hsh
            refine z_bipush (pc' := 169) dX9_readText_167 (by decide) rfl ?_
            refine z_goto (tgt := 176) dX9_readText_169 (by decide) ?_
            cases hsh
            exact z_iret rfl dX9_readText_176 ⟨rfl, rfl⟩
        · replace hsh := zif_t q hsh
          refine z_aload_n (pc' := 118) 0 dX9_readText_117 rfl rfl rfl ?_
          refine z_getfield (pc' := 121) (C := RX9) (T := TX9) (N := 20) 1 12 dX9_readText_118 iX9_readText_X9 rfl rfl (by decide) mX9_readText_f81 rfl rfl ?_
          refine z_perm [(a_t, .inr (8, [.int (zi c_t_refusal), .int (zi c_t_high), .int (zi c_t_wide), .ref a_t_now, .ref a_t_trial, .ref a_t_diary, .int (zi c_t_acts), .int (zi c_t_next), .ref a_t_kept, .ref a_t_isKept, .ref a_t_script, .int (zi c_t_scriptSize), .int (zi q16.2), .ref a_t_read, .int (zi q13.1), .int (zi q16.1), .ref a_t_wanted, .ref a_t_level, .ref a_t_chosen, .ref a_t_best])), (a_t_script, zI J 120 f_t_script), (a_t_read, zI J 243 (va_up v9 ((240 : Int)).toNat (-9 : Int)))] [(0, .ref a_t)] [1, 2, 0] [0] rfl rfl rfl ?_
          cases hsh
          exact z_iret rfl dX9_readText_121 ⟨rfl, rfl⟩
    · replace hsh := zif_t q hsh
      refine z_bipush (pc' := 63) dX9_readText_61 (by decide) rfl ?_
      refine z_goto (tgt := 72) dX9_readText_63 (by decide) ?_
      refine z_putfield (pc' := 75) (C := RX9) (T := TX9) (N := 20) (ty := .int) 1 15 [(a_t_read, zI J 243 v9), (a_t, .inr (8, [.int (zi c_t_refusal), .int (zi c_t_high), .int (zi c_t_wide), .ref a_t_now, .ref a_t_trial, .ref a_t_diary, .int (zi c_t_acts), .int (zi c_t_next), .ref a_t_kept, .ref a_t_isKept, .ref a_t_script, .int (zi c_t_scriptSize), .int (zi q13.2), .ref a_t_read, .int (zi q13.1), .int (zi (-9 : Int)), .ref a_t_wanted, .ref a_t_level, .ref a_t_chosen, .ref a_t_best])), (a_t_script, zI J 120 f_t_script)] tyX9 tyX9_ok nmX9 dX9_readText_72 iX9_readText_X9 rfl rfl (by decide) mX9_readText_f97 rfl (by decide +kernel) rfl rfl (Nat.le_of_ble_eq_true rfl) rfl rfl rfl ?_
      refine z_aload_n (pc' := 76) 0 dX9_readText_75 rfl rfl rfl ?_
      refine z_getfield (pc' := 79) (C := RX9) (T := TX9) (N := 20) 1 13 dX9_readText_76 iX9_readText_X9 rfl rfl (by decide) mX9_readText_f36 rfl rfl ?_
      refine z_sipush (pc' := 82) dX9_readText_79 (by decide) rfl ?_
      refine z_aload_n (pc' := 83) 0 dX9_readText_82 rfl rfl rfl ?_
      refine z_getfield (pc' := 86) (C := RX9) (T := TX9) (N := 20) 1 15 dX9_readText_83 iX9_readText_X9 rfl rfl (by decide) mX9_readText_f97 rfl rfl ?_
      refine z_bipush (pc' := 88) dX9_readText_86 (by decide) rfl ?_
      refine z_icmp_ne (pc' := 91) (tgt := 96) dX9_readText_88 (by decide) (by decide) (by decide) rfl (fun q => ?_) (fun q => ?_)
      · replace hsh := zif_f q hsh
        refine z_aload_n (pc' := 97) 0 dX9_readText_96 rfl rfl rfl ?_
        refine z_iconst (pc' := 98) dX9_readText_97 rfl ?_
        refine z_bipush (pc' := 100) dX9_readText_98 (by decide) rfl ?_
        obtain ⟨q57, h58, hsh⟩ := zbind hsh
        refine z_callV (pc' := 103) (C := RX9) (As := [.int (zi (1 : Int)), .int (zi (9 : Int))]) (rest := [.int (zi (240 : Int)), .ref a_t_read]) (wr := [(a_t_read, zI J 243 v9)]) 2 (zc_X9_digit l D J F (a_t := a_t) (a_t_now := a_t_now) (a_t_trial := a_t_trial) (a_t_diary := a_t_diary) (a_t_kept := a_t_kept) (a_t_isKept := a_t_isKept) (a_t_script := a_t_script) (a_t_read := a_t_read) (a_t_wanted := a_t_wanted) (a_t_level := a_t_level) (a_t_chosen := a_t_chosen) (a_t_best := a_t_best) (c_t_refusal := c_t_refusal) (c_t_high := c_t_high) (c_t_wide := c_t_wide) (c_t_acts := c_t_acts) (c_t_next := c_t_next) (c_t_scriptSize := c_t_scriptSize) (c_t_spot := q13.2) (c_t_readHigh := q13.1) (c_t_readWide := (-9 : Int)) (f_t_script := f_t_script) (p0 := (1 : Int)) (p1 := (9 : Int))  q57 h58) dX9_readText_100 gX9_readText_X9_digit rfl rfl rfl (by decide +kernel) ⟨Nat.le_of_ble_eq_true rfl, Nat.le_of_ble_eq_true rfl⟩ ⟨Nat.le_of_ble_eq_true rfl, Nat.le_of_ble_eq_true rfl⟩ (z_spl_of [1, 2, 0] rfl rfl) rfl rfl rfl rfl (Nat.le_of_ble_eq_true rfl) rfl (fun rv w9 hq => ?_)
        obtain ⟨rfl, rfl⟩ := hq
        refine z_ws [(a_t_read, zI J 243 v9), (a_t, .inr (8, [.int (zi c_t_refusal), .int (zi c_t_high), .int (zi c_t_wide), .ref a_t_now, .ref a_t_trial, .ref a_t_diary, .int (zi c_t_acts), .int (zi c_t_next), .ref a_t_kept, .ref a_t_isKept, .ref a_t_script, .int (zi c_t_scriptSize), .int (zi q57.2), .ref a_t_read, .int (zi q13.1), .int (zi (-9 : Int)), .ref a_t_wanted, .ref a_t_level, .ref a_t_chosen, .ref a_t_best])), (a_t_script, zI J 120 f_t_script)] rfl ?_
        refine z_iastore (pc' := 104) 0 [(a_t_read, zI J 243 (va_up v9 ((240 : Int)).toNat q57.1)), (a_t, .inr (8, [.int (zi c_t_refusal), .int (zi c_t_high), .int (zi c_t_wide), .ref a_t_now, .ref a_t_trial, .ref a_t_diary, .int (zi c_t_acts), .int (zi c_t_next), .ref a_t_kept, .ref a_t_isKept, .ref a_t_script, .int (zi c_t_scriptSize), .int (zi q57.2), .ref a_t_read, .int (zi q13.1), .int (zi (-9 : Int)), .ref a_t_wanted, .ref a_t_level, .ref a_t_chosen, .ref a_t_best])), (a_t_script, zI J 120 f_t_script)] dX9_readText_103 rfl (by decide) (by decide) rfl rfl ?_
        refine z_aload_n (pc' := 105) 0 dX9_readText_104 rfl rfl rfl ?_
        refine z_getfield (pc' := 108) (C := RX9) (T := TX9) (N := 20) 1 13 dX9_readText_105 iX9_readText_X9 rfl rfl (by decide) mX9_readText_f36 rfl rfl ?_
        refine z_sipush (pc' := 111) dX9_readText_108 (by decide) rfl ?_
        refine z_iaload (pc' := 112) 0 dX9_readText_111 rfl (by decide) (by decide) rfl ?_
        refine z_bipush (pc' := 114) dX9_readText_112 (by decide) rfl ?_
        have g59 := zkr_p hsh
        replace hsh := zkr_k hsh
        refine z_icmp_ne (pc' := 117) (tgt := 122) dX9_readText_114 (by decide) g59 (by decide) rfl (fun q => ?_) (fun q => ?_)
        · replace hsh := zif_f q hsh
          refine z_iconst (pc' := 123) dX9_readText_122 rfl ?_
          refine z_istore_n (pc' := 124) [(1, .int (zi (0 : Int))), (0, .ref a_t)] dX9_readText_123 rfl (by decide) rfl rfl ?_
          refine z_perm [(a_t, .inr (8, [.int (zi c_t_refusal), .int (zi c_t_high), .int (zi c_t_wide), .ref a_t_now, .ref a_t_trial, .ref a_t_diary, .int (zi c_t_acts), .int (zi c_t_next), .ref a_t_kept, .ref a_t_isKept, .ref a_t_script, .int (zi c_t_scriptSize), .int (zi q57.2), .ref a_t_read, .int (zi q13.1), .int (zi (-9 : Int)), .ref a_t_wanted, .ref a_t_level, .ref a_t_chosen, .ref a_t_best])), (a_t_script, zI J 120 f_t_script), (a_t_read, zI J 243 (va_up v9 ((240 : Int)).toNat q57.1))] [(0, .ref a_t), (1, .int (zi (0 : Int)))] [1, 2, 0] [1, 0] rfl rfl rfl ?_
          refine zl_X9_readText_L124_3 (F := F) (hk := fun v72 v73 v74 hsh => ?_) _ _ _ _ hsh
          refine z_aload_n (pc' := 157) 0 dX9_readText_156 rfl rfl rfl ?_
          refine z_getfield (pc' := 160) (C := RX9) (T := TX9) (N := 20) 0 12 dX9_readText_157 iX9_readText_X9 rfl rfl (by decide) mX9_readText_f81 rfl rfl ?_
          refine z_aload_n (pc' := 161) 0 dX9_readText_160 rfl rfl rfl ?_
          refine z_getfield (pc' := 164) (C := RX9) (T := TX9) (N := 20) 0 11 dX9_readText_161 iX9_readText_X9 rfl rfl (by decide) mX9_readText_f74 rfl rfl ?_
          have g75 := zkr_p hsh
          replace hsh := zkr_k hsh
          have g76 := zkr_p hsh
          replace hsh := zkr_k hsh
          refine z_icmp_ne (pc' := 167) (tgt := 172) dX9_readText_164 (by decide) g75 g76 rfl (fun q => ?_) (fun q => ?_)
          · replace hsh := zif_f q hsh
            refine z_aload_n (pc' := 173) 0 dX9_readText_172 rfl rfl rfl ?_
            refine z_getfield (pc' := 176) (C := RX9) (T := TX9) (N := 20) 0 12 dX9_readText_173 iX9_readText_X9 rfl rfl (by decide) mX9_readText_f81 rfl rfl ?_
            cases hsh
            exact z_iret rfl dX9_readText_176 ⟨rfl, rfl⟩
          · replace hsh := zif_t q hsh
            refine z_bipush (pc' := 169) dX9_readText_167 (by decide) rfl ?_
            refine z_goto (tgt := 176) dX9_readText_169 (by decide) ?_
            cases hsh
            exact z_iret rfl dX9_readText_176 ⟨rfl, rfl⟩
        · replace hsh := zif_t q hsh
          refine z_aload_n (pc' := 118) 0 dX9_readText_117 rfl rfl rfl ?_
          refine z_getfield (pc' := 121) (C := RX9) (T := TX9) (N := 20) 1 12 dX9_readText_118 iX9_readText_X9 rfl rfl (by decide) mX9_readText_f81 rfl rfl ?_
          refine z_perm [(a_t, .inr (8, [.int (zi c_t_refusal), .int (zi c_t_high), .int (zi c_t_wide), .ref a_t_now, .ref a_t_trial, .ref a_t_diary, .int (zi c_t_acts), .int (zi c_t_next), .ref a_t_kept, .ref a_t_isKept, .ref a_t_script, .int (zi c_t_scriptSize), .int (zi q57.2), .ref a_t_read, .int (zi q13.1), .int (zi (-9 : Int)), .ref a_t_wanted, .ref a_t_level, .ref a_t_chosen, .ref a_t_best])), (a_t_script, zI J 120 f_t_script), (a_t_read, zI J 243 (va_up v9 ((240 : Int)).toNat q57.1))] [(0, .ref a_t)] [1, 2, 0] [0] rfl rfl rfl ?_
          cases hsh
          exact z_iret rfl dX9_readText_121 ⟨rfl, rfl⟩
      · replace hsh := zif_t q hsh
        refine z_bipush (pc' := 93) dX9_readText_91 (by decide) rfl ?_
        refine z_goto (tgt := 103) dX9_readText_93 (by decide) ?_
        refine z_iastore (pc' := 104) 0 [(a_t_read, zI J 243 (va_up v9 ((240 : Int)).toNat (-9 : Int))), (a_t, .inr (8, [.int (zi c_t_refusal), .int (zi c_t_high), .int (zi c_t_wide), .ref a_t_now, .ref a_t_trial, .ref a_t_diary, .int (zi c_t_acts), .int (zi c_t_next), .ref a_t_kept, .ref a_t_isKept, .ref a_t_script, .int (zi c_t_scriptSize), .int (zi q13.2), .ref a_t_read, .int (zi q13.1), .int (zi (-9 : Int)), .ref a_t_wanted, .ref a_t_level, .ref a_t_chosen, .ref a_t_best])), (a_t_script, zI J 120 f_t_script)] dX9_readText_103 rfl (by decide) (by decide) rfl rfl ?_
        refine z_aload_n (pc' := 105) 0 dX9_readText_104 rfl rfl rfl ?_
        refine z_getfield (pc' := 108) (C := RX9) (T := TX9) (N := 20) 1 13 dX9_readText_105 iX9_readText_X9 rfl rfl (by decide) mX9_readText_f36 rfl rfl ?_
        refine z_sipush (pc' := 111) dX9_readText_108 (by decide) rfl ?_
        refine z_iaload (pc' := 112) 0 dX9_readText_111 rfl (by decide) (by decide) rfl ?_
        refine z_bipush (pc' := 114) dX9_readText_112 (by decide) rfl ?_
        have g77 := zkr_p hsh
        replace hsh := zkr_k hsh
        refine z_icmp_ne (pc' := 117) (tgt := 122) dX9_readText_114 (by decide) g77 (by decide) rfl (fun q => ?_) (fun q => ?_)
        · replace hsh := zif_f q hsh
          refine z_iconst (pc' := 123) dX9_readText_122 rfl ?_
          refine z_istore_n (pc' := 124) [(1, .int (zi (0 : Int))), (0, .ref a_t)] dX9_readText_123 rfl (by decide) rfl rfl ?_
          refine z_perm [(a_t, .inr (8, [.int (zi c_t_refusal), .int (zi c_t_high), .int (zi c_t_wide), .ref a_t_now, .ref a_t_trial, .ref a_t_diary, .int (zi c_t_acts), .int (zi c_t_next), .ref a_t_kept, .ref a_t_isKept, .ref a_t_script, .int (zi c_t_scriptSize), .int (zi q13.2), .ref a_t_read, .int (zi q13.1), .int (zi (-9 : Int)), .ref a_t_wanted, .ref a_t_level, .ref a_t_chosen, .ref a_t_best])), (a_t_script, zI J 120 f_t_script), (a_t_read, zI J 243 (va_up v9 ((240 : Int)).toNat (-9 : Int)))] [(0, .ref a_t), (1, .int (zi (0 : Int)))] [1, 2, 0] [1, 0] rfl rfl rfl ?_
          refine zl_X9_readText_L124_4 (F := F) (hk := fun v90 v91 v92 hsh => ?_) _ _ _ _ hsh
          refine z_aload_n (pc' := 157) 0 dX9_readText_156 rfl rfl rfl ?_
          refine z_getfield (pc' := 160) (C := RX9) (T := TX9) (N := 20) 0 12 dX9_readText_157 iX9_readText_X9 rfl rfl (by decide) mX9_readText_f81 rfl rfl ?_
          refine z_aload_n (pc' := 161) 0 dX9_readText_160 rfl rfl rfl ?_
          refine z_getfield (pc' := 164) (C := RX9) (T := TX9) (N := 20) 0 11 dX9_readText_161 iX9_readText_X9 rfl rfl (by decide) mX9_readText_f74 rfl rfl ?_
          have g93 := zkr_p hsh
          replace hsh := zkr_k hsh
          have g94 := zkr_p hsh
          replace hsh := zkr_k hsh
          refine z_icmp_ne (pc' := 167) (tgt := 172) dX9_readText_164 (by decide) g93 g94 rfl (fun q => ?_) (fun q => ?_)
          · replace hsh := zif_f q hsh
            refine z_aload_n (pc' := 173) 0 dX9_readText_172 rfl rfl rfl ?_
            refine z_getfield (pc' := 176) (C := RX9) (T := TX9) (N := 20) 0 12 dX9_readText_173 iX9_readText_X9 rfl rfl (by decide) mX9_readText_f81 rfl rfl ?_
            cases hsh
            exact z_iret rfl dX9_readText_176 ⟨rfl, rfl⟩
          · replace hsh := zif_t q hsh
            refine z_bipush (pc' := 169) dX9_readText_167 (by decide) rfl ?_
            refine z_goto (tgt := 176) dX9_readText_169 (by decide) ?_
            cases hsh
            exact z_iret rfl dX9_readText_176 ⟨rfl, rfl⟩
        · replace hsh := zif_t q hsh
          refine z_aload_n (pc' := 118) 0 dX9_readText_117 rfl rfl rfl ?_
          refine z_getfield (pc' := 121) (C := RX9) (T := TX9) (N := 20) 1 12 dX9_readText_118 iX9_readText_X9 rfl rfl (by decide) mX9_readText_f81 rfl rfl ?_
          refine z_perm [(a_t, .inr (8, [.int (zi c_t_refusal), .int (zi c_t_high), .int (zi c_t_wide), .ref a_t_now, .ref a_t_trial, .ref a_t_diary, .int (zi c_t_acts), .int (zi c_t_next), .ref a_t_kept, .ref a_t_isKept, .ref a_t_script, .int (zi c_t_scriptSize), .int (zi q13.2), .ref a_t_read, .int (zi q13.1), .int (zi (-9 : Int)), .ref a_t_wanted, .ref a_t_level, .ref a_t_chosen, .ref a_t_best])), (a_t_script, zI J 120 f_t_script), (a_t_read, zI J 243 (va_up v9 ((240 : Int)).toNat (-9 : Int)))] [(0, .ref a_t)] [1, 2, 0] [0] rfl rfl rfl ?_
          cases hsh
          exact z_iret rfl dX9_readText_121 ⟨rfl, rfl⟩
  · replace hsh := zif_t q hsh
    refine z_aload_n (pc' := 37) 0 dX9_readText_36 rfl rfl rfl ?_
    refine z_getfield (pc' := 40) (C := RX9) (T := TX9) (N := 20) 1 12 dX9_readText_37 iX9_readText_X9 rfl rfl (by decide) mX9_readText_f81 rfl rfl ?_
    refine z_perm [(a_t, .inr (8, [.int (zi c_t_refusal), .int (zi c_t_high), .int (zi c_t_wide), .ref a_t_now, .ref a_t_trial, .ref a_t_diary, .int (zi c_t_acts), .int (zi c_t_next), .ref a_t_kept, .ref a_t_isKept, .ref a_t_script, .int (zi c_t_scriptSize), .int (zi q10.2), .ref a_t_read, .int (zi c_t_readHigh), .int (zi c_t_readWide), .ref a_t_wanted, .ref a_t_level, .ref a_t_chosen, .ref a_t_best])), (a_t_script, zI J 120 f_t_script), (a_t_read, zI J 243 v9)] [(0, .ref a_t)] [1, 2, 0] [0] rfl rfl rfl ?_
    cases hsh
    exact z_iret rfl dX9_readText_40 ⟨rfl, rfl⟩
def sh_X9_errorPosition (F : Nat) (c_t_scriptSize : Int) (c_t_readHigh : Int) (c_t_readWide : Int) (f_t_script : Nat → Int) (f_t_read : Nat → Int) : Option (Int × Int × Int × Int × Int × (Nat → Int)) := (sh_X9_readText F c_t_scriptSize c_t_readHigh c_t_readWide f_t_script f_t_read).bind (fun (q1 : Int × Int × Int × Int × (Nat → Int)) => some (q1.1, (0 : Int), q1.2.1, q1.2.2.1, q1.2.2.2.1, q1.2.2.2.2))
theorem mX9_errorPosition_f51 : Cond.fieldLink RX9 51 (TX9 0).1 (TX9 0).2.1 (TX9 0).2.2.1 ∈ wsX9_errorPosition := List.mem_of_getElem? (i := 1) rfl
theorem iX9_errorPosition_X9 : ∀ w ∈ wsX90, w ∈ wsX9_errorPosition := fun _ h => (List.mem_cons_of_mem _ (List.mem_append_right _ h))
set_option maxRecDepth 100000 in
set_option maxHeartbeats 4000000 in
theorem zc_X9_errorPosition (l : Launch) (D : va_G) (J : Nat → ClassId) (F : Nat) (a_t : Nat) (a_t_now : Nat) (a_t_trial : Nat) (a_t_diary : Nat) (a_t_kept : Nat) (a_t_isKept : Nat) (a_t_script : Nat) (a_t_read : Nat) (a_t_wanted : Nat) (a_t_level : Nat) (a_t_chosen : Nat) (a_t_best : Nat) (c_t_refusal : Int) (c_t_high : Int) (c_t_wide : Int) (c_t_acts : Int) (c_t_next : Int) (c_t_scriptSize : Int) (c_t_spot : Int) (c_t_readHigh : Int) (c_t_readWide : Int) (f_t_script : Nat → Int) (f_t_read : Nat → Int) (res : Int × Int × Int × Int × Int × (Nat → Int)) (hsh : sh_X9_errorPosition F c_t_scriptSize c_t_readHigh c_t_readWide f_t_script f_t_read = some res) : ZM l D J yX9_errorPosition wsX9_errorPosition ({ frames := 5, cells := 0, slots := 0, locals := 114 } : Room) 0 0 [.ref a_t] [(a_t, .inr (8, [.int (zi c_t_refusal), .int (zi c_t_high), .int (zi c_t_wide), .ref a_t_now, .ref a_t_trial, .ref a_t_diary, .int (zi c_t_acts), .int (zi c_t_next), .ref a_t_kept, .ref a_t_isKept, .ref a_t_script, .int (zi c_t_scriptSize), .int (zi c_t_spot), .ref a_t_read, .int (zi c_t_readHigh), .int (zi c_t_readWide), .ref a_t_wanted, .ref a_t_level, .ref a_t_chosen, .ref a_t_best])), (a_t_script, zI J 120 f_t_script), (a_t_read, zI J 243 f_t_read)] (fun rv w9 => rv = some (.int (zi res.1)) ∧ w9 = [(a_t, .inr (8, [.int (zi res.2.1), .int (zi c_t_high), .int (zi c_t_wide), .ref a_t_now, .ref a_t_trial, .ref a_t_diary, .int (zi c_t_acts), .int (zi c_t_next), .ref a_t_kept, .ref a_t_isKept, .ref a_t_script, .int (zi c_t_scriptSize), .int (zi res.2.2.1), .ref a_t_read, .int (zi res.2.2.2.1), .int (zi res.2.2.2.2.1), .ref a_t_wanted, .ref a_t_level, .ref a_t_chosen, .ref a_t_best])), (a_t_script, zI J 120 f_t_script), (a_t_read, zI J 243 res.2.2.2.2.2)]) := by
  refine z_ofZ (cc := cX9_errorPosition) (maxL := 1) (ret := (some .int)) 0 0 (by decide) rfl (Nat.le_of_ble_eq_true rfl) [(0, .ref a_t)] rfl ?_
  intro p e s m args below meth c A
  unfold sh_X9_errorPosition at hsh
  refine z_aload_n (pc' := 1) 0 dX9_errorPosition_0 rfl rfl rfl ?_
  refine z_iconst (pc' := 2) dX9_errorPosition_1 rfl ?_
  refine z_putfield (pc' := 5) (C := RX9) (T := TX9) (N := 20) (ty := .int) 0 0 [(a_t, .inr (8, [.int (zi (0 : Int)), .int (zi c_t_high), .int (zi c_t_wide), .ref a_t_now, .ref a_t_trial, .ref a_t_diary, .int (zi c_t_acts), .int (zi c_t_next), .ref a_t_kept, .ref a_t_isKept, .ref a_t_script, .int (zi c_t_scriptSize), .int (zi c_t_spot), .ref a_t_read, .int (zi c_t_readHigh), .int (zi c_t_readWide), .ref a_t_wanted, .ref a_t_level, .ref a_t_chosen, .ref a_t_best])), (a_t_script, zI J 120 f_t_script), (a_t_read, zI J 243 f_t_read)] tyX9 tyX9_ok nmX9 dX9_errorPosition_2 iX9_errorPosition_X9 rfl rfl (by decide) mX9_errorPosition_f51 rfl (by decide +kernel) rfl rfl (Nat.le_of_ble_eq_true rfl) rfl rfl rfl ?_
  refine z_aload_n (pc' := 6) 0 dX9_errorPosition_5 rfl rfl rfl ?_
  obtain ⟨q1, h2, hsh⟩ := zbind hsh
  refine z_callV (pc' := 9) (C := RX9) (As := []) (rest := []) (wr := []) 0 (zc_X9_readText l D J F (a_t := a_t) (a_t_now := a_t_now) (a_t_trial := a_t_trial) (a_t_diary := a_t_diary) (a_t_kept := a_t_kept) (a_t_isKept := a_t_isKept) (a_t_script := a_t_script) (a_t_read := a_t_read) (a_t_wanted := a_t_wanted) (a_t_level := a_t_level) (a_t_chosen := a_t_chosen) (a_t_best := a_t_best) (c_t_refusal := (0 : Int)) (c_t_high := c_t_high) (c_t_wide := c_t_wide) (c_t_acts := c_t_acts) (c_t_next := c_t_next) (c_t_scriptSize := c_t_scriptSize) (c_t_spot := c_t_spot) (c_t_readHigh := c_t_readHigh) (c_t_readWide := c_t_readWide) (f_t_script := f_t_script) (f_t_read := f_t_read)  q1 h2) dX9_errorPosition_6 gX9_errorPosition_X9_readText rfl rfl rfl (by decide +kernel) ⟨Nat.le_of_ble_eq_true rfl, Nat.le_of_ble_eq_true rfl⟩ ⟨Nat.le_of_ble_eq_true rfl, Nat.le_of_ble_eq_true rfl⟩ (z_spl_of [0, 1, 2] rfl rfl) rfl rfl rfl rfl (Nat.le_of_ble_eq_true rfl) rfl (fun rv w9 hq => ?_)
  obtain ⟨rfl, rfl⟩ := hq
  refine z_ws [(a_t, .inr (8, [.int (zi (0 : Int)), .int (zi c_t_high), .int (zi c_t_wide), .ref a_t_now, .ref a_t_trial, .ref a_t_diary, .int (zi c_t_acts), .int (zi c_t_next), .ref a_t_kept, .ref a_t_isKept, .ref a_t_script, .int (zi c_t_scriptSize), .int (zi q1.2.1), .ref a_t_read, .int (zi q1.2.2.1), .int (zi q1.2.2.2.1), .ref a_t_wanted, .ref a_t_level, .ref a_t_chosen, .ref a_t_best])), (a_t_script, zI J 120 f_t_script), (a_t_read, zI J 243 q1.2.2.2.2)] rfl ?_
  cases hsh
  exact z_iret rfl dX9_errorPosition_9 ⟨rfl, rfl⟩
def sh_X9_copy_L3 (F : Nat) (n_p0 : Nat) (p1 : Int) (n_p2 : Nat) (p3 : Int) (f_p0 : Nat → Int) (k : Int → (Nat → Int) → Option ((Nat → Int))) : Nat → Int → (Nat → Int) → Option ((Nat → Int))
  | 0, _, _ => none
  | N + 1, v4, v5 => zkr v4 (if v4 < (243 : Int) then zkx (p1 + v4) n_p0 (zkx (p3 + v4) n_p2 (sh_X9_copy_L3 F n_p0 p1 n_p2 p3 f_p0 k N (v4 + (1 : Int)) (va_up v5 ((p3 + v4)).toNat (f_p0 ((p1 + v4)).toNat)))) else k v4 v5)
def sh_X9_copy (F : Nat) (f_p0 : Nat → Int) (f_p2 : Nat → Int) (n_p0 : Nat) (n_p2 : Nat) (p1 : Int) (p3 : Int) : Option ((Nat → Int)) := sh_X9_copy_L3 F n_p0 p1 n_p2 p3 f_p0 (fun (v9 : Int) (v10 : (Nat → Int)) => some (v10)) F (0 : Int) f_p2
set_option maxRecDepth 100000 in
set_option maxHeartbeats 4000000 in
theorem zl_X9_copy_L3 {p : Program} {l : Launch} {e : Env} {s : State} {m : MethodId} {args : Array Value} {below : List Frame} {meth : Method} {c : Code} {A : Nat → Prop} {D : va_G} {J : Nat → ClassId} {F : Nat} {n_p0 : Nat} {p1 : Int} {n_p2 : Nat} {p3 : Int} {f_p0 : Nat → Int} {a_p0 : Nat} {a_p2 : Nat} {res : (Nat → Int)} (hn_p0 : n_p0 ≤ 2147483647) (hn_p2 : n_p2 ≤ 2147483647) {k : Int → (Nat → Int) → Option ((Nat → Int))} (hk : ∀ (v4' : Int) (v5' : (Nat → Int)), k v4' v5' = some res → Z p l e ({ frames := 0, cells := 0, slots := 0, locals := 0 } : Room) s m args below meth c (MQ below (zQ D J A (fun rv w9 => rv = none ∧ w9 = [(a_p0, zI J n_p0 f_p0), (a_p2, zI J n_p2 res)])) args s 0 0 A) cX9_copy 5 wsX9_copy RX9 D J A none (yX9_copy.name, []) 0 0 [(a_p0, zI J n_p0 f_p0), (a_p2, zI J n_p2 v5')] [] 29 []) : ∀ (N : Nat) (v4 : Int) (v5 : (Nat → Int)), sh_X9_copy_L3 F n_p0 p1 n_p2 p3 f_p0 k N v4 v5 = some res → Z p l e ({ frames := 0, cells := 0, slots := 0, locals := 0 } : Room) s m args below meth c (MQ below (zQ D J A (fun rv w9 => rv = none ∧ w9 = [(a_p0, zI J n_p0 f_p0), (a_p2, zI J n_p2 res)])) args s 0 0 A) cX9_copy 5 wsX9_copy RX9 D J A none (yX9_copy.name, []) 0 0 [(a_p0, zI J n_p0 f_p0), (a_p2, zI J n_p2 v5)] [(0, .ref a_p0), (1, .int (zi p1)), (2, .ref a_p2), (3, .int (zi p3)), (4, .int (zi v4))] 3 [] := by
  intro N
  induction N with
  | zero =>
    intro v4 v5 hsh
    exact absurd hsh (by simp [sh_X9_copy_L3])
  | succ N ih =>
    intro v4 v5 hsh
    rw [sh_X9_copy_L3] at hsh
    refine z_iload (pc' := 5) 4 dX9_copy_3 rfl rfl ?_
    refine z_sipush (pc' := 8) dX9_copy_5 (by decide) rfl ?_
    have g6 := zkr_p hsh
    replace hsh := zkr_k hsh
    refine z_icmp_ge (pc' := 11) (tgt := 29) dX9_copy_8 (by decide) g6 (by decide) rfl (fun q => ?_) (fun q => ?_)
    · replace hsh := zif_f q hsh
      refine z_perm [(a_p0, zI J n_p0 f_p0), (a_p2, zI J n_p2 v5)] [] [0, 1] [] rfl rfl rfl ?_
      exact hk _ _ hsh
    · replace hsh := zif_t q hsh
      refine z_aload_n (pc' := 12) 2 dX9_copy_11 rfl rfl rfl ?_
      refine z_iload_n (pc' := 13) 3 dX9_copy_12 rfl rfl rfl ?_
      refine z_iload (pc' := 15) 4 dX9_copy_13 rfl rfl ?_
      refine z_iadd (pc' := 16) dX9_copy_15 rfl ?_
      refine z_aload_n (pc' := 17) 0 dX9_copy_16 rfl rfl rfl ?_
      refine z_iload_n (pc' := 18) 1 dX9_copy_17 rfl rfl rfl ?_
      refine z_iload (pc' := 20) 4 dX9_copy_18 rfl rfl ?_
      refine z_iadd (pc' := 21) dX9_copy_20 rfl ?_
      have g7 := zkx_p hsh
      replace hsh := zkx_k hsh
      refine z_iaload (pc' := 22) 0 dX9_copy_21 rfl hn_p0 g7 rfl ?_
      have g8 := zkx_p hsh
      replace hsh := zkx_k hsh
      refine z_iastore (pc' := 23) 1 [(a_p0, zI J n_p0 f_p0), (a_p2, zI J n_p2 (va_up v5 ((p3 + v4)).toNat (f_p0 ((p1 + v4)).toNat)))] dX9_copy_22 rfl hn_p2 g8 rfl rfl ?_
      refine z_iinc (pc' := 26) [(4, .int (zi (v4 + (1 : Int)))), (0, .ref a_p0), (1, .int (zi p1)), (2, .ref a_p2), (3, .int (zi p3))] 4 dX9_copy_23 rfl (by decide) rfl rfl ?_
      refine z_goto (tgt := 3) dX9_copy_26 (by decide) ?_
      refine z_perm [(a_p0, zI J n_p0 f_p0), (a_p2, zI J n_p2 (va_up v5 ((p3 + v4)).toNat (f_p0 ((p1 + v4)).toNat)))] [(0, .ref a_p0), (1, .int (zi p1)), (2, .ref a_p2), (3, .int (zi p3)), (4, .int (zi (v4 + (1 : Int))))] [0, 1] [1, 2, 3, 4, 0] rfl rfl rfl ?_
      exact ih _ _ hsh
set_option maxRecDepth 100000 in
set_option maxHeartbeats 4000000 in
theorem zc_X9_copy (l : Launch) (D : va_G) (J : Nat → ClassId) (F : Nat) (a_p0 : Nat) (a_p2 : Nat) (f_p0 : Nat → Int) (f_p2 : Nat → Int) (n_p0 : Nat) (n_p2 : Nat) (p1 : Int) (p3 : Int) (hn_p0 : n_p0 ≤ 2147483647) (hn_p2 : n_p2 ≤ 2147483647) (res : (Nat → Int)) (hsh : sh_X9_copy F f_p0 f_p2 n_p0 n_p2 p1 p3 = some res) : ZM l D J yX9_copy wsX9_copy ({ frames := 0, cells := 0, slots := 0, locals := 0 } : Room) 0 0 [.ref a_p0, .int (zi p1), .ref a_p2, .int (zi p3)] [(a_p0, zI J n_p0 f_p0), (a_p2, zI J n_p2 f_p2)] (fun rv w9 => rv = none ∧ w9 = [(a_p0, zI J n_p0 f_p0), (a_p2, zI J n_p2 res)]) := by
  refine z_ofZ (cc := cX9_copy) (maxL := 5) (ret := none) 0 0 (by decide) rfl (Nat.le_of_ble_eq_true rfl) [(0, .ref a_p0), (1, .int (zi p1)), (2, .ref a_p2), (3, .int (zi p3))] rfl ?_
  intro p e s m args below meth c A
  unfold sh_X9_copy at hsh
  refine z_iconst (pc' := 1) dX9_copy_0 rfl ?_
  refine z_istore (pc' := 3) [(4, .int (zi (0 : Int))), (0, .ref a_p0), (1, .int (zi p1)), (2, .ref a_p2), (3, .int (zi p3))] dX9_copy_1 (by decide) rfl rfl ?_
  refine z_perm [(a_p0, zI J n_p0 f_p0), (a_p2, zI J n_p2 f_p2)] [(0, .ref a_p0), (1, .int (zi p1)), (2, .ref a_p2), (3, .int (zi p3)), (4, .int (zi (0 : Int)))] [0, 1] [1, 2, 3, 4, 0] rfl rfl rfl ?_
  refine zl_X9_copy_L3 (F := F) (hn_p0 := hn_p0) (hn_p2 := hn_p2) (hk := fun v9 v10 hsh => ?_) _ _ _ hsh
  cases hsh
  exact z_vret rfl dX9_copy_29 ⟨rfl, rfl⟩
def sh_X9_copy_p0p2_L3 (F : Nat) (n_p0 : Nat) (p1 : Int) (p3 : Int) (k : Int → (Nat → Int) → Option ((Nat → Int))) : Nat → Int → (Nat → Int) → Option ((Nat → Int))
  | 0, _, _ => none
  | N + 1, v4, v5 => zkr v4 (if v4 < (243 : Int) then zkx (p1 + v4) n_p0 (zkx (p3 + v4) n_p0 (sh_X9_copy_p0p2_L3 F n_p0 p1 p3 k N (v4 + (1 : Int)) (va_up v5 ((p3 + v4)).toNat (v5 ((p1 + v4)).toNat)))) else k v4 v5)
def sh_X9_copy_p0p2 (F : Nat) (f_p0 : Nat → Int) (n_p0 : Nat) (p1 : Int) (p3 : Int) : Option ((Nat → Int)) := sh_X9_copy_p0p2_L3 F n_p0 p1 p3 (fun (v9 : Int) (v10 : (Nat → Int)) => some (v10)) F (0 : Int) f_p0
set_option maxRecDepth 100000 in
set_option maxHeartbeats 4000000 in
theorem zl_X9_copy_p0p2_L3 {p : Program} {l : Launch} {e : Env} {s : State} {m : MethodId} {args : Array Value} {below : List Frame} {meth : Method} {c : Code} {A : Nat → Prop} {D : va_G} {J : Nat → ClassId} {F : Nat} {n_p0 : Nat} {p1 : Int} {p3 : Int} {a_p0 : Nat} {res : (Nat → Int)} (hn_p0 : n_p0 ≤ 2147483647) {k : Int → (Nat → Int) → Option ((Nat → Int))} (hk : ∀ (v4' : Int) (v5' : (Nat → Int)), k v4' v5' = some res → Z p l e ({ frames := 0, cells := 0, slots := 0, locals := 0 } : Room) s m args below meth c (MQ below (zQ D J A (fun rv w9 => rv = none ∧ w9 = [(a_p0, zI J n_p0 res)])) args s 0 0 A) cX9_copy 5 wsX9_copy RX9 D J A none (yX9_copy.name, []) 0 0 [(a_p0, zI J n_p0 v5')] [] 29 []) : ∀ (N : Nat) (v4 : Int) (v5 : (Nat → Int)), sh_X9_copy_p0p2_L3 F n_p0 p1 p3 k N v4 v5 = some res → Z p l e ({ frames := 0, cells := 0, slots := 0, locals := 0 } : Room) s m args below meth c (MQ below (zQ D J A (fun rv w9 => rv = none ∧ w9 = [(a_p0, zI J n_p0 res)])) args s 0 0 A) cX9_copy 5 wsX9_copy RX9 D J A none (yX9_copy.name, []) 0 0 [(a_p0, zI J n_p0 v5)] [(0, .ref a_p0), (1, .int (zi p1)), (2, .ref a_p0), (3, .int (zi p3)), (4, .int (zi v4))] 3 [] := by
  intro N
  induction N with
  | zero =>
    intro v4 v5 hsh
    exact absurd hsh (by simp [sh_X9_copy_p0p2_L3])
  | succ N ih =>
    intro v4 v5 hsh
    rw [sh_X9_copy_p0p2_L3] at hsh
    refine z_iload (pc' := 5) 4 dX9_copy_3 rfl rfl ?_
    refine z_sipush (pc' := 8) dX9_copy_5 (by decide) rfl ?_
    have g6 := zkr_p hsh
    replace hsh := zkr_k hsh
    refine z_icmp_ge (pc' := 11) (tgt := 29) dX9_copy_8 (by decide) g6 (by decide) rfl (fun q => ?_) (fun q => ?_)
    · replace hsh := zif_f q hsh
      refine z_perm [(a_p0, zI J n_p0 v5)] [] [0] [] rfl rfl rfl ?_
      exact hk _ _ hsh
    · replace hsh := zif_t q hsh
      refine z_aload_n (pc' := 12) 2 dX9_copy_11 rfl rfl rfl ?_
      refine z_iload_n (pc' := 13) 3 dX9_copy_12 rfl rfl rfl ?_
      refine z_iload (pc' := 15) 4 dX9_copy_13 rfl rfl ?_
      refine z_iadd (pc' := 16) dX9_copy_15 rfl ?_
      refine z_aload_n (pc' := 17) 0 dX9_copy_16 rfl rfl rfl ?_
      refine z_iload_n (pc' := 18) 1 dX9_copy_17 rfl rfl rfl ?_
      refine z_iload (pc' := 20) 4 dX9_copy_18 rfl rfl ?_
      refine z_iadd (pc' := 21) dX9_copy_20 rfl ?_
      have g7 := zkx_p hsh
      replace hsh := zkx_k hsh
      refine z_iaload (pc' := 22) 0 dX9_copy_21 rfl hn_p0 g7 rfl ?_
      have g8 := zkx_p hsh
      replace hsh := zkx_k hsh
      refine z_iastore (pc' := 23) 0 [(a_p0, zI J n_p0 (va_up v5 ((p3 + v4)).toNat (v5 ((p1 + v4)).toNat)))] dX9_copy_22 rfl hn_p0 g8 rfl rfl ?_
      refine z_iinc (pc' := 26) [(4, .int (zi (v4 + (1 : Int)))), (0, .ref a_p0), (1, .int (zi p1)), (2, .ref a_p0), (3, .int (zi p3))] 4 dX9_copy_23 rfl (by decide) rfl rfl ?_
      refine z_goto (tgt := 3) dX9_copy_26 (by decide) ?_
      refine z_perm [(a_p0, zI J n_p0 (va_up v5 ((p3 + v4)).toNat (v5 ((p1 + v4)).toNat)))] [(0, .ref a_p0), (1, .int (zi p1)), (2, .ref a_p0), (3, .int (zi p3)), (4, .int (zi (v4 + (1 : Int))))] [0] [1, 2, 3, 4, 0] rfl rfl rfl ?_
      exact ih _ _ hsh
set_option maxRecDepth 100000 in
set_option maxHeartbeats 4000000 in
theorem zc_X9_copy_p0p2 (l : Launch) (D : va_G) (J : Nat → ClassId) (F : Nat) (a_p0 : Nat) (f_p0 : Nat → Int) (n_p0 : Nat) (p1 : Int) (p3 : Int) (hn_p0 : n_p0 ≤ 2147483647) (res : (Nat → Int)) (hsh : sh_X9_copy_p0p2 F f_p0 n_p0 p1 p3 = some res) : ZM l D J yX9_copy wsX9_copy ({ frames := 0, cells := 0, slots := 0, locals := 0 } : Room) 0 0 [.ref a_p0, .int (zi p1), .ref a_p0, .int (zi p3)] [(a_p0, zI J n_p0 f_p0)] (fun rv w9 => rv = none ∧ w9 = [(a_p0, zI J n_p0 res)]) := by
  refine z_ofZ (cc := cX9_copy) (maxL := 5) (ret := none) 0 0 (by decide) rfl (Nat.le_of_ble_eq_true rfl) [(0, .ref a_p0), (1, .int (zi p1)), (2, .ref a_p0), (3, .int (zi p3))] rfl ?_
  intro p e s m args below meth c A
  unfold sh_X9_copy_p0p2 at hsh
  refine z_iconst (pc' := 1) dX9_copy_0 rfl ?_
  refine z_istore (pc' := 3) [(4, .int (zi (0 : Int))), (0, .ref a_p0), (1, .int (zi p1)), (2, .ref a_p0), (3, .int (zi p3))] dX9_copy_1 (by decide) rfl rfl ?_
  refine z_perm [(a_p0, zI J n_p0 f_p0)] [(0, .ref a_p0), (1, .int (zi p1)), (2, .ref a_p0), (3, .int (zi p3)), (4, .int (zi (0 : Int)))] [0] [1, 2, 3, 4, 0] rfl rfl rfl ?_
  refine zl_X9_copy_p0p2_L3 (F := F) (hn_p0 := hn_p0) (hk := fun v9 v10 hsh => ?_) _ _ _ hsh
  cases hsh
  exact z_vret rfl dX9_copy_29 ⟨rfl, rfl⟩
