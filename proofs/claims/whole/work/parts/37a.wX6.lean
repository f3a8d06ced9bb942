def sh_X6_init (F : Nat) : Option (Unit) := some (())
theorem mX6_init_oi : Cond.methodLink RX6 3 objectInit ∈ wsX6_init := List.mem_of_getElem? (i := 1) rfl
theorem mX6_init_oim : Cond.instanceMethod objectInit ∈ wsX6_init := List.mem_of_getElem? (i := 2) rfl
theorem mX6_init_oic : Cond.code objectInit ⟨#[0xb1]⟩ 1 none ∈ wsX6_init := List.mem_of_getElem? (i := 3) rfl
theorem mX6_init_aint : Cond.arrayClass .int ∈ wsX6_init := List.mem_of_getElem? (i := 4) rfl
theorem mX6_init_f9 : Cond.fieldLink RX6 9 (TX6 0).1 (TX6 0).2.1 (TX6 0).2.2.1 ∈ wsX6_init := List.mem_of_getElem? (i := 5) rfl
theorem iX6_init_X6 : ∀ w ∈ wsX60, w ∈ wsX6_init := fun _ h => (List.mem_cons_of_mem _ (List.mem_append_right _ h))
theorem mX6_init_f15 : Cond.fieldLink RX6 15 (TX6 1).1 (TX6 1).2.1 (TX6 1).2.2.1 ∈ wsX6_init := List.mem_of_getElem? (i := 6) rfl
theorem mX6_init_f18 : Cond.fieldLink RX6 18 (TX6 2).1 (TX6 2).2.1 (TX6 2).2.2.1 ∈ wsX6_init := List.mem_of_getElem? (i := 7) rfl
theorem mX6_init_f21 : Cond.fieldLink RX6 21 (TX6 3).1 (TX6 3).2.1 (TX6 3).2.2.1 ∈ wsX6_init := List.mem_of_getElem? (i := 8) rfl
theorem mX6_init_f24 : Cond.fieldLink RX6 24 (TX6 4).1 (TX6 4).2.1 (TX6 4).2.2.1 ∈ wsX6_init := List.mem_of_getElem? (i := 9) rfl
theorem mX6_init_f27 : Cond.fieldLink RX6 27 (TX6 5).1 (TX6 5).2.1 (TX6 5).2.2.1 ∈ wsX6_init := List.mem_of_getElem? (i := 10) rfl
set_option maxRecDepth 100000 in
set_option maxHeartbeats 4000000 in
theorem zc_X6_init (l : Launch) (D : va_G) (J : Nat → ClassId) (F : Nat) (a_t : Nat) (res : Unit) (hsh : sh_X6_init F = some res) : ZM l D J yX6_init wsX6_init ({ frames := 1, cells := 6, slots := 108, locals := 20 } : Room) 6 108 [.ref a_t] [(a_t, .inr (5, [.null, .null, .null, .null, .null, .null, .int (zi (0 : Int)), .int (zi (0 : Int)), .int (zi (0 : Int))]))] (fun rv w9 => rv = none ∧ ∃ a_t_ahead a_t_drawn a_t_taken a_t_mostFromStep a_t_trial a_t_best : Nat, w9 = [(a_t, .inr (5, [.ref a_t_ahead, .ref a_t_drawn, .ref a_t_taken, .ref a_t_mostFromStep, .ref a_t_trial, .ref a_t_best, .int (zi (0 : Int)), .int (zi (0 : Int)), .int (zi (0 : Int))])), (a_t_ahead, zI J 64 (fun _ => 0)), (a_t_drawn, zI J 16 (fun _ => 0)), (a_t_taken, zI J 16 (fun _ => 0)), (a_t_mostFromStep, zI J 4 (fun _ => 0)), (a_t_trial, zI J 4 (fun _ => 0)), (a_t_best, zI J 4 (fun _ => 0))]) := by
  refine z_ofZ (cc := cX6_init) (maxL := 1) (ret := none) 6 108 (by decide) rfl (Nat.le_of_ble_eq_true rfl) [(0, .ref a_t)] rfl ?_
  intro p e s m args below meth c A
  unfold sh_X6_init at hsh
  refine z_aload_n (pc' := 1) 0 dX6_init_0 rfl rfl rfl ?_
  refine z_objInit (pc' := 4) dX6_init_1 mX6_init_oi mX6_init_oim mX6_init_oic (Nat.le_of_ble_eq_true rfl) (Nat.le_of_ble_eq_true rfl) rfl ?_
  refine z_aload_n (pc' := 5) 0 dX6_init_4 rfl rfl rfl ?_
  refine z_bipush (pc' := 7) dX6_init_5 (by decide) rfl ?_
  refine z_newarr_int (pc' := 9) 64 1 64 dX6_init_7 mX6_init_aint rfl (by decide) rfl rfl (Nat.le_of_ble_eq_true rfl) (Nat.le_of_ble_eq_true rfl) rfl (fun b1 => ?_)
  refine z_ws [(a_t, .inr (5, [.null, .null, .null, .null, .null, .null, .int (zi (0 : Int)), .int (zi (0 : Int)), .int (zi (0 : Int))])), (b1, zI J 64 (fun _ => 0))] rfl ?_
  refine z_putfin (pc' := 12) (C := RX6) (T := TX6) (N := 9) (ty := tyX6 0) 0 0 [(a_t, .inr (5, [.ref b1, .null, .null, .null, .null, .null, .int (zi (0 : Int)), .int (zi (0 : Int)), .int (zi (0 : Int))])), (b1, zI J 64 (fun _ => 0))] tyX6 tyX6_ok nmX6 dX6_init_9 iX6_init_X6 rfl rfl (by decide) mX6_init_f9 rfl rfl rfl (tyX6_ok 0 (by decide)) rfl rfl (Nat.le_of_ble_eq_true rfl) rfl rfl ?_
  refine z_aload_n (pc' := 13) 0 dX6_init_12 rfl rfl rfl ?_
  refine z_bipush (pc' := 15) dX6_init_13 (by decide) rfl ?_
  refine z_newarr_int (pc' := 17) 16 2 80 dX6_init_15 mX6_init_aint rfl (by decide) rfl rfl (Nat.le_of_ble_eq_true rfl) (Nat.le_of_ble_eq_true rfl) rfl (fun b2 => ?_)
  refine z_ws [(a_t, .inr (5, [.ref b1, .null, .null, .null, .null, .null, .int (zi (0 : Int)), .int (zi (0 : Int)), .int (zi (0 : Int))])), (b1, zI J 64 (fun _ => 0)), (b2, zI J 16 (fun _ => 0))] rfl ?_
  refine z_putfin (pc' := 20) (C := RX6) (T := TX6) (N := 9) (ty := tyX6 1) 0 1 [(a_t, .inr (5, [.ref b1, .ref b2, .null, .null, .null, .null, .int (zi (0 : Int)), .int (zi (0 : Int)), .int (zi (0 : Int))])), (b1, zI J 64 (fun _ => 0)), (b2, zI J 16 (fun _ => 0))] tyX6 tyX6_ok nmX6 dX6_init_17 iX6_init_X6 rfl rfl (by decide) mX6_init_f15 rfl rfl rfl (tyX6_ok 1 (by decide)) rfl rfl (Nat.le_of_ble_eq_true rfl) rfl rfl ?_
  refine z_aload_n (pc' := 21) 0 dX6_init_20 rfl rfl rfl ?_
  refine z_bipush (pc' := 23) dX6_init_21 (by decide) rfl ?_
  refine z_newarr_int (pc' := 25) 16 3 96 dX6_init_23 mX6_init_aint rfl (by decide) rfl rfl (Nat.le_of_ble_eq_true rfl) (Nat.le_of_ble_eq_true rfl) rfl (fun b3 => ?_)
  refine z_ws [(a_t, .inr (5, [.ref b1, .ref b2, .null, .null, .null, .null, .int (zi (0 : Int)), .int (zi (0 : Int)), .int (zi (0 : Int))])), (b1, zI J 64 (fun _ => 0)), (b2, zI J 16 (fun _ => 0)), (b3, zI J 16 (fun _ => 0))] rfl ?_
  refine z_putfin (pc' := 28) (C := RX6) (T := TX6) (N := 9) (ty := tyX6 2) 0 2 [(a_t, .inr (5, [.ref b1, .ref b2, .ref b3, .null, .null, .null, .int (zi (0 : Int)), .int (zi (0 : Int)), .int (zi (0 : Int))])), (b1, zI J 64 (fun _ => 0)), (b2, zI J 16 (fun _ => 0)), (b3, zI J 16 (fun _ => 0))] tyX6 tyX6_ok nmX6 dX6_init_25 iX6_init_X6 rfl rfl (by decide) mX6_init_f18 rfl rfl rfl (tyX6_ok 2 (by decide)) rfl rfl (Nat.le_of_ble_eq_true rfl) rfl rfl ?_
  refine z_aload_n (pc' := 29) 0 dX6_init_28 rfl rfl rfl ?_
  refine z_iconst (pc' := 30) dX6_init_29 rfl ?_
  refine z_newarr_int (pc' := 32) 4 4 100 dX6_init_30 mX6_init_aint rfl (by decide) rfl rfl (Nat.le_of_ble_eq_true rfl) (Nat.le_of_ble_eq_true rfl) rfl (fun b4 => ?_)
  refine z_ws [(a_t, .inr (5, [.ref b1, .ref b2, .ref b3, .null, .null, .null, .int (zi (0 : Int)), .int (zi (0 : Int)), .int (zi (0 : Int))])), (b1, zI J 64 (fun _ => 0)), (b2, zI J 16 (fun _ => 0)), (b3, zI J 16 (fun _ => 0)), (b4, zI J 4 (fun _ => 0))] rfl ?_
  refine z_putfin (pc' := 35) (C := RX6) (T := TX6) (N := 9) (ty := tyX6 3) 0 3 [(a_t, .inr (5, [.ref b1, .ref b2, .ref b3, .ref b4, .null, .null, .int (zi (0 : Int)), .int (zi (0 : Int)), .int (zi (0 : Int))])), (b1, zI J 64 (fun _ => 0)), (b2, zI J 16 (fun _ => 0)), (b3, zI J 16 (fun _ => 0)), (b4, zI J 4 (fun _ => 0))] tyX6 tyX6_ok nmX6 dX6_init_32 iX6_init_X6 rfl rfl (by decide) mX6_init_f21 rfl rfl rfl (tyX6_ok 3 (by decide)) rfl rfl (Nat.le_of_ble_eq_true rfl) rfl rfl ?_
  refine z_aload_n (pc' := 36) 0 dX6_init_35 rfl rfl rfl ?_
  refine z_iconst (pc' := 37) dX6_init_36 rfl ?_
  refine z_newarr_int (pc' := 39) 4 5 104 dX6_init_37 mX6_init_aint rfl (by decide) rfl rfl (Nat.le_of_ble_eq_true rfl) (Nat.le_of_ble_eq_true rfl) rfl (fun b5 => ?_)
  refine z_ws [(a_t, .inr (5, [.ref b1, .ref b2, .ref b3, .ref b4, .null, .null, .int (zi (0 : Int)), .int (zi (0 : Int)), .int (zi (0 : Int))])), (b1, zI J 64 (fun _ => 0)), (b2, zI J 16 (fun _ => 0)), (b3, zI J 16 (fun _ => 0)), (b4, zI J 4 (fun _ => 0)), (b5, zI J 4 (fun _ => 0))] rfl ?_
  refine z_putfin (pc' := 42) (C := RX6) (T := TX6) (N := 9) (ty := tyX6 4) 0 4 [(a_t, .inr (5, [.ref b1, .ref b2, .ref b3, .ref b4, .ref b5, .null, .int (zi (0 : Int)), .int (zi (0 : Int)), .int (zi (0 : Int))])), (b1, zI J 64 (fun _ => 0)), (b2, zI J 16 (fun _ => 0)), (b3, zI J 16 (fun _ => 0)), (b4, zI J 4 (fun _ => 0)), (b5, zI J 4 (fun _ => 0))] tyX6 tyX6_ok nmX6 dX6_init_39 iX6_init_X6 rfl rfl (by decide) mX6_init_f24 rfl rfl rfl (tyX6_ok 4 (by decide)) rfl rfl (Nat.le_of_ble_eq_true rfl) rfl rfl ?_
  refine z_aload_n (pc' := 43) 0 dX6_init_42 rfl rfl rfl ?_
  refine z_iconst (pc' := 44) dX6_init_43 rfl ?_
  refine z_newarr_int (pc' := 46) 4 6 108 dX6_init_44 mX6_init_aint rfl (by decide) rfl rfl (Nat.le_of_ble_eq_true rfl) (Nat.le_of_ble_eq_true rfl) rfl (fun b6 => ?_)
  refine z_ws [(a_t, .inr (5, [.ref b1, .ref b2, .ref b3, .ref b4, .ref b5, .null, .int (zi (0 : Int)), .int (zi (0 : Int)), .int (zi (0 : Int))])), (b1, zI J 64 (fun _ => 0)), (b2, zI J 16 (fun _ => 0)), (b3, zI J 16 (fun _ => 0)), (b4, zI J 4 (fun _ => 0)), (b5, zI J 4 (fun _ => 0)), (b6, zI J 4 (fun _ => 0))] rfl ?_
  refine z_putfin (pc' := 49) (C := RX6) (T := TX6) (N := 9) (ty := tyX6 5) 0 5 [(a_t, .inr (5, [.ref b1, .ref b2, .ref b3, .ref b4, .ref b5, .ref b6, .int (zi (0 : Int)), .int (zi (0 : Int)), .int (zi (0 : Int))])), (b1, zI J 64 (fun _ => 0)), (b2, zI J 16 (fun _ => 0)), (b3, zI J 16 (fun _ => 0)), (b4, zI J 4 (fun _ => 0)), (b5, zI J 4 (fun _ => 0)), (b6, zI J 4 (fun _ => 0))] tyX6 tyX6_ok nmX6 dX6_init_46 iX6_init_X6 rfl rfl (by decide) mX6_init_f27 rfl rfl rfl (tyX6_ok 5 (by decide)) rfl rfl (Nat.le_of_ble_eq_true rfl) rfl rfl ?_
  cases hsh
  exact z_vret rfl dX6_init_49 ⟨rfl, b1, b2, b3, b4, b5, b6, rfl⟩
def sh_X6_lookAhead_L20 (F : Nat) (p1 : Int) (c_p0_hungSet : Int) (f_p0_buckets : Nat → Int) (f_p0_grades : Nat → Int) (f_p0_heights : Nat → Int) (k : Int → (Nat → Int) → Option ((Nat → Int) × (Nat → Int) × (Nat → Int))) : Nat → Int → (Nat → Int) → Option ((Nat → Int) × (Nat → Int) × (Nat → Int))
  | 0, _, _ => none
  | N + 1, v7, v8 => zkr v7 (if v7 < (4 : Int) then (sh_X0_hangs F c_p0_hungSet p1).bind (fun (q10 : Int) => zkr q10 (if q10 = (0 : Int) then (sh_X0_gradeOf F f_p0_buckets f_p0_grades f_p0_heights p1 v7).bind (fun (q13 : Int) => zkx ((p1 * (4 : Int)) + v7) 64 (sh_X6_lookAhead_L20 F p1 c_p0_hungSet f_p0_buckets f_p0_grades f_p0_heights k N (v7 + (1 : Int)) (va_up v8 (((p1 * (4 : Int)) + v7)).toNat q13))) else zkx ((p1 * (4 : Int)) + v7) 64 (sh_X6_lookAhead_L20 F p1 c_p0_hungSet f_p0_buckets f_p0_grades f_p0_heights k N (v7 + (1 : Int)) (va_up v8 (((p1 * (4 : Int)) + v7)).toNat (-9 : Int))))) else k v7 v8)
def sh_X6_lookAhead (F : Nat) (f_t_ahead : Nat → Int) (f_t_drawn : Nat → Int) (f_t_taken : Nat → Int) (c_p0_hungSet : Int) (f_p0_buckets : Nat → Int) (f_p0_grades : Nat → Int) (f_p0_heights : Nat → Int) (f_p0_drawn : Nat → Int) (p1 : Int) : Option ((Nat → Int) × (Nat → Int) × (Nat → Int)) := (sh_X0_drawnFrom F f_p0_drawn p1).bind (fun (q1 : Int) => zkx p1 16 (sh_X6_lookAhead_L20 F p1 c_p0_hungSet f_p0_buckets f_p0_grades f_p0_heights (fun (v17 : Int) (v18 : (Nat → Int)) => some (v18, (va_up f_t_drawn (p1).toNat q1), (va_up f_t_taken (p1).toNat (0 : Int)))) F (0 : Int) f_t_ahead))
theorem mX6_lookAhead_f15 : Cond.fieldLink RX6 15 (TX6 1).1 (TX6 1).2.1 (TX6 1).2.2.1 ∈ wsX6_lookAhead := List.mem_of_getElem? (i := 1) rfl
theorem iX6_lookAhead_X6 : ∀ w ∈ wsX60, w ∈ wsX6_lookAhead := fun _ h => (List.mem_cons_of_mem _ (List.mem_append_left _ (List.mem_append_right _ h)))
theorem mX6_lookAhead_f18 : Cond.fieldLink RX6 18 (TX6 2).1 (TX6 2).2.1 (TX6 2).2.2.1 ∈ wsX6_lookAhead := List.mem_of_getElem? (i := 2) rfl
theorem mX6_lookAhead_f9 : Cond.fieldLink RX6 9 (TX6 0).1 (TX6 0).2.1 (TX6 0).2.2.1 ∈ wsX6_lookAhead := List.mem_of_getElem? (i := 3) rfl
set_option maxRecDepth 100000 in
set_option maxHeartbeats 4000000 in
theorem zl_X6_lookAhead_L20 {p : Program} {l : Launch} {e : Env} {s : State} {m : MethodId} {args : Array Value} {below : List Frame} {meth : Method} {c : Code} {A : Nat → Prop} {D : va_G} {J : Nat → ClassId} {F : Nat} {p1 : Int} {c_p0_hungSet : Int} {f_p0_buckets : Nat → Int} {f_p0_grades : Nat → Int} {f_p0_heights : Nat → Int} {a_t : Nat} {a_t_ahead : Nat} {a_t_drawn : Nat} {a_t_taken : Nat} {a_t_mostFromStep : Nat} {a_t_trial : Nat} {a_t_best : Nat} {c_t_length : Int} {c_t_limit : Int} {c_t_bestSum : Int} {f_t_drawn : Nat → Int} {q1 : Int} {f_t_taken : Nat → Int} {a_p0 : Nat} {a_p0_buckets : Nat} {a_p0_grades : Nat} {a_p0_heights : Nat} {a_p0_drawn : Nat} {c_p0_limit : Int} {c_p0_bucketSum : Int} {c_p0_gradeSum : Int} {f_p0_drawn : Nat → Int} {res : (Nat → Int) × (Nat → Int) × (Nat → Int)} {k : Int → (Nat → Int) → Option ((Nat → Int) × (Nat → Int) × (Nat → Int))} (hk : ∀ (v7' : Int) (v8' : (Nat → Int)), k v7' v8' = some res → Z p l e ({ frames := 1, cells := 0, slots := 0, locals := 24 } : Room) s m args below meth c (MQ below (zQ D J A (fun rv w9 => rv = none ∧ w9 = [(a_t, .inr (5, [.ref a_t_ahead, .ref a_t_drawn, .ref a_t_taken, .ref a_t_mostFromStep, .ref a_t_trial, .ref a_t_best, .int (zi c_t_length), .int (zi c_t_limit), .int (zi c_t_bestSum)])), (a_t_ahead, zI J 64 res.1), (a_t_drawn, zI J 16 res.2.1), (a_t_taken, zI J 16 res.2.2), (a_p0, .inr (0, [.ref a_p0_buckets, .ref a_p0_grades, .ref a_p0_heights, .ref a_p0_drawn, .int (zi c_p0_limit), .int (zi c_p0_hungSet), .int (zi c_p0_bucketSum), .int (zi c_p0_gradeSum)])), (a_p0_buckets, zI J 96 f_p0_buckets), (a_p0_grades, zI J 96 f_p0_grades), (a_p0_heights, zI J 16 f_p0_heights), (a_p0_drawn, zI J 16 f_p0_drawn)])) args s 0 0 A) cX6_lookAhead 4 wsX6_lookAhead RX6 D J A none (yX6_lookAhead.name, []) 0 0 [(a_t, .inr (5, [.ref a_t_ahead, .ref a_t_drawn, .ref a_t_taken, .ref a_t_mostFromStep, .ref a_t_trial, .ref a_t_best, .int (zi c_t_length), .int (zi c_t_limit), .int (zi c_t_bestSum)])), (a_t_ahead, zI J 64 v8'), (a_t_drawn, zI J 16 (va_up f_t_drawn (p1).toNat q1)), (a_t_taken, zI J 16 (va_up f_t_taken (p1).toNat (0 : Int))), (a_p0, .inr (0, [.ref a_p0_buckets, .ref a_p0_grades, .ref a_p0_heights, .ref a_p0_drawn, .int (zi c_p0_limit), .int (zi c_p0_hungSet), .int (zi c_p0_bucketSum), .int (zi c_p0_gradeSum)])), (a_p0_buckets, zI J 96 f_p0_buckets), (a_p0_grades, zI J 96 f_p0_grades), (a_p0_heights, zI J 16 f_p0_heights), (a_p0_drawn, zI J 16 f_p0_drawn)] [] 60 []) : ∀ (N : Nat) (v7 : Int) (v8 : (Nat → Int)), sh_X6_lookAhead_L20 F p1 c_p0_hungSet f_p0_buckets f_p0_grades f_p0_heights k N v7 v8 = some res → Z p l e ({ frames := 1, cells := 0, slots := 0, locals := 24 } : Room) s m args below meth c (MQ below (zQ D J A (fun rv w9 => rv = none ∧ w9 = [(a_t, .inr (5, [.ref a_t_ahead, .ref a_t_drawn, .ref a_t_taken, .ref a_t_mostFromStep, .ref a_t_trial, .ref a_t_best, .int (zi c_t_length), .int (zi c_t_limit), .int (zi c_t_bestSum)])), (a_t_ahead, zI J 64 res.1), (a_t_drawn, zI J 16 res.2.1), (a_t_taken, zI J 16 res.2.2), (a_p0, .inr (0, [.ref a_p0_buckets, .ref a_p0_grades, .ref a_p0_heights, .ref a_p0_drawn, .int (zi c_p0_limit), .int (zi c_p0_hungSet), .int (zi c_p0_bucketSum), .int (zi c_p0_gradeSum)])), (a_p0_buckets, zI J 96 f_p0_buckets), (a_p0_grades, zI J 96 f_p0_grades), (a_p0_heights, zI J 16 f_p0_heights), (a_p0_drawn, zI J 16 f_p0_drawn)])) args s 0 0 A) cX6_lookAhead 4 wsX6_lookAhead RX6 D J A none (yX6_lookAhead.name, []) 0 0 [(a_t, .inr (5, [.ref a_t_ahead, .ref a_t_drawn, .ref a_t_taken, .ref a_t_mostFromStep, .ref a_t_trial, .ref a_t_best, .int (zi c_t_length), .int (zi c_t_limit), .int (zi c_t_bestSum)])), (a_t_ahead, zI J 64 v8), (a_t_drawn, zI J 16 (va_up f_t_drawn (p1).toNat q1)), (a_t_taken, zI J 16 (va_up f_t_taken (p1).toNat (0 : Int))), (a_p0, .inr (0, [.ref a_p0_buckets, .ref a_p0_grades, .ref a_p0_heights, .ref a_p0_drawn, .int (zi c_p0_limit), .int (zi c_p0_hungSet), .int (zi c_p0_bucketSum), .int (zi c_p0_gradeSum)])), (a_p0_buckets, zI J 96 f_p0_buckets), (a_p0_grades, zI J 96 f_p0_grades), (a_p0_heights, zI J 16 f_p0_heights), (a_p0_drawn, zI J 16 f_p0_drawn)] [(0, .ref a_t), (1, .ref a_p0), (2, .int (zi p1)), (3, .int (zi v7))] 20 [] := by
  intro N
  induction N with
  | zero =>
    intro v7 v8 hsh
    exact absurd hsh (by simp [sh_X6_lookAhead_L20])
  | succ N ih =>
    intro v7 v8 hsh
    rw [sh_X6_lookAhead_L20] at hsh
    refine z_iload_n (pc' := 21) 3 dX6_lookAhead_20 rfl rfl rfl ?_
    refine z_iconst (pc' := 22) dX6_lookAhead_21 rfl ?_
    have g9 := zkr_p hsh
    replace hsh := zkr_k hsh
    refine z_icmp_ge (pc' := 25) (tgt := 60) dX6_lookAhead_22 (by decide) g9 (by decide) rfl (fun q => ?_) (fun q => ?_)
    · replace hsh := zif_f q hsh
      refine z_perm [(a_t, .inr (5, [.ref a_t_ahead, .ref a_t_drawn, .ref a_t_taken, .ref a_t_mostFromStep, .ref a_t_trial, .ref a_t_best, .int (zi c_t_length), .int (zi c_t_limit), .int (zi c_t_bestSum)])), (a_t_ahead, zI J 64 v8), (a_t_drawn, zI J 16 (va_up f_t_drawn (p1).toNat q1)), (a_t_taken, zI J 16 (va_up f_t_taken (p1).toNat (0 : Int))), (a_p0, .inr (0, [.ref a_p0_buckets, .ref a_p0_grades, .ref a_p0_heights, .ref a_p0_drawn, .int (zi c_p0_limit), .int (zi c_p0_hungSet), .int (zi c_p0_bucketSum), .int (zi c_p0_gradeSum)])), (a_p0_buckets, zI J 96 f_p0_buckets), (a_p0_grades, zI J 96 f_p0_grades), (a_p0_heights, zI J 16 f_p0_heights), (a_p0_drawn, zI J 16 f_p0_drawn)] [] [0, 1, 2, 3, 4, 5, 6, 7, 8] [] rfl rfl rfl ?_
      exact hk _ _ hsh
    · replace hsh := zif_t q hsh
      refine z_aload_n (pc' := 26) 0 dX6_lookAhead_25 rfl rfl rfl ?_
      refine z_getfield (pc' := 29) (C := RX6) (T := TX6) (N := 9) 0 0 dX6_lookAhead_26 iX6_lookAhead_X6 rfl rfl (by decide) mX6_lookAhead_f9 rfl rfl ?_
      refine z_iload_n (pc' := 30) 2 dX6_lookAhead_29 rfl rfl rfl ?_
      refine z_iconst (pc' := 31) dX6_lookAhead_30 rfl ?_
      refine z_imul (pc' := 32) dX6_lookAhead_31 rfl ?_
      refine z_iload_n (pc' := 33) 3 dX6_lookAhead_32 rfl rfl rfl ?_
      refine z_iadd (pc' := 34) dX6_lookAhead_33 rfl ?_
      refine z_aload_n (pc' := 35) 1 dX6_lookAhead_34 rfl rfl rfl ?_
      refine z_iload_n (pc' := 36) 2 dX6_lookAhead_35 rfl rfl rfl ?_
      obtain ⟨q10, h11, hsh⟩ := zbind hsh
      refine z_callV (pc' := 39) (C := RX0) (As := [.int (zi p1)]) (rest := [.int (zi ((p1 * (4 : Int)) + v7)), .ref a_t_ahead]) (wr := [(a_t, .inr (5, [.ref a_t_ahead, .ref a_t_drawn, .ref a_t_taken, .ref a_t_mostFromStep, .ref a_t_trial, .ref a_t_best, .int (zi c_t_length), .int (zi c_t_limit), .int (zi c_t_bestSum)])), (a_t_ahead, zI J 64 v8), (a_t_drawn, zI J 16 (va_up f_t_drawn (p1).toNat q1)), (a_t_taken, zI J 16 (va_up f_t_taken (p1).toNat (0 : Int))), (a_p0_buckets, zI J 96 f_p0_buckets), (a_p0_grades, zI J 96 f_p0_grades), (a_p0_heights, zI J 16 f_p0_heights), (a_p0_drawn, zI J 16 f_p0_drawn)]) 1 (zc_X0_hangs l D J F (a_t := a_p0) (a_t_buckets := a_p0_buckets) (a_t_grades := a_p0_grades) (a_t_heights := a_p0_heights) (a_t_drawn := a_p0_drawn) (c_t_limit := c_p0_limit) (c_t_hungSet := c_p0_hungSet) (c_t_bucketSum := c_p0_bucketSum) (c_t_gradeSum := c_p0_gradeSum) (p0 := p1)  q10 h11) dX6_lookAhead_36 gX6_lookAhead_X0_hangs rfl rfl rfl (by decide +kernel) ⟨Nat.le_of_ble_eq_true rfl, Nat.le_of_ble_eq_true rfl⟩ ⟨Nat.le_of_ble_eq_true rfl, Nat.le_of_ble_eq_true rfl⟩ (z_spl_of [4, 0, 1, 2, 3, 5, 6, 7, 8] rfl rfl) rfl rfl rfl rfl (Nat.le_of_ble_eq_true rfl) rfl (fun rv w9 hq => ?_)
      obtain ⟨rfl, rfl⟩ := hq
      refine z_ws [(a_t, .inr (5, [.ref a_t_ahead, .ref a_t_drawn, .ref a_t_taken, .ref a_t_mostFromStep, .ref a_t_trial, .ref a_t_best, .int (zi c_t_length), .int (zi c_t_limit), .int (zi c_t_bestSum)])), (a_t_ahead, zI J 64 v8), (a_t_drawn, zI J 16 (va_up f_t_drawn (p1).toNat q1)), (a_t_taken, zI J 16 (va_up f_t_taken (p1).toNat (0 : Int))), (a_p0_buckets, zI J 96 f_p0_buckets), (a_p0_grades, zI J 96 f_p0_grades), (a_p0_heights, zI J 16 f_p0_heights), (a_p0_drawn, zI J 16 f_p0_drawn), (a_p0, .inr (0, [.ref a_p0_buckets, .ref a_p0_grades, .ref a_p0_heights, .ref a_p0_drawn, .int (zi c_p0_limit), .int (zi c_p0_hungSet), .int (zi c_p0_bucketSum), .int (zi c_p0_gradeSum)]))] rfl ?_
      have g12 := zkr_p hsh
      replace hsh := zkr_k hsh
      refine z_if_eq (pc' := 42) (tgt := 47) dX6_lookAhead_39 (by decide) g12 rfl (fun q => ?_) (fun q => ?_)
      · replace hsh := zif_t q hsh
        refine z_aload_n (pc' := 48) 1 dX6_lookAhead_47 rfl rfl rfl ?_
        refine z_iload_n (pc' := 49) 2 dX6_lookAhead_48 rfl rfl rfl ?_
        refine z_iload_n (pc' := 50) 3 dX6_lookAhead_49 rfl rfl rfl ?_
        obtain ⟨q13, h14, hsh⟩ := zbind hsh
        refine z_callV (pc' := 53) (C := RX0) (As := [.int (zi p1), .int (zi v7)]) (rest := [.int (zi ((p1 * (4 : Int)) + v7)), .ref a_t_ahead]) (wr := [(a_t, .inr (5, [.ref a_t_ahead, .ref a_t_drawn, .ref a_t_taken, .ref a_t_mostFromStep, .ref a_t_trial, .ref a_t_best, .int (zi c_t_length), .int (zi c_t_limit), .int (zi c_t_bestSum)])), (a_t_ahead, zI J 64 v8), (a_t_drawn, zI J 16 (va_up f_t_drawn (p1).toNat q1)), (a_t_taken, zI J 16 (va_up f_t_taken (p1).toNat (0 : Int))), (a_p0_drawn, zI J 16 f_p0_drawn)]) 2 (zc_X0_gradeOf l D J F (a_t := a_p0) (a_t_buckets := a_p0_buckets) (a_t_grades := a_p0_grades) (a_t_heights := a_p0_heights) (a_t_drawn := a_p0_drawn) (c_t_limit := c_p0_limit) (c_t_hungSet := c_p0_hungSet) (c_t_bucketSum := c_p0_bucketSum) (c_t_gradeSum := c_p0_gradeSum) (f_t_buckets := f_p0_buckets) (f_t_grades := f_p0_grades) (f_t_heights := f_p0_heights) (p0 := p1) (p1 := v7)  q13 h14) dX6_lookAhead_50 gX6_lookAhead_X0_gradeOf rfl rfl rfl (by decide +kernel) ⟨Nat.le_of_ble_eq_true rfl, Nat.le_of_ble_eq_true rfl⟩ ⟨Nat.le_of_ble_eq_true rfl, Nat.le_of_ble_eq_true rfl⟩ (z_spl_of [8, 4, 5, 6, 0, 1, 2, 3, 7] rfl rfl) rfl rfl rfl rfl (Nat.le_of_ble_eq_true rfl) rfl (fun rv w9 hq => ?_)
        obtain ⟨rfl, rfl⟩ := hq
        refine z_ws [(a_t, .inr (5, [.ref a_t_ahead, .ref a_t_drawn, .ref a_t_taken, .ref a_t_mostFromStep, .ref a_t_trial, .ref a_t_best, .int (zi c_t_length), .int (zi c_t_limit), .int (zi c_t_bestSum)])), (a_t_ahead, zI J 64 v8), (a_t_drawn, zI J 16 (va_up f_t_drawn (p1).toNat q1)), (a_t_taken, zI J 16 (va_up f_t_taken (p1).toNat (0 : Int))), (a_p0_drawn, zI J 16 f_p0_drawn), (a_p0, .inr (0, [.ref a_p0_buckets, .ref a_p0_grades, .ref a_p0_heights, .ref a_p0_drawn, .int (zi c_p0_limit), .int (zi c_p0_hungSet), .int (zi c_p0_bucketSum), .int (zi c_p0_gradeSum)])), (a_p0_buckets, zI J 96 f_p0_buckets), (a_p0_grades, zI J 96 f_p0_grades), (a_p0_heights, zI J 16 f_p0_heights)] rfl ?_
        have g15 := zkx_p hsh
        replace hsh := zkx_k hsh
        refine z_iastore (pc' := 54) 1 [(a_t, .inr (5, [.ref a_t_ahead, .ref a_t_drawn, .ref a_t_taken, .ref a_t_mostFromStep, .ref a_t_trial, .ref a_t_best, .int (zi c_t_length), .int (zi c_t_limit), .int (zi c_t_bestSum)])), (a_t_ahead, zI J 64 (va_up v8 (((p1 * (4 : Int)) + v7)).toNat q13)), (a_t_drawn, zI J 16 (va_up f_t_drawn (p1).toNat q1)), (a_t_taken, zI J 16 (va_up f_t_taken (p1).toNat (0 : Int))), (a_p0_drawn, zI J 16 f_p0_drawn), (a_p0, .inr (0, [.ref a_p0_buckets, .ref a_p0_grades, .ref a_p0_heights, .ref a_p0_drawn, .int (zi c_p0_limit), .int (zi c_p0_hungSet), .int (zi c_p0_bucketSum), .int (zi c_p0_gradeSum)])), (a_p0_buckets, zI J 96 f_p0_buckets), (a_p0_grades, zI J 96 f_p0_grades), (a_p0_heights, zI J 16 f_p0_heights)] dX6_lookAhead_53 rfl (by decide) g15 rfl rfl ?_
        refine z_iinc (pc' := 57) [(3, .int (zi (v7 + (1 : Int)))), (0, .ref a_t), (1, .ref a_p0), (2, .int (zi p1))] 3 dX6_lookAhead_54 rfl (by decide) rfl rfl ?_
        refine z_goto (tgt := 20) dX6_lookAhead_57 (by decide) ?_
        refine z_perm [(a_t, .inr (5, [.ref a_t_ahead, .ref a_t_drawn, .ref a_t_taken, .ref a_t_mostFromStep, .ref a_t_trial, .ref a_t_best, .int (zi c_t_length), .int (zi c_t_limit), .int (zi c_t_bestSum)])), (a_t_ahead, zI J 64 (va_up v8 (((p1 * (4 : Int)) + v7)).toNat q13)), (a_t_drawn, zI J 16 (va_up f_t_drawn (p1).toNat q1)), (a_t_taken, zI J 16 (va_up f_t_taken (p1).toNat (0 : Int))), (a_p0, .inr (0, [.ref a_p0_buckets, .ref a_p0_grades, .ref a_p0_heights, .ref a_p0_drawn, .int (zi c_p0_limit), .int (zi c_p0_hungSet), .int (zi c_p0_bucketSum), .int (zi c_p0_gradeSum)])), (a_p0_buckets, zI J 96 f_p0_buckets), (a_p0_grades, zI J 96 f_p0_grades), (a_p0_heights, zI J 16 f_p0_heights), (a_p0_drawn, zI J 16 f_p0_drawn)] [(0, .ref a_t), (1, .ref a_p0), (2, .int (zi p1)), (3, .int (zi (v7 + (1 : Int))))] [0, 1, 2, 3, 5, 6, 7, 8, 4] [1, 2, 3, 0] rfl rfl rfl ?_
        exact ih _ _ hsh
      · replace hsh := zif_f q hsh
        refine z_bipush (pc' := 44) dX6_lookAhead_42 (by decide) rfl ?_
        refine z_goto (tgt := 53) dX6_lookAhead_44 (by decide) ?_
        have g16 := zkx_p hsh
        replace hsh := zkx_k hsh
        refine z_iastore (pc' := 54) 1 [(a_t, .inr (5, [.ref a_t_ahead, .ref a_t_drawn, .ref a_t_taken, .ref a_t_mostFromStep, .ref a_t_trial, .ref a_t_best, .int (zi c_t_length), .int (zi c_t_limit), .int (zi c_t_bestSum)])), (a_t_ahead, zI J 64 (va_up v8 (((p1 * (4 : Int)) + v7)).toNat (-9 : Int))), (a_t_drawn, zI J 16 (va_up f_t_drawn (p1).toNat q1)), (a_t_taken, zI J 16 (va_up f_t_taken (p1).toNat (0 : Int))), (a_p0_buckets, zI J 96 f_p0_buckets), (a_p0_grades, zI J 96 f_p0_grades), (a_p0_heights, zI J 16 f_p0_heights), (a_p0_drawn, zI J 16 f_p0_drawn), (a_p0, .inr (0, [.ref a_p0_buckets, .ref a_p0_grades, .ref a_p0_heights, .ref a_p0_drawn, .int (zi c_p0_limit), .int (zi c_p0_hungSet), .int (zi c_p0_bucketSum), .int (zi c_p0_gradeSum)]))] dX6_lookAhead_53 rfl (by decide) g16 rfl rfl ?_
        refine z_iinc (pc' := 57) [(3, .int (zi (v7 + (1 : Int)))), (0, .ref a_t), (1, .ref a_p0), (2, .int (zi p1))] 3 dX6_lookAhead_54 rfl (by decide) rfl rfl ?_
        refine z_goto (tgt := 20) dX6_lookAhead_57 (by decide) ?_
        refine z_perm [(a_t, .inr (5, [.ref a_t_ahead, .ref a_t_drawn, .ref a_t_taken, .ref a_t_mostFromStep, .ref a_t_trial, .ref a_t_best, .int (zi c_t_length), .int (zi c_t_limit), .int (zi c_t_bestSum)])), (a_t_ahead, zI J 64 (va_up v8 (((p1 * (4 : Int)) + v7)).toNat (-9 : Int))), (a_t_drawn, zI J 16 (va_up f_t_drawn (p1).toNat q1)), (a_t_taken, zI J 16 (va_up f_t_taken (p1).toNat (0 : Int))), (a_p0, .inr (0, [.ref a_p0_buckets, .ref a_p0_grades, .ref a_p0_heights, .ref a_p0_drawn, .int (zi c_p0_limit), .int (zi c_p0_hungSet), .int (zi c_p0_bucketSum), .int (zi c_p0_gradeSum)])), (a_p0_buckets, zI J 96 f_p0_buckets), (a_p0_grades, zI J 96 f_p0_grades), (a_p0_heights, zI J 16 f_p0_heights), (a_p0_drawn, zI J 16 f_p0_drawn)] [(0, .ref a_t), (1, .ref a_p0), (2, .int (zi p1)), (3, .int (zi (v7 + (1 : Int))))] [0, 1, 2, 3, 8, 4, 5, 6, 7] [1, 2, 3, 0] rfl rfl rfl ?_
        exact ih _ _ hsh
set_option maxRecDepth 100000 in
set_option maxHeartbeats 4000000 in
theorem zc_X6_lookAhead (l : Launch) (D : va_G) (J : Nat → ClassId) (F : Nat) (a_t : Nat) (a_p0 : Nat) (a_t_ahead : Nat) (a_t_drawn : Nat) (a_t_taken : Nat) (a_t_mostFromStep : Nat) (a_t_trial : Nat) (a_t_best : Nat) (a_p0_buckets : Nat) (a_p0_grades : Nat) (a_p0_heights : Nat) (a_p0_drawn : Nat) (c_t_length : Int) (c_t_limit : Int) (c_t_bestSum : Int) (f_t_ahead : Nat → Int) (f_t_drawn : Nat → Int) (f_t_taken : Nat → Int) (c_p0_limit : Int) (c_p0_hungSet : Int) (c_p0_bucketSum : Int) (c_p0_gradeSum : Int) (f_p0_buckets : Nat → Int) (f_p0_grades : Nat → Int) (f_p0_heights : Nat → Int) (f_p0_drawn : Nat → Int) (p1 : Int) (res : (Nat → Int) × (Nat → Int) × (Nat → Int)) (hsh : sh_X6_lookAhead F f_t_ahead f_t_drawn f_t_taken c_p0_hungSet f_p0_buckets f_p0_grades f_p0_heights f_p0_drawn p1 = some res) : ZM l D J yX6_lookAhead wsX6_lookAhead ({ frames := 1, cells := 0, slots := 0, locals := 24 } : Room) 0 0 [.ref a_t, .ref a_p0, .int (zi p1)] [(a_t, .inr (5, [.ref a_t_ahead, .ref a_t_drawn, .ref a_t_taken, .ref a_t_mostFromStep, .ref a_t_trial, .ref a_t_best, .int (zi c_t_length), .int (zi c_t_limit), .int (zi c_t_bestSum)])), (a_t_ahead, zI J 64 f_t_ahead), (a_t_drawn, zI J 16 f_t_drawn), (a_t_taken, zI J 16 f_t_taken), (a_p0, .inr (0, [.ref a_p0_buckets, .ref a_p0_grades, .ref a_p0_heights, .ref a_p0_drawn, .int (zi c_p0_limit), .int (zi c_p0_hungSet), .int (zi c_p0_bucketSum), .int (zi c_p0_gradeSum)])), (a_p0_buckets, zI J 96 f_p0_buckets), (a_p0_grades, zI J 96 f_p0_grades), (a_p0_heights, zI J 16 f_p0_heights), (a_p0_drawn, zI J 16 f_p0_drawn)] (fun rv w9 => rv = none ∧ w9 = [(a_t, .inr (5, [.ref a_t_ahead, .ref a_t_drawn, .ref a_t_taken, .ref a_t_mostFromStep, .ref a_t_trial, .ref a_t_best, .int (zi c_t_length), .int (zi c_t_limit), .int (zi c_t_bestSum)])), (a_t_ahead, zI J 64 res.1), (a_t_drawn, zI J 16 res.2.1), (a_t_taken, zI J 16 res.2.2), (a_p0, .inr (0, [.ref a_p0_buckets, .ref a_p0_grades, .ref a_p0_heights, .ref a_p0_drawn, .int (zi c_p0_limit), .int (zi c_p0_hungSet), .int (zi c_p0_bucketSum), .int (zi c_p0_gradeSum)])), (a_p0_buckets, zI J 96 f_p0_buckets), (a_p0_grades, zI J 96 f_p0_grades), (a_p0_heights, zI J 16 f_p0_heights), (a_p0_drawn, zI J 16 f_p0_drawn)]) := by
  refine z_ofZ (cc := cX6_lookAhead) (maxL := 4) (ret := none) 0 0 (by decide) rfl (Nat.le_of_ble_eq_true rfl) [(0, .ref a_t), (1, .ref a_p0), (2, .int (zi p1))] rfl ?_
  intro p e s m args below meth c A
  unfold sh_X6_lookAhead at hsh
  refine z_aload_n (pc' := 1) 0 dX6_lookAhead_0 rfl rfl rfl ?_
  refine z_getfield (pc' := 4) (C := RX6) (T := TX6) (N := 9) 0 1 dX6_lookAhead_1 iX6_lookAhead_X6 rfl rfl (by decide) mX6_lookAhead_f15 rfl rfl ?_
  refine z_iload_n (pc' := 5) 2 dX6_lookAhead_4 rfl rfl rfl ?_
  refine z_aload_n (pc' := 6) 1 dX6_lookAhead_5 rfl rfl rfl ?_
  refine z_iload_n (pc' := 7) 2 dX6_lookAhead_6 rfl rfl rfl ?_
  obtain ⟨q1, h2, hsh⟩ := zbind hsh
  refine z_callV (pc' := 10) (C := RX0) (As := [.int (zi p1)]) (rest := [.int (zi p1), .ref a_t_drawn]) (wr := [(a_t, .inr (5, [.ref a_t_ahead, .ref a_t_drawn, .ref a_t_taken, .ref a_t_mostFromStep, .ref a_t_trial, .ref a_t_best, .int (zi c_t_length), .int (zi c_t_limit), .int (zi c_t_bestSum)])), (a_t_ahead, zI J 64 f_t_ahead), (a_t_drawn, zI J 16 f_t_drawn), (a_t_taken, zI J 16 f_t_taken), (a_p0_buckets, zI J 96 f_p0_buckets), (a_p0_grades, zI J 96 f_p0_grades), (a_p0_heights, zI J 16 f_p0_heights)]) 1 (zc_X0_drawnFrom l D J F (a_t := a_p0) (a_t_buckets := a_p0_buckets) (a_t_grades := a_p0_grades) (a_t_heights := a_p0_heights) (a_t_drawn := a_p0_drawn) (c_t_limit := c_p0_limit) (c_t_hungSet := c_p0_hungSet) (c_t_bucketSum := c_p0_bucketSum) (c_t_gradeSum := c_p0_gradeSum) (f_t_drawn := f_p0_drawn) (p0 := p1)  q1 h2) dX6_lookAhead_7 gX6_lookAhead_X0_drawnFrom rfl rfl rfl (by decide +kernel) ⟨Nat.le_of_ble_eq_true rfl, Nat.le_of_ble_eq_true rfl⟩ ⟨Nat.le_of_ble_eq_true rfl, Nat.le_of_ble_eq_true rfl⟩ (z_spl_of [4, 8, 0, 1, 2, 3, 5, 6, 7] rfl rfl) rfl rfl rfl rfl (Nat.le_of_ble_eq_true rfl) rfl (fun rv w9 hq => ?_)
  obtain ⟨rfl, rfl⟩ := hq
  refine z_ws [(a_t, .inr (5, [.ref a_t_ahead, .ref a_t_drawn, .ref a_t_taken, .ref a_t_mostFromStep, .ref a_t_trial, .ref a_t_best, .int (zi c_t_length), .int (zi c_t_limit), .int (zi c_t_bestSum)])), (a_t_ahead, zI J 64 f_t_ahead), (a_t_drawn, zI J 16 f_t_drawn), (a_t_taken, zI J 16 f_t_taken), (a_p0_buckets, zI J 96 f_p0_buckets), (a_p0_grades, zI J 96 f_p0_grades), (a_p0_heights, zI J 16 f_p0_heights), (a_p0, .inr (0, [.ref a_p0_buckets, .ref a_p0_grades, .ref a_p0_heights, .ref a_p0_drawn, .int (zi c_p0_limit), .int (zi c_p0_hungSet), .int (zi c_p0_bucketSum), .int (zi c_p0_gradeSum)])), (a_p0_drawn, zI J 16 f_p0_drawn)] rfl ?_
  have g3 := zkx_p hsh
  replace hsh := zkx_k hsh
  refine z_iastore (pc' := 11) 2 [(a_t, .inr (5, [.ref a_t_ahead, .ref a_t_drawn, .ref a_t_taken, .ref a_t_mostFromStep, .ref a_t_trial, .ref a_t_best, .int (zi c_t_length), .int (zi c_t_limit), .int (zi c_t_bestSum)])), (a_t_ahead, zI J 64 f_t_ahead), (a_t_drawn, zI J 16 (va_up f_t_drawn (p1).toNat q1)), (a_t_taken, zI J 16 f_t_taken), (a_p0_buckets, zI J 96 f_p0_buckets), (a_p0_grades, zI J 96 f_p0_grades), (a_p0_heights, zI J 16 f_p0_heights), (a_p0, .inr (0, [.ref a_p0_buckets, .ref a_p0_grades, .ref a_p0_heights, .ref a_p0_drawn, .int (zi c_p0_limit), .int (zi c_p0_hungSet), .int (zi c_p0_bucketSum), .int (zi c_p0_gradeSum)])), (a_p0_drawn, zI J 16 f_p0_drawn)] dX6_lookAhead_10 rfl (by decide) g3 rfl rfl ?_
  refine z_aload_n (pc' := 12) 0 dX6_lookAhead_11 rfl rfl rfl ?_
  refine z_getfield (pc' := 15) (C := RX6) (T := TX6) (N := 9) 0 2 dX6_lookAhead_12 iX6_lookAhead_X6 rfl rfl (by decide) mX6_lookAhead_f18 rfl rfl ?_
  refine z_iload_n (pc' := 16) 2 dX6_lookAhead_15 rfl rfl rfl ?_
  refine z_iconst (pc' := 17) dX6_lookAhead_16 rfl ?_
  refine z_iastore (pc' := 18) 3 [(a_t, .inr (5, [.ref a_t_ahead, .ref a_t_drawn, .ref a_t_taken, .ref a_t_mostFromStep, .ref a_t_trial, .ref a_t_best, .int (zi c_t_length), .int (zi c_t_limit), .int (zi c_t_bestSum)])), (a_t_ahead, zI J 64 f_t_ahead), (a_t_drawn, zI J 16 (va_up f_t_drawn (p1).toNat q1)), (a_t_taken, zI J 16 (va_up f_t_taken (p1).toNat (0 : Int))), (a_p0_buckets, zI J 96 f_p0_buckets), (a_p0_grades, zI J 96 f_p0_grades), (a_p0_heights, zI J 16 f_p0_heights), (a_p0, .inr (0, [.ref a_p0_buckets, .ref a_p0_grades, .ref a_p0_heights, .ref a_p0_drawn, .int (zi c_p0_limit), .int (zi c_p0_hungSet), .int (zi c_p0_bucketSum), .int (zi c_p0_gradeSum)])), (a_p0_drawn, zI J 16 f_p0_drawn)] dX6_lookAhead_17 rfl (by decide) g3 rfl rfl ?_
  refine z_iconst (pc' := 19) dX6_lookAhead_18 rfl ?_
  refine z_istore_n (pc' := 20) [(3, .int (zi (0 : Int))), (0, .ref a_t), (1, .ref a_p0), (2, .int (zi p1))] dX6_lookAhead_19 rfl (by decide) rfl rfl ?_
  refine z_perm [(a_t, .inr (5, [.ref a_t_ahead, .ref a_t_drawn, .ref a_t_taken, .ref a_t_mostFromStep, .ref a_t_trial, .ref a_t_best, .int (zi c_t_length), .int (zi c_t_limit), .int (zi c_t_bestSum)])), (a_t_ahead, zI J 64 f_t_ahead), (a_t_drawn, zI J 16 (va_up f_t_drawn (p1).toNat q1)), (a_t_taken, zI J 16 (va_up f_t_taken (p1).toNat (0 : Int))), (a_p0, .inr (0, [.ref a_p0_buckets, .ref a_p0_grades, .ref a_p0_heights, .ref a_p0_drawn, .int (zi c_p0_limit), .int (zi c_p0_hungSet), .int (zi c_p0_bucketSum), .int (zi c_p0_gradeSum)])), (a_p0_buckets, zI J 96 f_p0_buckets), (a_p0_grades, zI J 96 f_p0_grades), (a_p0_heights, zI J 16 f_p0_heights), (a_p0_drawn, zI J 16 f_p0_drawn)] [(0, .ref a_t), (1, .ref a_p0), (2, .int (zi p1)), (3, .int (zi (0 : Int)))] [0, 1, 2, 3, 7, 4, 5, 6, 8] [1, 2, 3, 0] rfl rfl rfl ?_
  refine zl_X6_lookAhead_L20 (F := F) (hk := fun v17 v18 hsh => ?_) _ _ _ hsh
  cases hsh
  exact z_vret rfl dX6_lookAhead_60 ⟨rfl, rfl⟩
def sh_X6_boundSteps_L23 (F : Nat) (f_t_ahead : Nat → Int) (c_p0_size : Int) (v9 : Int) (k : Int → Int → Option ((Nat → Int))) : Nat → Int → Int → Option ((Nat → Int))
  | 0, _, _ => none
  | N + 1, v15, v16 => (sh_X2_size F c_p0_size).bind (fun (q17 : Int) => zkr v16 (zkr q17 (if v16 < q17 then zkx ((v16 * (4 : Int)) + v9) 64 (zkr v15 (zkr (f_t_ahead (((v16 * (4 : Int)) + v9)).toNat) (sh_X6_boundSteps_L23 F f_t_ahead c_p0_size v9 k N (zmax v15 (f_t_ahead (((v16 * (4 : Int)) + v9)).toNat)) (v16 + (1 : Int))))) else k v15 v16)))
def sh_X6_boundSteps_L57 (F : Nat) (v9 : Int) (v24 : Int) (k : Int → (Nat → Int) → Option ((Nat → Int))) : Nat → Int → (Nat → Int) → Option ((Nat → Int))
  | 0, _, _ => none
  | N + 1, v29, v30 => zkr v29 (zkr v9 (if v9 < v29 then k v29 v30 else zkx v29 4 (sh_X6_boundSteps_L57 F v9 v24 k N (v29 + (1 : Int)) (va_up v30 (v29).toNat ((v30 (v29).toNat) + v24)))))
def sh_X6_boundSteps_L12 (F : Nat) (c_t_length : Int) (f_t_ahead : Nat → Int) (c_p0_size : Int) (k : Int → Int → (Nat → Int) → Option ((Nat → Int))) : Nat → Int → Int → (Nat → Int) → Option ((Nat → Int))
  | 0, _, _, _ => none
  | N + 1, v8, v9, v10 => zkr v9 (zkr c_t_length (if v9 < c_t_length then sh_X6_boundSteps_L23 F f_t_ahead c_p0_size v9 (fun (v24 : Int) (v25 : Int) => sh_X6_boundSteps_L57 F v9 v24 (fun (v34 : Int) (v35 : (Nat → Int)) => sh_X6_boundSteps_L12 F c_t_length f_t_ahead c_p0_size k N v24 (v9 + (1 : Int)) v35) F (0 : Int) v10) F v8 (0 : Int) else k v8 v9 v10))
def sh_X6_boundSteps (F : Nat) (c_t_length : Int) (f_t_ahead : Nat → Int) (f_t_mostFromStep : Nat → Int) (c_p0_size : Int) : Option ((Nat → Int)) := (sh_J7_fill_53178 F f_t_mostFromStep 4 (0 : Int)).bind (fun (q1 : (Nat → Int)) => sh_X6_boundSteps_L12 F c_t_length f_t_ahead c_p0_size (fun (v36 : Int) (v37 : Int) (v38 : (Nat → Int)) => some (v38)) F (0 : Int) (0 : Int) q1)
theorem mX6_boundSteps_f21 : Cond.fieldLink RX6 21 (TX6 3).1 (TX6 3).2.1 (TX6 3).2.2.1 ∈ wsX6_boundSteps := List.mem_of_getElem? (i := 1) rfl
theorem iX6_boundSteps_X6 : ∀ w ∈ wsX60, w ∈ wsX6_boundSteps := fun _ h => (List.mem_cons_of_mem _ (List.mem_append_left _ (List.mem_append_right _ h)))
theorem mX6_boundSteps_f36 : Cond.fieldLink RX6 36 (TX6 6).1 (TX6 6).2.1 (TX6 6).2.2.1 ∈ wsX6_boundSteps := List.mem_of_getElem? (i := 2) rfl
theorem mX6_boundSteps_f9 : Cond.fieldLink RX6 9 (TX6 0).1 (TX6 0).2.1 (TX6 0).2.2.1 ∈ wsX6_boundSteps := List.mem_of_getElem? (i := 3) rfl
theorem mX6_boundSteps_j85 : Cond.methodLink RX6 85 Lib.Math.max.name ∈ wsX6_boundSteps := List.mem_of_getElem? (i := 4) rfl
theorem mX6_boundSteps_jmaxs : Cond.static Lib.Math.max.name ∈ wsX6_boundSteps := List.mem_of_getElem? (i := 5) rfl
theorem mX6_boundSteps_jmi : Cond.initialized "java/lang/Math" ∈ wsX6_boundSteps := List.mem_of_getElem? (i := 6) rfl
theorem mX6_boundSteps_jmaxc : Cond.code Lib.Math.max.name Lib.Math.max.code 2 (some .int) ∈ wsX6_boundSteps := List.mem_of_getElem? (i := 7) rfl
set_option maxRecDepth 100000 in
set_option maxHeartbeats 4000000 in
theorem zl_X6_boundSteps_L23 {p : Program} {l : Launch} {e : Env} {s : State} {m : MethodId} {args : Array Value} {below : List Frame} {meth : Method} {c : Code} {A : Nat → Prop} {D : va_G} {J : Nat → ClassId} {F : Nat} {f_t_ahead : Nat → Int} {c_p0_size : Int} {v9 : Int} {a_t : Nat} {a_t_ahead : Nat} {a_t_drawn : Nat} {a_t_taken : Nat} {a_t_mostFromStep : Nat} {a_t_trial : Nat} {a_t_best : Nat} {c_t_length : Int} {c_t_limit : Int} {c_t_bestSum : Int} {v10 : (Nat → Int)} {a_p0 : Nat} {a_p0_rowOf : Nat} {a_p0_columnOf : Nat} {a_p0_neighbours : Nat} {a_p0_neighbourCount : Nat} {res : (Nat → Int)} {k : Int → Int → Option ((Nat → Int))} (hk : ∀ (v15' : Int) (v16' : Int), k v15' v16' = some res → Z p l e ({ frames := 1, cells := 0, slots := 0, locals := 23 } : Room) s m args below meth c (MQ below (zQ D J A (fun rv w9 => rv = none ∧ w9 = [(a_t, .inr (5, [.ref a_t_ahead, .ref a_t_drawn, .ref a_t_taken, .ref a_t_mostFromStep, .ref a_t_trial, .ref a_t_best, .int (zi c_t_length), .int (zi c_t_limit), .int (zi c_t_bestSum)])), (a_t_ahead, zI J 64 f_t_ahead), (a_t_mostFromStep, zI J 4 res), (a_p0, .inr (2, [.ref a_p0_rowOf, .ref a_p0_columnOf, .ref a_p0_neighbours, .ref a_p0_neighbourCount, .int (zi c_p0_size)]))])) args s 0 0 A) cX6_boundSteps 5 wsX6_boundSteps RX6 D J A none (yX6_boundSteps.name, []) 0 0 [(a_t, .inr (5, [.ref a_t_ahead, .ref a_t_drawn, .ref a_t_taken, .ref a_t_mostFromStep, .ref a_t_trial, .ref a_t_best, .int (zi c_t_length), .int (zi c_t_limit), .int (zi c_t_bestSum)])), (a_t_ahead, zI J 64 f_t_ahead), (a_t_mostFromStep, zI J 4 v10), (a_p0, .inr (2, [.ref a_p0_rowOf, .ref a_p0_columnOf, .ref a_p0_neighbours, .ref a_p0_neighbourCount, .int (zi c_p0_size)]))] [(0, .ref a_t), (1, .ref a_p0), (2, .int (zi v15')), (3, .int (zi v9))] 54 []) : ∀ (N : Nat) (v15 : Int) (v16 : Int), sh_X6_boundSteps_L23 F f_t_ahead c_p0_size v9 k N v15 v16 = some res → Z p l e ({ frames := 1, cells := 0, slots := 0, locals := 23 } : Room) s m args below meth c (MQ below (zQ D J A (fun rv w9 => rv = none ∧ w9 = [(a_t, .inr (5, [.ref a_t_ahead, .ref a_t_drawn, .ref a_t_taken, .ref a_t_mostFromStep, .ref a_t_trial, .ref a_t_best, .int (zi c_t_length), .int (zi c_t_limit), .int (zi c_t_bestSum)])), (a_t_ahead, zI J 64 f_t_ahead), (a_t_mostFromStep, zI J 4 res), (a_p0, .inr (2, [.ref a_p0_rowOf, .ref a_p0_columnOf, .ref a_p0_neighbours, .ref a_p0_neighbourCount, .int (zi c_p0_size)]))])) args s 0 0 A) cX6_boundSteps 5 wsX6_boundSteps RX6 D J A none (yX6_boundSteps.name, []) 0 0 [(a_t, .inr (5, [.ref a_t_ahead, .ref a_t_drawn, .ref a_t_taken, .ref a_t_mostFromStep, .ref a_t_trial, .ref a_t_best, .int (zi c_t_length), .int (zi c_t_limit), .int (zi c_t_bestSum)])), (a_t_ahead, zI J 64 f_t_ahead), (a_t_mostFromStep, zI J 4 v10), (a_p0, .inr (2, [.ref a_p0_rowOf, .ref a_p0_columnOf, .ref a_p0_neighbours, .ref a_p0_neighbourCount, .int (zi c_p0_size)]))] [(0, .ref a_t), (1, .ref a_p0), (2, .int (zi v15)), (3, .int (zi v9)), (4, .int (zi v16))] 23 [] := by
  intro N
  induction N with
  | zero =>
    intro v15 v16 hsh
    exact absurd hsh (by simp [sh_X6_boundSteps_L23])
  | succ N ih =>
    intro v15 v16 hsh
    rw [sh_X6_boundSteps_L23] at hsh
    refine z_iload (pc' := 25) 4 dX6_boundSteps_23 rfl rfl ?_
    refine z_aload_n (pc' := 26) 1 dX6_boundSteps_25 rfl rfl rfl ?_
    obtain ⟨q17, h18, hsh⟩ := zbind hsh
    refine z_callV (pc' := 29) (C := RX2) (As := []) (rest := [.int (zi v16)]) (wr := [(a_t, .inr (5, [.ref a_t_ahead, .ref a_t_drawn, .ref a_t_taken, .ref a_t_mostFromStep, .ref a_t_trial, .ref a_t_best, .int (zi c_t_length), .int (zi c_t_limit), .int (zi c_t_bestSum)])), (a_t_ahead, zI J 64 f_t_ahead), (a_t_mostFromStep, zI J 4 v10)]) 0 (zc_X2_size l D J F (a_t := a_p0) (a_t_rowOf := a_p0_rowOf) (a_t_columnOf := a_p0_columnOf) (a_t_neighbours := a_p0_neighbours) (a_t_neighbourCount := a_p0_neighbourCount) (c_t_size := c_p0_size)  q17 h18) dX6_boundSteps_26 gX6_boundSteps_X2_size rfl rfl rfl (by decide +kernel) ⟨Nat.le_of_ble_eq_true rfl, Nat.le_of_ble_eq_true rfl⟩ ⟨Nat.le_of_ble_eq_true rfl, Nat.le_of_ble_eq_true rfl⟩ (z_spl_of [3, 0, 1, 2] rfl rfl) rfl rfl rfl rfl (Nat.le_of_ble_eq_true rfl) rfl (fun rv w9 hq => ?_)
    obtain ⟨rfl, rfl⟩ := hq
    refine z_ws [(a_t, .inr (5, [.ref a_t_ahead, .ref a_t_drawn, .ref a_t_taken, .ref a_t_mostFromStep, .ref a_t_trial, .ref a_t_best, .int (zi c_t_length), .int (zi c_t_limit), .int (zi c_t_bestSum)])), (a_t_ahead, zI J 64 f_t_ahead), (a_t_mostFromStep, zI J 4 v10), (a_p0, .inr (2, [.ref a_p0_rowOf, .ref a_p0_columnOf, .ref a_p0_neighbours, .ref a_p0_neighbourCount, .int (zi c_p0_size)]))] rfl ?_
    have g19 := zkr_p hsh
    replace hsh := zkr_k hsh
    have g20 := zkr_p hsh
    replace hsh := zkr_k hsh
    refine z_icmp_ge (pc' := 32) (tgt := 54) dX6_boundSteps_29 (by decide) g19 g20 rfl (fun q => ?_) (fun q => ?_)
    · replace hsh := zif_f q hsh
      refine z_perm [(a_t, .inr (5, [.ref a_t_ahead, .ref a_t_drawn, .ref a_t_taken, .ref a_t_mostFromStep, .ref a_t_trial, .ref a_t_best, .int (zi c_t_length), .int (zi c_t_limit), .int (zi c_t_bestSum)])), (a_t_ahead, zI J 64 f_t_ahead), (a_t_mostFromStep, zI J 4 v10), (a_p0, .inr (2, [.ref a_p0_rowOf, .ref a_p0_columnOf, .ref a_p0_neighbours, .ref a_p0_neighbourCount, .int (zi c_p0_size)]))] [(0, .ref a_t), (1, .ref a_p0), (2, .int (zi v15)), (3, .int (zi v9))] [0, 1, 2, 3] [0, 1, 2, 3] rfl rfl rfl ?_
      exact hk _ _ hsh
    · replace hsh := zif_t q hsh
      refine z_iload_n (pc' := 33) 2 dX6_boundSteps_32 rfl rfl rfl ?_
      refine z_aload_n (pc' := 34) 0 dX6_boundSteps_33 rfl rfl rfl ?_
      refine z_getfield (pc' := 37) (C := RX6) (T := TX6) (N := 9) 0 0 dX6_boundSteps_34 iX6_boundSteps_X6 rfl rfl (by decide) mX6_boundSteps_f9 rfl rfl ?_
      refine z_iload (pc' := 39) 4 dX6_boundSteps_37 rfl rfl ?_
      refine z_iconst (pc' := 40) dX6_boundSteps_39 rfl ?_
      refine z_imul (pc' := 41) dX6_boundSteps_40 rfl ?_
      refine z_iload_n (pc' := 42) 3 dX6_boundSteps_41 rfl rfl rfl ?_
      refine z_iadd (pc' := 43) dX6_boundSteps_42 rfl ?_
      have g21 := zkx_p hsh
      replace hsh := zkx_k hsh
      refine z_iaload (pc' := 44) 1 dX6_boundSteps_43 rfl (by decide) g21 rfl ?_
      have g22 := zkr_p hsh
      replace hsh := zkr_k hsh
      have g23 := zkr_p hsh
      replace hsh := zkr_k hsh
      refine z_max (pc' := 47) dX6_boundSteps_44 mX6_boundSteps_j85 mX6_boundSteps_jmaxs mX6_boundSteps_jmi mX6_boundSteps_jmaxc (Nat.le_of_ble_eq_true rfl) (Nat.le_of_ble_eq_true rfl) (Nat.le_of_ble_eq_true rfl) (Nat.le_of_ble_eq_true rfl) g22 g23 rfl ?_
      refine z_istore_n (pc' := 48) [(2, .int (zi (zmax v15 (f_t_ahead (((v16 * (4 : Int)) + v9)).toNat)))), (0, .ref a_t), (1, .ref a_p0), (3, .int (zi v9)), (4, .int (zi v16))] dX6_boundSteps_47 rfl (by decide) rfl rfl ?_
      refine z_iinc (pc' := 51) [(4, .int (zi (v16 + (1 : Int)))), (2, .int (zi (zmax v15 (f_t_ahead (((v16 * (4 : Int)) + v9)).toNat)))), (0, .ref a_t), (1, .ref a_p0), (3, .int (zi v9))] 4 dX6_boundSteps_48 rfl (by decide) rfl rfl ?_
      refine z_goto (tgt := 23) dX6_boundSteps_51 (by decide) ?_
      refine z_perm [(a_t, .inr (5, [.ref a_t_ahead, .ref a_t_drawn, .ref a_t_taken, .ref a_t_mostFromStep, .ref a_t_trial, .ref a_t_best, .int (zi c_t_length), .int (zi c_t_limit), .int (zi c_t_bestSum)])), (a_t_ahead, zI J 64 f_t_ahead), (a_t_mostFromStep, zI J 4 v10), (a_p0, .inr (2, [.ref a_p0_rowOf, .ref a_p0_columnOf, .ref a_p0_neighbours, .ref a_p0_neighbourCount, .int (zi c_p0_size)]))] [(0, .ref a_t), (1, .ref a_p0), (2, .int (zi (zmax v15 (f_t_ahead (((v16 * (4 : Int)) + v9)).toNat)))), (3, .int (zi v9)), (4, .int (zi (v16 + (1 : Int))))] [0, 1, 2, 3] [2, 3, 1, 4, 0] rfl rfl rfl ?_
      exact ih _ _ hsh
set_option maxRecDepth 100000 in
set_option maxHeartbeats 4000000 in
theorem zl_X6_boundSteps_L57 {p : Program} {l : Launch} {e : Env} {s : State} {m : MethodId} {args : Array Value} {below : List Frame} {meth : Method} {c : Code} {A : Nat → Prop} {D : va_G} {J : Nat → ClassId} {F : Nat} {v9 : Int} {v24 : Int} {a_t : Nat} {a_t_ahead : Nat} {a_t_drawn : Nat} {a_t_taken : Nat} {a_t_mostFromStep : Nat} {a_t_trial : Nat} {a_t_best : Nat} {c_t_length : Int} {c_t_limit : Int} {c_t_bestSum : Int} {f_t_ahead : Nat → Int} {a_p0 : Nat} {a_p0_rowOf : Nat} {a_p0_columnOf : Nat} {a_p0_neighbours : Nat} {a_p0_neighbourCount : Nat} {c_p0_size : Int} {res : (Nat → Int)} {k : Int → (Nat → Int) → Option ((Nat → Int))} (hk : ∀ (v29' : Int) (v30' : (Nat → Int)), k v29' v30' = some res → Z p l e ({ frames := 1, cells := 0, slots := 0, locals := 23 } : Room) s m args below meth c (MQ below (zQ D J A (fun rv w9 => rv = none ∧ w9 = [(a_t, .inr (5, [.ref a_t_ahead, .ref a_t_drawn, .ref a_t_taken, .ref a_t_mostFromStep, .ref a_t_trial, .ref a_t_best, .int (zi c_t_length), .int (zi c_t_limit), .int (zi c_t_bestSum)])), (a_t_ahead, zI J 64 f_t_ahead), (a_t_mostFromStep, zI J 4 res), (a_p0, .inr (2, [.ref a_p0_rowOf, .ref a_p0_columnOf, .ref a_p0_neighbours, .ref a_p0_neighbourCount, .int (zi c_p0_size)]))])) args s 0 0 A) cX6_boundSteps 5 wsX6_boundSteps RX6 D J A none (yX6_boundSteps.name, []) 0 0 [(a_t, .inr (5, [.ref a_t_ahead, .ref a_t_drawn, .ref a_t_taken, .ref a_t_mostFromStep, .ref a_t_trial, .ref a_t_best, .int (zi c_t_length), .int (zi c_t_limit), .int (zi c_t_bestSum)])), (a_t_ahead, zI J 64 f_t_ahead), (a_t_mostFromStep, zI J 4 v30'), (a_p0, .inr (2, [.ref a_p0_rowOf, .ref a_p0_columnOf, .ref a_p0_neighbours, .ref a_p0_neighbourCount, .int (zi c_p0_size)]))] [(0, .ref a_t), (1, .ref a_p0), (2, .int (zi v24)), (3, .int (zi v9))] 80 []) : ∀ (N : Nat) (v29 : Int) (v30 : (Nat → Int)), sh_X6_boundSteps_L57 F v9 v24 k N v29 v30 = some res → Z p l e ({ frames := 1, cells := 0, slots := 0, locals := 23 } : Room) s m args below meth c (MQ below (zQ D J A (fun rv w9 => rv = none ∧ w9 = [(a_t, .inr (5, [.ref a_t_ahead, .ref a_t_drawn, .ref a_t_taken, .ref a_t_mostFromStep, .ref a_t_trial, .ref a_t_best, .int (zi c_t_length), .int (zi c_t_limit), .int (zi c_t_bestSum)])), (a_t_ahead, zI J 64 f_t_ahead), (a_t_mostFromStep, zI J 4 res), (a_p0, .inr (2, [.ref a_p0_rowOf, .ref a_p0_columnOf, .ref a_p0_neighbours, .ref a_p0_neighbourCount, .int (zi c_p0_size)]))])) args s 0 0 A) cX6_boundSteps 5 wsX6_boundSteps RX6 D J A none (yX6_boundSteps.name, []) 0 0 [(a_t, .inr (5, [.ref a_t_ahead, .ref a_t_drawn, .ref a_t_taken, .ref a_t_mostFromStep, .ref a_t_trial, .ref a_t_best, .int (zi c_t_length), .int (zi c_t_limit), .int (zi c_t_bestSum)])), (a_t_ahead, zI J 64 f_t_ahead), (a_t_mostFromStep, zI J 4 v30), (a_p0, .inr (2, [.ref a_p0_rowOf, .ref a_p0_columnOf, .ref a_p0_neighbours, .ref a_p0_neighbourCount, .int (zi c_p0_size)]))] [(0, .ref a_t), (1, .ref a_p0), (2, .int (zi v24)), (3, .int (zi v9)), (4, .int (zi v29))] 57 [] := by
  intro N
  induction N with
  | zero =>
    intro v29 v30 hsh
    exact absurd hsh (by simp [sh_X6_boundSteps_L57])
  | succ N ih =>
    intro v29 v30 hsh
    rw [sh_X6_boundSteps_L57] at hsh
    refine z_iload (pc' := 59) 4 dX6_boundSteps_57 rfl rfl ?_
    refine z_iload_n (pc' := 60) 3 dX6_boundSteps_59 rfl rfl rfl ?_
    have g31 := zkr_p hsh
    replace hsh := zkr_k hsh
    have g32 := zkr_p hsh
    replace hsh := zkr_k hsh
    refine z_icmp_gt (pc' := 63) (tgt := 80) dX6_boundSteps_60 (by decide) g31 g32 rfl (fun q => ?_) (fun q => ?_)
    · replace hsh := zif_t q hsh
      refine z_perm [(a_t, .inr (5, [.ref a_t_ahead, .ref a_t_drawn, .ref a_t_taken, .ref a_t_mostFromStep, .ref a_t_trial, .ref a_t_best, .int (zi c_t_length), .int (zi c_t_limit), .int (zi c_t_bestSum)])), (a_t_ahead, zI J 64 f_t_ahead), (a_t_mostFromStep, zI J 4 v30), (a_p0, .inr (2, [.ref a_p0_rowOf, .ref a_p0_columnOf, .ref a_p0_neighbours, .ref a_p0_neighbourCount, .int (zi c_p0_size)]))] [(0, .ref a_t), (1, .ref a_p0), (2, .int (zi v24)), (3, .int (zi v9))] [0, 1, 2, 3] [0, 1, 2, 3] rfl rfl rfl ?_
      exact hk _ _ hsh
    · replace hsh := zif_f q hsh
      refine z_aload_n (pc' := 64) 0 dX6_boundSteps_63 rfl rfl rfl ?_
      refine z_getfield (pc' := 67) (C := RX6) (T := TX6) (N := 9) 0 3 dX6_boundSteps_64 iX6_boundSteps_X6 rfl rfl (by decide) mX6_boundSteps_f21 rfl rfl ?_
      refine z_iload (pc' := 69) 4 dX6_boundSteps_67 rfl rfl ?_
      refine z_dup2 (pc' := 70) dX6_boundSteps_69 rfl rfl rfl ?_
      have g33 := zkx_p hsh
      replace hsh := zkx_k hsh
      refine z_iaload (pc' := 71) 2 dX6_boundSteps_70 rfl (by decide) g33 rfl ?_
      refine z_iload_n (pc' := 72) 2 dX6_boundSteps_71 rfl rfl rfl ?_
      refine z_iadd (pc' := 73) dX6_boundSteps_72 rfl ?_
      refine z_iastore (pc' := 74) 2 [(a_t, .inr (5, [.ref a_t_ahead, .ref a_t_drawn, .ref a_t_taken, .ref a_t_mostFromStep, .ref a_t_trial, .ref a_t_best, .int (zi c_t_length), .int (zi c_t_limit), .int (zi c_t_bestSum)])), (a_t_ahead, zI J 64 f_t_ahead), (a_t_mostFromStep, zI J 4 (va_up v30 (v29).toNat ((v30 (v29).toNat) + v24))), (a_p0, .inr (2, [.ref a_p0_rowOf, .ref a_p0_columnOf, .ref a_p0_neighbours, .ref a_p0_neighbourCount, .int (zi c_p0_size)]))] dX6_boundSteps_73 rfl (by decide) g33 rfl rfl ?_
      refine z_iinc (pc' := 77) [(4, .int (zi (v29 + (1 : Int)))), (0, .ref a_t), (1, .ref a_p0), (2, .int (zi v24)), (3, .int (zi v9))] 4 dX6_boundSteps_74 rfl (by decide) rfl rfl ?_
      refine z_goto (tgt := 57) dX6_boundSteps_77 (by decide) ?_
      refine z_perm [(a_t, .inr (5, [.ref a_t_ahead, .ref a_t_drawn, .ref a_t_taken, .ref a_t_mostFromStep, .ref a_t_trial, .ref a_t_best, .int (zi c_t_length), .int (zi c_t_limit), .int (zi c_t_bestSum)])), (a_t_ahead, zI J 64 f_t_ahead), (a_t_mostFromStep, zI J 4 (va_up v30 (v29).toNat ((v30 (v29).toNat) + v24))), (a_p0, .inr (2, [.ref a_p0_rowOf, .ref a_p0_columnOf, .ref a_p0_neighbours, .ref a_p0_neighbourCount, .int (zi c_p0_size)]))] [(0, .ref a_t), (1, .ref a_p0), (2, .int (zi v24)), (3, .int (zi v9)), (4, .int (zi (v29 + (1 : Int))))] [0, 1, 2, 3] [1, 2, 3, 4, 0] rfl rfl rfl ?_
      exact ih _ _ hsh
set_option maxRecDepth 100000 in
set_option maxHeartbeats 4000000 in
theorem zl_X6_boundSteps_L12 {p : Program} {l : Launch} {e : Env} {s : State} {m : MethodId} {args : Array Value} {below : List Frame} {meth : Method} {c : Code} {A : Nat → Prop} {D : va_G} {J : Nat → ClassId} {F : Nat} {c_t_length : Int} {f_t_ahead : Nat → Int} {c_p0_size : Int} {a_t : Nat} {a_t_ahead : Nat} {a_t_drawn : Nat} {a_t_taken : Nat} {a_t_mostFromStep : Nat} {a_t_trial : Nat} {a_t_best : Nat} {c_t_limit : Int} {c_t_bestSum : Int} {a_p0 : Nat} {a_p0_rowOf : Nat} {a_p0_columnOf : Nat} {a_p0_neighbours : Nat} {a_p0_neighbourCount : Nat} {res : (Nat → Int)} {k : Int → Int → (Nat → Int) → Option ((Nat → Int))} (hk : ∀ (v8' : Int) (v9' : Int) (v10' : (Nat → Int)), k v8' v9' v10' = some res → Z p l e ({ frames := 1, cells := 0, slots := 0, locals := 23 } : Room) s m args below meth c (MQ below (zQ D J A (fun rv w9 => rv = none ∧ w9 = [(a_t, .inr (5, [.ref a_t_ahead, .ref a_t_drawn, .ref a_t_taken, .ref a_t_mostFromStep, .ref a_t_trial, .ref a_t_best, .int (zi c_t_length), .int (zi c_t_limit), .int (zi c_t_bestSum)])), (a_t_ahead, zI J 64 f_t_ahead), (a_t_mostFromStep, zI J 4 res), (a_p0, .inr (2, [.ref a_p0_rowOf, .ref a_p0_columnOf, .ref a_p0_neighbours, .ref a_p0_neighbourCount, .int (zi c_p0_size)]))])) args s 0 0 A) cX6_boundSteps 5 wsX6_boundSteps RX6 D J A none (yX6_boundSteps.name, []) 0 0 [(a_t, .inr (5, [.ref a_t_ahead, .ref a_t_drawn, .ref a_t_taken, .ref a_t_mostFromStep, .ref a_t_trial, .ref a_t_best, .int (zi c_t_length), .int (zi c_t_limit), .int (zi c_t_bestSum)])), (a_t_ahead, zI J 64 f_t_ahead), (a_t_mostFromStep, zI J 4 v10'), (a_p0, .inr (2, [.ref a_p0_rowOf, .ref a_p0_columnOf, .ref a_p0_neighbours, .ref a_p0_neighbourCount, .int (zi c_p0_size)]))] [] 86 []) : ∀ (N : Nat) (v8 : Int) (v9 : Int) (v10 : (Nat → Int)), sh_X6_boundSteps_L12 F c_t_length f_t_ahead c_p0_size k N v8 v9 v10 = some res → Z p l e ({ frames := 1, cells := 0, slots := 0, locals := 23 } : Room) s m args below meth c (MQ below (zQ D J A (fun rv w9 => rv = none ∧ w9 = [(a_t, .inr (5, [.ref a_t_ahead, .ref a_t_drawn, .ref a_t_taken, .ref a_t_mostFromStep, .ref a_t_trial, .ref a_t_best, .int (zi c_t_length), .int (zi c_t_limit), .int (zi c_t_bestSum)])), (a_t_ahead, zI J 64 f_t_ahead), (a_t_mostFromStep, zI J 4 res), (a_p0, .inr (2, [.ref a_p0_rowOf, .ref a_p0_columnOf, .ref a_p0_neighbours, .ref a_p0_neighbourCount, .int (zi c_p0_size)]))])) args s 0 0 A) cX6_boundSteps 5 wsX6_boundSteps RX6 D J A none (yX6_boundSteps.name, []) 0 0 [(a_t, .inr (5, [.ref a_t_ahead, .ref a_t_drawn, .ref a_t_taken, .ref a_t_mostFromStep, .ref a_t_trial, .ref a_t_best, .int (zi c_t_length), .int (zi c_t_limit), .int (zi c_t_bestSum)])), (a_t_ahead, zI J 64 f_t_ahead), (a_t_mostFromStep, zI J 4 v10), (a_p0, .inr (2, [.ref a_p0_rowOf, .ref a_p0_columnOf, .ref a_p0_neighbours, .ref a_p0_neighbourCount, .int (zi c_p0_size)]))] [(0, .ref a_t), (1, .ref a_p0), (2, .int (zi v8)), (3, .int (zi v9))] 12 [] := by
  intro N
  induction N with
  | zero =>
    intro v8 v9 v10 hsh
    exact absurd hsh (by simp [sh_X6_boundSteps_L12])
  | succ N ih =>
    intro v8 v9 v10 hsh
    rw [sh_X6_boundSteps_L12] at hsh
    refine z_iload_n (pc' := 13) 3 dX6_boundSteps_12 rfl rfl rfl ?_
    refine z_aload_n (pc' := 14) 0 dX6_boundSteps_13 rfl rfl rfl ?_
    refine z_getfield (pc' := 17) (C := RX6) (T := TX6) (N := 9) 0 6 dX6_boundSteps_14 iX6_boundSteps_X6 rfl rfl (by decide) mX6_boundSteps_f36 rfl rfl ?_
    have g11 := zkr_p hsh
    replace hsh := zkr_k hsh
    have g12 := zkr_p hsh
    replace hsh := zkr_k hsh
    refine z_icmp_ge (pc' := 20) (tgt := 86) dX6_boundSteps_17 (by decide) g11 g12 rfl (fun q => ?_) (fun q => ?_)
    · replace hsh := zif_f q hsh
      refine z_perm [(a_t, .inr (5, [.ref a_t_ahead, .ref a_t_drawn, .ref a_t_taken, .ref a_t_mostFromStep, .ref a_t_trial, .ref a_t_best, .int (zi c_t_length), .int (zi c_t_limit), .int (zi c_t_bestSum)])), (a_t_ahead, zI J 64 f_t_ahead), (a_t_mostFromStep, zI J 4 v10), (a_p0, .inr (2, [.ref a_p0_rowOf, .ref a_p0_columnOf, .ref a_p0_neighbours, .ref a_p0_neighbourCount, .int (zi c_p0_size)]))] [] [0, 1, 2, 3] [] rfl rfl rfl ?_
      exact hk _ _ _ hsh
    · replace hsh := zif_t q hsh
      refine z_iconst (pc' := 21) dX6_boundSteps_20 rfl ?_
      refine z_istore (pc' := 23) [(4, .int (zi (0 : Int))), (0, .ref a_t), (1, .ref a_p0), (2, .int (zi v8)), (3, .int (zi v9))] dX6_boundSteps_21 (by decide) rfl rfl ?_
      refine z_perm [(a_t, .inr (5, [.ref a_t_ahead, .ref a_t_drawn, .ref a_t_taken, .ref a_t_mostFromStep, .ref a_t_trial, .ref a_t_best, .int (zi c_t_length), .int (zi c_t_limit), .int (zi c_t_bestSum)])), (a_t_ahead, zI J 64 f_t_ahead), (a_t_mostFromStep, zI J 4 v10), (a_p0, .inr (2, [.ref a_p0_rowOf, .ref a_p0_columnOf, .ref a_p0_neighbours, .ref a_p0_neighbourCount, .int (zi c_p0_size)]))] [(0, .ref a_t), (1, .ref a_p0), (2, .int (zi v8)), (3, .int (zi v9)), (4, .int (zi (0 : Int)))] [0, 1, 2, 3] [1, 2, 3, 4, 0] rfl rfl rfl ?_
      refine zl_X6_boundSteps_L23 (F := F) (hk := fun v24 v25 hsh => ?_) _ _ _ hsh
      refine z_iconst (pc' := 55) dX6_boundSteps_54 rfl ?_
      refine z_istore (pc' := 57) [(4, .int (zi (0 : Int))), (0, .ref a_t), (1, .ref a_p0), (2, .int (zi v24)), (3, .int (zi v9))] dX6_boundSteps_55 (by decide) rfl rfl ?_
      refine z_perm [(a_t, .inr (5, [.ref a_t_ahead, .ref a_t_drawn, .ref a_t_taken, .ref a_t_mostFromStep, .ref a_t_trial, .ref a_t_best, .int (zi c_t_length), .int (zi c_t_limit), .int (zi c_t_bestSum)])), (a_t_ahead, zI J 64 f_t_ahead), (a_t_mostFromStep, zI J 4 v10), (a_p0, .inr (2, [.ref a_p0_rowOf, .ref a_p0_columnOf, .ref a_p0_neighbours, .ref a_p0_neighbourCount, .int (zi c_p0_size)]))] [(0, .ref a_t), (1, .ref a_p0), (2, .int (zi v24)), (3, .int (zi v9)), (4, .int (zi (0 : Int)))] [0, 1, 2, 3] [1, 2, 3, 4, 0] rfl rfl rfl ?_
      refine zl_X6_boundSteps_L57 (F := F) (hk := fun v34 v35 hsh => ?_) _ _ _ hsh
      refine z_iinc (pc' := 83) [(3, .int (zi (v9 + (1 : Int)))), (0, .ref a_t), (1, .ref a_p0), (2, .int (zi v24))] 3 dX6_boundSteps_80 rfl (by decide) rfl rfl ?_
      refine z_goto (tgt := 12) dX6_boundSteps_83 (by decide) ?_
      refine z_perm [(a_t, .inr (5, [.ref a_t_ahead, .ref a_t_drawn, .ref a_t_taken, .ref a_t_mostFromStep, .ref a_t_trial, .ref a_t_best, .int (zi c_t_length), .int (zi c_t_limit), .int (zi c_t_bestSum)])), (a_t_ahead, zI J 64 f_t_ahead), (a_t_mostFromStep, zI J 4 v35), (a_p0, .inr (2, [.ref a_p0_rowOf, .ref a_p0_columnOf, .ref a_p0_neighbours, .ref a_p0_neighbourCount, .int (zi c_p0_size)]))] [(0, .ref a_t), (1, .ref a_p0), (2, .int (zi v24)), (3, .int (zi (v9 + (1 : Int))))] [0, 1, 2, 3] [1, 2, 3, 0] rfl rfl rfl ?_
      exact ih _ _ _ hsh
set_option maxRecDepth 100000 in
set_option maxHeartbeats 4000000 in
theorem zc_X6_boundSteps (l : Launch) (D : va_G) (J : Nat → ClassId) (F : Nat) (a_t : Nat) (a_p0 : Nat) (a_t_ahead : Nat) (a_t_drawn : Nat) (a_t_taken : Nat) (a_t_mostFromStep : Nat) (a_t_trial : Nat) (a_t_best : Nat) (a_p0_rowOf : Nat) (a_p0_columnOf : Nat) (a_p0_neighbours : Nat) (a_p0_neighbourCount : Nat) (c_t_length : Int) (c_t_limit : Int) (c_t_bestSum : Int) (f_t_ahead : Nat → Int) (f_t_mostFromStep : Nat → Int) (c_p0_size : Int) (res : (Nat → Int)) (hsh : sh_X6_boundSteps F c_t_length f_t_ahead f_t_mostFromStep c_p0_size = some res) : ZM l D J yX6_boundSteps wsX6_boundSteps ({ frames := 1, cells := 0, slots := 0, locals := 23 } : Room) 0 0 [.ref a_t, .ref a_p0] [(a_t, .inr (5, [.ref a_t_ahead, .ref a_t_drawn, .ref a_t_taken, .ref a_t_mostFromStep, .ref a_t_trial, .ref a_t_best, .int (zi c_t_length), .int (zi c_t_limit), .int (zi c_t_bestSum)])), (a_t_ahead, zI J 64 f_t_ahead), (a_t_mostFromStep, zI J 4 f_t_mostFromStep), (a_p0, .inr (2, [.ref a_p0_rowOf, .ref a_p0_columnOf, .ref a_p0_neighbours, .ref a_p0_neighbourCount, .int (zi c_p0_size)]))] (fun rv w9 => rv = none ∧ w9 = [(a_t, .inr (5, [.ref a_t_ahead, .ref a_t_drawn, .ref a_t_taken, .ref a_t_mostFromStep, .ref a_t_trial, .ref a_t_best, .int (zi c_t_length), .int (zi c_t_limit), .int (zi c_t_bestSum)])), (a_t_ahead, zI J 64 f_t_ahead), (a_t_mostFromStep, zI J 4 res), (a_p0, .inr (2, [.ref a_p0_rowOf, .ref a_p0_columnOf, .ref a_p0_neighbours, .ref a_p0_neighbourCount, .int (zi c_p0_size)]))]) := by
  refine z_ofZ (cc := cX6_boundSteps) (maxL := 5) (ret := none) 0 0 (by decide) rfl (Nat.le_of_ble_eq_true rfl) [(0, .ref a_t), (1, .ref a_p0)] rfl ?_
  intro p e s m args below meth c A
  unfold sh_X6_boundSteps at hsh
  refine z_aload_n (pc' := 1) 0 dX6_boundSteps_0 rfl rfl rfl ?_
  refine z_getfield (pc' := 4) (C := RX6) (T := TX6) (N := 9) 0 3 dX6_boundSteps_1 iX6_boundSteps_X6 rfl rfl (by decide) mX6_boundSteps_f21 rfl rfl ?_
  refine z_iconst (pc' := 5) dX6_boundSteps_4 rfl ?_
  obtain ⟨q1, h2, hsh⟩ := zbind hsh
  refine z_callS (pc' := 8) (As := [.ref a_t_mostFromStep, .int (zi (0 : Int))]) (rest := []) (wr := [(a_t, .inr (5, [.ref a_t_ahead, .ref a_t_drawn, .ref a_t_taken, .ref a_t_mostFromStep, .ref a_t_trial, .ref a_t_best, .int (zi c_t_length), .int (zi c_t_limit), .int (zi c_t_bestSum)])), (a_t_ahead, zI J 64 f_t_ahead), (a_p0, .inr (2, [.ref a_p0_rowOf, .ref a_p0_columnOf, .ref a_p0_neighbours, .ref a_p0_neighbourCount, .int (zi c_p0_size)]))]) 2 (zc_J7_fill_53178 l D J F (a_p0 := a_t_mostFromStep) (f_p0 := f_t_mostFromStep) (n_p0 := 4) (p1 := (0 : Int)) (hn_p0 := (by decide)) q1 h2) dX6_boundSteps_5 gX6_boundSteps_J7_fill_53178 rfl rfl rfl (by decide +kernel) ⟨Nat.le_of_ble_eq_true rfl, Nat.le_of_ble_eq_true rfl⟩ ⟨Nat.le_of_ble_eq_true rfl, Nat.le_of_ble_eq_true rfl⟩ (z_spl_of [2, 0, 1, 3] rfl rfl) rfl rfl (Nat.le_of_ble_eq_true rfl) rfl (fun rv w9 hq => ?_)
  obtain ⟨rfl, rfl⟩ := hq
  refine z_ws [(a_t, .inr (5, [.ref a_t_ahead, .ref a_t_drawn, .ref a_t_taken, .ref a_t_mostFromStep, .ref a_t_trial, .ref a_t_best, .int (zi c_t_length), .int (zi c_t_limit), .int (zi c_t_bestSum)])), (a_t_ahead, zI J 64 f_t_ahead), (a_p0, .inr (2, [.ref a_p0_rowOf, .ref a_p0_columnOf, .ref a_p0_neighbours, .ref a_p0_neighbourCount, .int (zi c_p0_size)])), (a_t_mostFromStep, zI J 4 q1)] rfl ?_
  refine z_iconst (pc' := 9) dX6_boundSteps_8 rfl ?_
  refine z_istore_n (pc' := 10) [(2, .int (zi (0 : Int))), (0, .ref a_t), (1, .ref a_p0)] dX6_boundSteps_9 rfl (by decide) rfl rfl ?_
  refine z_iconst (pc' := 11) dX6_boundSteps_10 rfl ?_
  refine z_istore_n (pc' := 12) [(3, .int (zi (0 : Int))), (2, .int (zi (0 : Int))), (0, .ref a_t), (1, .ref a_p0)] dX6_boundSteps_11 rfl (by decide) rfl rfl ?_
  refine z_perm [(a_t, .inr (5, [.ref a_t_ahead, .ref a_t_drawn, .ref a_t_taken, .ref a_t_mostFromStep, .ref a_t_trial, .ref a_t_best, .int (zi c_t_length), .int (zi c_t_limit), .int (zi c_t_bestSum)])), (a_t_ahead, zI J 64 f_t_ahead), (a_t_mostFromStep, zI J 4 q1), (a_p0, .inr (2, [.ref a_p0_rowOf, .ref a_p0_columnOf, .ref a_p0_neighbours, .ref a_p0_neighbourCount, .int (zi c_p0_size)]))] [(0, .ref a_t), (1, .ref a_p0), (2, .int (zi (0 : Int))), (3, .int (zi (0 : Int)))] [0, 1, 3, 2] [2, 3, 1, 0] rfl rfl rfl ?_
  refine zl_X6_boundSteps_L12 (F := F) (hk := fun v36 v37 v38 hsh => ?_) _ _ _ _ hsh
  cases hsh
  exact z_vret rfl dX6_boundSteps_86 ⟨rfl, rfl⟩
def sh_X6_keepIfBetter (F : Nat) (c_t_length : Int) (c_t_bestSum : Int) (f_t_trial : Nat → Int) (f_t_best : Nat → Int) (p0 : Int) : Option (Int × (Nat → Int)) := zkr p0 (zkr c_t_bestSum (if c_t_bestSum < p0 then zkc (0 ≤ c_t_length) (zkc ((0 : Int) + c_t_length ≤ (4 : Int)) (zkc ((0 : Int) + c_t_length ≤ (4 : Int)) (some (p0, (va_cpy f_t_trial f_t_best ((0 : Int)).toNat ((0 : Int)).toNat (c_t_length).toNat))))) else some (c_t_bestSum, f_t_best)))
theorem mX6_keepIfBetter_f48 : Cond.fieldLink RX6 48 (TX6 8).1 (TX6 8).2.1 (TX6 8).2.2.1 ∈ wsX6_keepIfBetter := List.mem_of_getElem? (i := 1) rfl
theorem iX6_keepIfBetter_X6 : ∀ w ∈ wsX60, w ∈ wsX6_keepIfBetter := fun _ h => (List.mem_cons_of_mem _ (List.mem_append_right _ h))
theorem mX6_keepIfBetter_f24 : Cond.fieldLink RX6 24 (TX6 4).1 (TX6 4).2.1 (TX6 4).2.2.1 ∈ wsX6_keepIfBetter := List.mem_of_getElem? (i := 2) rfl
theorem mX6_keepIfBetter_f27 : Cond.fieldLink RX6 27 (TX6 5).1 (TX6 5).2.1 (TX6 5).2.2.1 ∈ wsX6_keepIfBetter := List.mem_of_getElem? (i := 3) rfl
theorem mX6_keepIfBetter_f36 : Cond.fieldLink RX6 36 (TX6 6).1 (TX6 6).2.1 (TX6 6).2.2.1 ∈ wsX6_keepIfBetter := List.mem_of_getElem? (i := 4) rfl
theorem mX6_keepIfBetter_j103 : Cond.methodLink RX6 103 arraycopyName ∈ wsX6_keepIfBetter := List.mem_of_getElem? (i := 5) rfl
theorem mX6_keepIfBetter_jacn : Cond.native arraycopyName ∈ wsX6_keepIfBetter := List.mem_of_getElem? (i := 6) rfl
theorem mX6_keepIfBetter_jacs : Cond.static arraycopyName ∈ wsX6_keepIfBetter := List.mem_of_getElem? (i := 7) rfl
theorem mX6_keepIfBetter_jaci : Cond.initialized "java/lang/System" ∈ wsX6_keepIfBetter := List.mem_of_getElem? (i := 8) rfl
set_option maxRecDepth 100000 in
set_option maxHeartbeats 4000000 in
theorem zc_X6_keepIfBetter (l : Launch) (D : va_G) (J : Nat → ClassId) (F : Nat) (a_t : Nat) (a_t_ahead : Nat) (a_t_drawn : Nat) (a_t_taken : Nat) (a_t_mostFromStep : Nat) (a_t_trial : Nat) (a_t_best : Nat) (c_t_length : Int) (c_t_limit : Int) (c_t_bestSum : Int) (f_t_trial : Nat → Int) (f_t_best : Nat → Int) (p0 : Int) (res : Int × (Nat → Int)) (hsh : sh_X6_keepIfBetter F c_t_length c_t_bestSum f_t_trial f_t_best p0 = some res) : ZM l D J yX6_keepIfBetter wsX6_keepIfBetter ({ frames := 1, cells := 0, slots := 0, locals := 64 } : Room) 0 0 [.ref a_t, .int (zi p0)] [(a_t, .inr (5, [.ref a_t_ahead, .ref a_t_drawn, .ref a_t_taken, .ref a_t_mostFromStep, .ref a_t_trial, .ref a_t_best, .int (zi c_t_length), .int (zi c_t_limit), .int (zi c_t_bestSum)])), (a_t_trial, zI J 4 f_t_trial), (a_t_best, zI J 4 f_t_best)] (fun rv w9 => rv = none ∧ w9 = [(a_t, .inr (5, [.ref a_t_ahead, .ref a_t_drawn, .ref a_t_taken, .ref a_t_mostFromStep, .ref a_t_trial, .ref a_t_best, .int (zi c_t_length), .int (zi c_t_limit), .int (zi res.1)])), (a_t_trial, zI J 4 f_t_trial), (a_t_best, zI J 4 res.2)]) := by
  refine z_ofZ (cc := cX6_keepIfBetter) (maxL := 2) (ret := none) 0 0 (by decide) rfl (Nat.le_of_ble_eq_true rfl) [(0, .ref a_t), (1, .int (zi p0))] rfl ?_
  intro p e s m args below meth c A
  unfold sh_X6_keepIfBetter at hsh
  refine z_iload_n (pc' := 1) 1 dX6_keepIfBetter_0 rfl rfl rfl ?_
  refine z_aload_n (pc' := 2) 0 dX6_keepIfBetter_1 rfl rfl rfl ?_
  refine z_getfield (pc' := 5) (C := RX6) (T := TX6) (N := 9) 0 8 dX6_keepIfBetter_2 iX6_keepIfBetter_X6 rfl rfl (by decide) mX6_keepIfBetter_f48 rfl rfl ?_
  have g1 := zkr_p hsh
  replace hsh := zkr_k hsh
  have g2 := zkr_p hsh
  replace hsh := zkr_k hsh
  refine z_icmp_le (pc' := 8) (tgt := 30) dX6_keepIfBetter_5 (by decide) g1 g2 rfl (fun q => ?_) (fun q => ?_)
  · replace hsh := zif_f q hsh
    cases hsh
    exact z_vret rfl dX6_keepIfBetter_30 ⟨rfl, rfl⟩
  · replace hsh := zif_t q hsh
    refine z_aload_n (pc' := 9) 0 dX6_keepIfBetter_8 rfl rfl rfl ?_
    refine z_iload_n (pc' := 10) 1 dX6_keepIfBetter_9 rfl rfl rfl ?_
    refine z_putfield (pc' := 13) (C := RX6) (T := TX6) (N := 9) (ty := .int) 0 8 [(a_t, .inr (5, [.ref a_t_ahead, .ref a_t_drawn, .ref a_t_taken, .ref a_t_mostFromStep, .ref a_t_trial, .ref a_t_best, .int (zi c_t_length), .int (zi c_t_limit), .int (zi p0)])), (a_t_trial, zI J 4 f_t_trial), (a_t_best, zI J 4 f_t_best)] tyX6 tyX6_ok nmX6 dX6_keepIfBetter_10 iX6_keepIfBetter_X6 rfl rfl (by decide) mX6_keepIfBetter_f48 rfl (by decide +kernel) rfl rfl (Nat.le_of_ble_eq_true rfl) rfl rfl rfl ?_
    refine z_aload_n (pc' := 14) 0 dX6_keepIfBetter_13 rfl rfl rfl ?_
    refine z_getfield (pc' := 17) (C := RX6) (T := TX6) (N := 9) 0 4 dX6_keepIfBetter_14 iX6_keepIfBetter_X6 rfl rfl (by decide) mX6_keepIfBetter_f24 rfl rfl ?_
    refine z_iconst (pc' := 18) dX6_keepIfBetter_17 rfl ?_
    refine z_aload_n (pc' := 19) 0 dX6_keepIfBetter_18 rfl rfl rfl ?_
    refine z_getfield (pc' := 22) (C := RX6) (T := TX6) (N := 9) 0 5 dX6_keepIfBetter_19 iX6_keepIfBetter_X6 rfl rfl (by decide) mX6_keepIfBetter_f27 rfl rfl ?_
    refine z_iconst (pc' := 23) dX6_keepIfBetter_22 rfl ?_
    refine z_aload_n (pc' := 24) 0 dX6_keepIfBetter_23 rfl rfl rfl ?_
    refine z_getfield (pc' := 27) (C := RX6) (T := TX6) (N := 9) 0 6 dX6_keepIfBetter_24 iX6_keepIfBetter_X6 rfl rfl (by decide) mX6_keepIfBetter_f36 rfl rfl ?_
    have g3 := zkc_p hsh
    replace hsh := zkc_k hsh
    have g4 := zkc_p hsh
    replace hsh := zkc_k hsh
    have g5 := zkc_p hsh
    replace hsh := zkc_k hsh
    refine z_copyi (pc' := 30) 1 2 [(a_t, .inr (5, [.ref a_t_ahead, .ref a_t_drawn, .ref a_t_taken, .ref a_t_mostFromStep, .ref a_t_trial, .ref a_t_best, .int (zi c_t_length), .int (zi c_t_limit), .int (zi p0)])), (a_t_trial, zI J 4 f_t_trial), (a_t_best, zI J 4 (va_cpy f_t_trial f_t_best ((0 : Int)).toNat ((0 : Int)).toNat (c_t_length).toNat))] dX6_keepIfBetter_27 mX6_keepIfBetter_j103 mX6_keepIfBetter_jacn mX6_keepIfBetter_jacs mX6_keepIfBetter_jaci rfl rfl (by decide) (by decide) (by decide) (by decide) g3 g4 g5 (Nat.le_of_ble_eq_true rfl) (Nat.le_of_ble_eq_true rfl) rfl rfl ?_
    cases hsh
    exact z_vret rfl dX6_keepIfBetter_30 ⟨rfl, rfl⟩
def sh_X6_gradeNow (F : Nat) (f_t_ahead : Nat → Int) (f_t_taken : Nat → Int) (p0 : Int) : Option (Int) := zkx p0 16 (zkr (f_t_taken (p0).toNat) (if (f_t_taken (p0).toNat) < (4 : Int) then zkx ((p0 * (4 : Int)) + (f_t_taken (p0).toNat)) 64 (some ((f_t_ahead (((p0 * (4 : Int)) + (f_t_taken (p0).toNat))).toNat))) else some ((-9 : Int))))
theorem mX6_gradeNow_f18 : Cond.fieldLink RX6 18 (TX6 2).1 (TX6 2).2.1 (TX6 2).2.2.1 ∈ wsX6_gradeNow := List.mem_of_getElem? (i := 1) rfl
theorem iX6_gradeNow_X6 : ∀ w ∈ wsX60, w ∈ wsX6_gradeNow := fun _ h => (List.mem_cons_of_mem _ (List.mem_append_right _ h))
theorem mX6_gradeNow_f9 : Cond.fieldLink RX6 9 (TX6 0).1 (TX6 0).2.1 (TX6 0).2.2.1 ∈ wsX6_gradeNow := List.mem_of_getElem? (i := 2) rfl
set_option maxRecDepth 100000 in
set_option maxHeartbeats 4000000 in
theorem zc_X6_gradeNow (l : Launch) (D : va_G) (J : Nat → ClassId) (F : Nat) (a_t : Nat) (a_t_ahead : Nat) (a_t_drawn : Nat) (a_t_taken : Nat) (a_t_mostFromStep : Nat) (a_t_trial : Nat) (a_t_best : Nat) (c_t_length : Int) (c_t_limit : Int) (c_t_bestSum : Int) (f_t_ahead : Nat → Int) (f_t_taken : Nat → Int) (p0 : Int) (res : Int) (hsh : sh_X6_gradeNow F f_t_ahead f_t_taken p0 = some res) : ZM l D J yX6_gradeNow wsX6_gradeNow ({ frames := 0, cells := 0, slots := 0, locals := 0 } : Room) 0 0 [.ref a_t, .int (zi p0)] [(a_t, .inr (5, [.ref a_t_ahead, .ref a_t_drawn, .ref a_t_taken, .ref a_t_mostFromStep, .ref a_t_trial, .ref a_t_best, .int (zi c_t_length), .int (zi c_t_limit), .int (zi c_t_bestSum)])), (a_t_ahead, zI J 64 f_t_ahead), (a_t_taken, zI J 16 f_t_taken)] (fun rv w9 => rv = some (.int (zi res)) ∧ w9 = [(a_t, .inr (5, [.ref a_t_ahead, .ref a_t_drawn, .ref a_t_taken, .ref a_t_mostFromStep, .ref a_t_trial, .ref a_t_best, .int (zi c_t_length), .int (zi c_t_limit), .int (zi c_t_bestSum)])), (a_t_ahead, zI J 64 f_t_ahead), (a_t_taken, zI J 16 f_t_taken)]) := by
  refine z_ofZ (cc := cX6_gradeNow) (maxL := 3) (ret := (some .int)) 0 0 (by decide) rfl (Nat.le_of_ble_eq_true rfl) [(0, .ref a_t), (1, .int (zi p0))] rfl ?_
  intro p e s m args below meth c A
  unfold sh_X6_gradeNow at hsh
  refine z_aload_n (pc' := 1) 0 dX6_gradeNow_0 rfl rfl rfl ?_
  refine z_getfield (pc' := 4) (C := RX6) (T := TX6) (N := 9) 0 2 dX6_gradeNow_1 iX6_gradeNow_X6 rfl rfl (by decide) mX6_gradeNow_f18 rfl rfl ?_
  refine z_iload_n (pc' := 5) 1 dX6_gradeNow_4 rfl rfl rfl ?_
  have g1 := zkx_p hsh
  replace hsh := zkx_k hsh
  refine z_iaload (pc' := 6) 2 dX6_gradeNow_5 rfl (by decide) g1 rfl ?_
  refine z_istore_n (pc' := 7) [(2, .int (zi (f_t_taken (p0).toNat))), (0, .ref a_t), (1, .int (zi p0))] dX6_gradeNow_6 rfl (by decide) rfl rfl ?_
  refine z_iload_n (pc' := 8) 0 dX6_gradeNow_7 rfl rfl rfl ?_
  refine z_iconst (pc' := 9) dX6_gradeNow_8 rfl ?_
  have g2 := zkr_p hsh
  replace hsh := zkr_k hsh
  refine z_icmp_ge (pc' := 12) (tgt := 25) dX6_gradeNow_9 (by decide) g2 (by decide) rfl (fun q => ?_) (fun q => ?_)
  · replace hsh := zif_f q hsh
    refine z_bipush (pc' := 27) dX6_gradeNow_25 (by decide) rfl ?_
    cases hsh
    exact z_iret rfl dX6_gradeNow_27 ⟨rfl, rfl⟩
  · replace hsh := zif_t q hsh
    refine z_aload_n (pc' := 13) 1 dX6_gradeNow_12 rfl rfl rfl ?_
    refine z_getfield (pc' := 16) (C := RX6) (T := TX6) (N := 9) 0 0 dX6_gradeNow_13 iX6_gradeNow_X6 rfl rfl (by decide) mX6_gradeNow_f9 rfl rfl ?_
    refine z_iload_n (pc' := 17) 2 dX6_gradeNow_16 rfl rfl rfl ?_
    refine z_iconst (pc' := 18) dX6_gradeNow_17 rfl ?_
    refine z_imul (pc' := 19) dX6_gradeNow_18 rfl ?_
    refine z_iload_n (pc' := 20) 0 dX6_gradeNow_19 rfl rfl rfl ?_
    refine z_iadd (pc' := 21) dX6_gradeNow_20 rfl ?_
    have g3 := zkx_p hsh
    replace hsh := zkx_k hsh
    refine z_iaload (pc' := 22) 1 dX6_gradeNow_21 rfl (by decide) g3 rfl ?_
    refine z_goto (tgt := 27) dX6_gradeNow_22 (by decide) ?_
    cases hsh
    exact z_iret rfl dX6_gradeNow_27 ⟨rfl, rfl⟩
def sh_X6_sum (F : Nat) (c_t_bestSum : Int) : Option (Int) := some (c_t_bestSum)
theorem mX6_sum_f48 : Cond.fieldLink RX6 48 (TX6 8).1 (TX6 8).2.1 (TX6 8).2.2.1 ∈ wsX6_sum := List.mem_of_getElem? (i := 1) rfl
theorem iX6_sum_X6 : ∀ w ∈ wsX60, w ∈ wsX6_sum := fun _ h => (List.mem_cons_of_mem _ (List.mem_append_right _ h))
set_option maxRecDepth 100000 in
set_option maxHeartbeats 4000000 in
theorem zc_X6_sum (l : Launch) (D : va_G) (J : Nat → ClassId) (F : Nat) (a_t : Nat) (a_t_ahead : Nat) (a_t_drawn : Nat) (a_t_taken : Nat) (a_t_mostFromStep : Nat) (a_t_trial : Nat) (a_t_best : Nat) (c_t_length : Int) (c_t_limit : Int) (c_t_bestSum : Int) (res : Int) (hsh : sh_X6_sum F c_t_bestSum = some res) : ZM l D J yX6_sum wsX6_sum ({ frames := 0, cells := 0, slots := 0, locals := 0 } : Room) 0 0 [.ref a_t] [(a_t, .inr (5, [.ref a_t_ahead, .ref a_t_drawn, .ref a_t_taken, .ref a_t_mostFromStep, .ref a_t_trial, .ref a_t_best, .int (zi c_t_length), .int (zi c_t_limit), .int (zi c_t_bestSum)]))] (fun rv w9 => rv = some (.int (zi res)) ∧ w9 = [(a_t, .inr (5, [.ref a_t_ahead, .ref a_t_drawn, .ref a_t_taken, .ref a_t_mostFromStep, .ref a_t_trial, .ref a_t_best, .int (zi c_t_length), .int (zi c_t_limit), .int (zi c_t_bestSum)]))]) := by
  refine z_ofZ (cc := cX6_sum) (maxL := 1) (ret := (some .int)) 0 0 (by decide) rfl (Nat.le_of_ble_eq_true rfl) [(0, .ref a_t)] rfl ?_
  intro p e s m args below meth c A
  unfold sh_X6_sum at hsh
  refine z_aload_n (pc' := 1) 0 dX6_sum_0 rfl rfl rfl ?_
  refine z_getfield (pc' := 4) (C := RX6) (T := TX6) (N := 9) 0 8 dX6_sum_1 iX6_sum_X6 rfl rfl (by decide) mX6_sum_f48 rfl rfl ?_
  cases hsh
  exact z_iret rfl dX6_sum_4 ⟨rfl, rfl⟩
def sh_X6_point (F : Nat) (c_t_length : Int) (f_t_best : Nat → Int) (p0 : Int) : Option (Int) := zkr p0 (if p0 < (0 : Int) then some ((-9 : Int)) else zkr c_t_length (if p0 < c_t_length then zkx p0 4 (some ((f_t_best (p0).toNat))) else some ((-9 : Int))))
theorem mX6_point_f36 : Cond.fieldLink RX6 36 (TX6 6).1 (TX6 6).2.1 (TX6 6).2.2.1 ∈ wsX6_point := List.mem_of_getElem? (i := 1) rfl
theorem iX6_point_X6 : ∀ w ∈ wsX60, w ∈ wsX6_point := fun _ h => (List.mem_cons_of_mem _ (List.mem_append_right _ h))
theorem mX6_point_f27 : Cond.fieldLink RX6 27 (TX6 5).1 (TX6 5).2.1 (TX6 5).2.2.1 ∈ wsX6_point := List.mem_of_getElem? (i := 2) rfl
set_option maxRecDepth 100000 in
set_option maxHeartbeats 4000000 in
theorem zc_X6_point (l : Launch) (D : va_G) (J : Nat → ClassId) (F : Nat) (a_t : Nat) (a_t_ahead : Nat) (a_t_drawn : Nat) (a_t_taken : Nat) (a_t_mostFromStep : Nat) (a_t_trial : Nat) (a_t_best : Nat) (c_t_length : Int) (c_t_limit : Int) (c_t_bestSum : Int) (f_t_best : Nat → Int) (p0 : Int) (res : Int) (hsh : sh_X6_point F c_t_length f_t_best p0 = some res) : ZM l D J yX6_point wsX6_point ({ frames := 0, cells := 0, slots := 0, locals := 0 } : Room) 0 0 [.ref a_t, .int (zi p0)] [(a_t, .inr (5, [.ref a_t_ahead, .ref a_t_drawn, .ref a_t_taken, .ref a_t_mostFromStep, .ref a_t_trial, .ref a_t_best, .int (zi c_t_length), .int (zi c_t_limit), .int (zi c_t_bestSum)])), (a_t_best, zI J 4 f_t_best)] (fun rv w9 => rv = some (.int (zi res)) ∧ w9 = [(a_t, .inr (5, [.ref a_t_ahead, .ref a_t_drawn, .ref a_t_taken, .ref a_t_mostFromStep, .ref a_t_trial, .ref a_t_best, .int (zi c_t_length), .int (zi c_t_limit), .int (zi c_t_bestSum)])), (a_t_best, zI J 4 f_t_best)]) := by
  refine z_ofZ (cc := cX6_point) (maxL := 2) (ret := (some .int)) 0 0 (by decide) rfl (Nat.le_of_ble_eq_true rfl) [(0, .ref a_t), (1, .int (zi p0))] rfl ?_
  intro p e s m args below meth c A
  unfold sh_X6_point at hsh
  refine z_iload_n (pc' := 1) 1 dX6_point_0 rfl rfl rfl ?_
  have g1 := zkr_p hsh
  replace hsh := zkr_k hsh
  refine z_if_lt (pc' := 4) (tgt := 21) dX6_point_1 (by decide) g1 rfl (fun q => ?_) (fun q => ?_)
  · replace hsh := zif_t q hsh
    refine z_bipush (pc' := 23) dX6_point_21 (by decide) rfl ?_
    cases hsh
    exact z_iret rfl dX6_point_23 ⟨rfl, rfl⟩
  · replace hsh := zif_f q hsh
    refine z_iload_n (pc' := 5) 1 dX6_point_4 rfl rfl rfl ?_
    refine z_aload_n (pc' := 6) 0 dX6_point_5 rfl rfl rfl ?_
    refine z_getfield (pc' := 9) (C := RX6) (T := TX6) (N := 9) 0 6 dX6_point_6 iX6_point_X6 rfl rfl (by decide) mX6_point_f36 rfl rfl ?_
    have g2 := zkr_p hsh
    replace hsh := zkr_k hsh
    refine z_icmp_ge (pc' := 12) (tgt := 21) dX6_point_9 (by decide) g1 g2 rfl (fun q => ?_) (fun q => ?_)
    · replace hsh := zif_f q hsh
      refine z_bipush (pc' := 23) dX6_point_21 (by decide) rfl ?_
      cases hsh
      exact z_iret rfl dX6_point_23 ⟨rfl, rfl⟩
    · replace hsh := zif_t q hsh
      refine z_aload_n (pc' := 13) 0 dX6_point_12 rfl rfl rfl ?_
      refine z_getfield (pc' := 16) (C := RX6) (T := TX6) (N := 9) 0 5 dX6_point_13 iX6_point_X6 rfl rfl (by decide) mX6_point_f27 rfl rfl ?_
      refine z_iload_n (pc' := 17) 1 dX6_point_16 rfl rfl rfl ?_
      have g3 := zkx_p hsh
      replace hsh := zkx_k hsh
      refine z_iaload (pc' := 18) 1 dX6_point_17 rfl (by decide) g3 rfl ?_
      refine z_goto (tgt := 23) dX6_point_18 (by decide) ?_
      cases hsh
      exact z_iret rfl dX6_point_23 ⟨rfl, rfl⟩
