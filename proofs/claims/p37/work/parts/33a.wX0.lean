def sh_X0_clear (F : Nat) (f_t_heights : Nat → Int) (f_t_drawn : Nat → Int) (p0 : Int) : Option (Int × Int × Int × Int × (Nat → Int) × (Nat → Int)) := (sh_J7_fill_53178 F f_t_heights 16 (0 : Int)).bind (fun (q1 : (Nat → Int)) => (sh_J7_fill_53178 F f_t_drawn 16 (0 : Int)).bind (fun (q3 : (Nat → Int)) => some (p0, (0 : Int), (0 : Int), (0 : Int), q1, q3)))
theorem mX0_clear_f18 : Cond.fieldLink RX0 18 (TX0 2).1 (TX0 2).2.1 (TX0 2).2.2.1 ∈ wsX0_clear := List.mem_of_getElem? (i := 1) rfl
theorem iX0_clear_X0 : ∀ w ∈ wsX00, w ∈ wsX0_clear := fun _ h => (List.mem_cons_of_mem _ (List.mem_append_right _ h))
theorem mX0_clear_f21 : Cond.fieldLink RX0 21 (TX0 3).1 (TX0 3).2.1 (TX0 3).2.2.1 ∈ wsX0_clear := List.mem_of_getElem? (i := 2) rfl
theorem mX0_clear_f30 : Cond.fieldLink RX0 30 (TX0 4).1 (TX0 4).2.1 (TX0 4).2.2.1 ∈ wsX0_clear := List.mem_of_getElem? (i := 3) rfl
theorem mX0_clear_f34 : Cond.fieldLink RX0 34 (TX0 5).1 (TX0 5).2.1 (TX0 5).2.2.1 ∈ wsX0_clear := List.mem_of_getElem? (i := 4) rfl
theorem mX0_clear_f37 : Cond.fieldLink RX0 37 (TX0 6).1 (TX0 6).2.1 (TX0 6).2.2.1 ∈ wsX0_clear := List.mem_of_getElem? (i := 5) rfl
theorem mX0_clear_f40 : Cond.fieldLink RX0 40 (TX0 7).1 (TX0 7).2.1 (TX0 7).2.2.1 ∈ wsX0_clear := List.mem_of_getElem? (i := 6) rfl
set_option maxRecDepth 100000 in
set_option maxHeartbeats 4000000 in
theorem zc_X0_clear (l : Launch) (D : va_G) (J : Nat → ClassId) (F : Nat) (a_t : Nat) (a_t_buckets : Nat) (a_t_grades : Nat) (a_t_heights : Nat) (a_t_drawn : Nat) (c_t_limit : Int) (c_t_hungSet : Int) (c_t_bucketSum : Int) (c_t_gradeSum : Int) (f_t_heights : Nat → Int) (f_t_drawn : Nat → Int) (p0 : Int) (res : Int × Int × Int × Int × (Nat → Int) × (Nat → Int)) (hsh : sh_X0_clear F f_t_heights f_t_drawn p0 = some res) : ZM l D J yX0_clear wsX0_clear ({ frames := 1, cells := 0, slots := 0, locals := 23 } : Room) 0 0 [.ref a_t, .int (zi p0)] [(a_t, .inr (0, [.ref a_t_buckets, .ref a_t_grades, .ref a_t_heights, .ref a_t_drawn, .int (zi c_t_limit), .int (zi c_t_hungSet), .int (zi c_t_bucketSum), .int (zi c_t_gradeSum)])), (a_t_heights, zI J 16 f_t_heights), (a_t_drawn, zI J 16 f_t_drawn)] (fun rv w9 => rv = none ∧ w9 = [(a_t, .inr (0, [.ref a_t_buckets, .ref a_t_grades, .ref a_t_heights, .ref a_t_drawn, .int (zi res.1), .int (zi res.2.1), .int (zi res.2.2.1), .int (zi res.2.2.2.1)])), (a_t_heights, zI J 16 res.2.2.2.2.1), (a_t_drawn, zI J 16 res.2.2.2.2.2)]) := by
  refine z_ofZ (cc := cX0_clear) (maxL := 2) (ret := none) 0 0 (by decide) rfl (Nat.le_of_ble_eq_true rfl) [(0, .ref a_t), (1, .int (zi p0))] rfl ?_
  intro p e s m args below meth c A
  unfold sh_X0_clear at hsh
  refine z_aload_n (pc' := 1) 0 dX0_clear_0 rfl rfl rfl ?_
  refine z_getfield (pc' := 4) (C := RX0) (T := TX0) (N := 8) 0 2 dX0_clear_1 iX0_clear_X0 rfl rfl (by decide) mX0_clear_f18 rfl rfl ?_
  refine z_iconst (pc' := 5) dX0_clear_4 rfl ?_
  obtain ⟨q1, h2, hsh⟩ := zbind hsh
  refine z_callS (pc' := 8) (As := [.ref a_t_heights, .int (zi (0 : Int))]) (rest := []) (wr := [(a_t, .inr (0, [.ref a_t_buckets, .ref a_t_grades, .ref a_t_heights, .ref a_t_drawn, .int (zi c_t_limit), .int (zi c_t_hungSet), .int (zi c_t_bucketSum), .int (zi c_t_gradeSum)])), (a_t_drawn, zI J 16 f_t_drawn)]) 2 (zc_J7_fill_53178 l D J F (a_p0 := a_t_heights) (f_p0 := f_t_heights) (n_p0 := 16) (p1 := (0 : Int)) (hn_p0 := (by decide)) q1 h2) dX0_clear_5 gX0_clear_J7_fill_53178 rfl rfl rfl (by decide +kernel) ⟨Nat.le_of_ble_eq_true rfl, Nat.le_of_ble_eq_true rfl⟩ ⟨Nat.le_of_ble_eq_true rfl, Nat.le_of_ble_eq_true rfl⟩ (z_spl_of [1, 0, 2] rfl rfl) rfl rfl (Nat.le_of_ble_eq_true rfl) rfl (fun rv w9 hq => ?_)
  obtain ⟨rfl, rfl⟩ := hq
  refine z_ws [(a_t, .inr (0, [.ref a_t_buckets, .ref a_t_grades, .ref a_t_heights, .ref a_t_drawn, .int (zi c_t_limit), .int (zi c_t_hungSet), .int (zi c_t_bucketSum), .int (zi c_t_gradeSum)])), (a_t_drawn, zI J 16 f_t_drawn), (a_t_heights, zI J 16 q1)] rfl ?_
  refine z_aload_n (pc' := 9) 0 dX0_clear_8 rfl rfl rfl ?_
  refine z_getfield (pc' := 12) (C := RX0) (T := TX0) (N := 8) 0 3 dX0_clear_9 iX0_clear_X0 rfl rfl (by decide) mX0_clear_f21 rfl rfl ?_
  refine z_iconst (pc' := 13) dX0_clear_12 rfl ?_
  obtain ⟨q3, h4, hsh⟩ := zbind hsh
  refine z_callS (pc' := 16) (As := [.ref a_t_drawn, .int (zi (0 : Int))]) (rest := []) (wr := [(a_t, .inr (0, [.ref a_t_buckets, .ref a_t_grades, .ref a_t_heights, .ref a_t_drawn, .int (zi c_t_limit), .int (zi c_t_hungSet), .int (zi c_t_bucketSum), .int (zi c_t_gradeSum)])), (a_t_heights, zI J 16 q1)]) 2 (zc_J7_fill_53178 l D J F (a_p0 := a_t_drawn) (f_p0 := f_t_drawn) (n_p0 := 16) (p1 := (0 : Int)) (hn_p0 := (by decide)) q3 h4) dX0_clear_13 gX0_clear_J7_fill_53178 rfl rfl rfl (by decide +kernel) ⟨Nat.le_of_ble_eq_true rfl, Nat.le_of_ble_eq_true rfl⟩ ⟨Nat.le_of_ble_eq_true rfl, Nat.le_of_ble_eq_true rfl⟩ (z_spl_of [1, 0, 2] rfl rfl) rfl rfl (Nat.le_of_ble_eq_true rfl) rfl (fun rv w9 hq => ?_)
  obtain ⟨rfl, rfl⟩ := hq
  refine z_ws [(a_t, .inr (0, [.ref a_t_buckets, .ref a_t_grades, .ref a_t_heights, .ref a_t_drawn, .int (zi c_t_limit), .int (zi c_t_hungSet), .int (zi c_t_bucketSum), .int (zi c_t_gradeSum)])), (a_t_heights, zI J 16 q1), (a_t_drawn, zI J 16 q3)] rfl ?_
  refine z_aload_n (pc' := 17) 0 dX0_clear_16 rfl rfl rfl ?_
  refine z_iload_n (pc' := 18) 1 dX0_clear_17 rfl rfl rfl ?_
  refine z_putfield (pc' := 21) (C := RX0) (T := TX0) (N := 8) (ty := .int) 0 4 [(a_t, .inr (0, [.ref a_t_buckets, .ref a_t_grades, .ref a_t_heights, .ref a_t_drawn, .int (zi p0), .int (zi c_t_hungSet), .int (zi c_t_bucketSum), .int (zi c_t_gradeSum)])), (a_t_heights, zI J 16 q1), (a_t_drawn, zI J 16 q3)] tyX0 tyX0_ok nmX0 dX0_clear_18 iX0_clear_X0 rfl rfl (by decide) mX0_clear_f30 rfl (by decide +kernel) rfl rfl (Nat.le_of_ble_eq_true rfl) rfl rfl rfl ?_
  refine z_aload_n (pc' := 22) 0 dX0_clear_21 rfl rfl rfl ?_
  refine z_iconst (pc' := 23) dX0_clear_22 rfl ?_
  refine z_putfield (pc' := 26) (C := RX0) (T := TX0) (N := 8) (ty := .int) 0 5 [(a_t, .inr (0, [.ref a_t_buckets, .ref a_t_grades, .ref a_t_heights, .ref a_t_drawn, .int (zi p0), .int (zi (0 : Int)), .int (zi c_t_bucketSum), .int (zi c_t_gradeSum)])), (a_t_heights, zI J 16 q1), (a_t_drawn, zI J 16 q3)] tyX0 tyX0_ok nmX0 dX0_clear_23 iX0_clear_X0 rfl rfl (by decide) mX0_clear_f34 rfl (by decide +kernel) rfl rfl (Nat.le_of_ble_eq_true rfl) rfl rfl rfl ?_
  refine z_aload_n (pc' := 27) 0 dX0_clear_26 rfl rfl rfl ?_
  refine z_iconst (pc' := 28) dX0_clear_27 rfl ?_
  refine z_putfield (pc' := 31) (C := RX0) (T := TX0) (N := 8) (ty := .int) 0 6 [(a_t, .inr (0, [.ref a_t_buckets, .ref a_t_grades, .ref a_t_heights, .ref a_t_drawn, .int (zi p0), .int (zi (0 : Int)), .int (zi (0 : Int)), .int (zi c_t_gradeSum)])), (a_t_heights, zI J 16 q1), (a_t_drawn, zI J 16 q3)] tyX0 tyX0_ok nmX0 dX0_clear_28 iX0_clear_X0 rfl rfl (by decide) mX0_clear_f37 rfl (by decide +kernel) rfl rfl (Nat.le_of_ble_eq_true rfl) rfl rfl rfl ?_
  refine z_aload_n (pc' := 32) 0 dX0_clear_31 rfl rfl rfl ?_
  refine z_iconst (pc' := 33) dX0_clear_32 rfl ?_
  refine z_putfield (pc' := 36) (C := RX0) (T := TX0) (N := 8) (ty := .int) 0 7 [(a_t, .inr (0, [.ref a_t_buckets, .ref a_t_grades, .ref a_t_heights, .ref a_t_drawn, .int (zi p0), .int (zi (0 : Int)), .int (zi (0 : Int)), .int (zi (0 : Int))])), (a_t_heights, zI J 16 q1), (a_t_drawn, zI J 16 q3)] tyX0 tyX0_ok nmX0 dX0_clear_33 iX0_clear_X0 rfl rfl (by decide) mX0_clear_f40 rfl (by decide +kernel) rfl rfl (Nat.le_of_ble_eq_true rfl) rfl rfl rfl ?_
  cases hsh
  exact z_vret rfl dX0_clear_36 ⟨rfl, rfl⟩
def sh_X0_pile (F : Nat) (f_t_buckets : Nat → Int) (f_t_grades : Nat → Int) (f_t_heights : Nat → Int) (p0 : Int) (p1 : Int) (p2 : Int) : Option ((Nat → Int) × (Nat → Int) × (Nat → Int)) := zkx p0 16 (zkr (f_t_heights (p0).toNat) (if (f_t_heights (p0).toNat) < (6 : Int) then zkx ((p0 * (6 : Int)) + (f_t_heights (p0).toNat)) 96 (some ((va_up f_t_buckets (((p0 * (6 : Int)) + (f_t_heights (p0).toNat))).toNat p1), (va_up f_t_grades (((p0 * (6 : Int)) + (f_t_heights (p0).toNat))).toNat p2), (va_up f_t_heights (p0).toNat ((f_t_heights (p0).toNat) + (1 : Int))))) else some (f_t_buckets, f_t_grades, f_t_heights)))
theorem mX0_pile_f18 : Cond.fieldLink RX0 18 (TX0 2).1 (TX0 2).2.1 (TX0 2).2.2.1 ∈ wsX0_pile := List.mem_of_getElem? (i := 1) rfl
theorem iX0_pile_X0 : ∀ w ∈ wsX00, w ∈ wsX0_pile := fun _ h => (List.mem_cons_of_mem _ (List.mem_append_right _ h))
theorem mX0_pile_f9 : Cond.fieldLink RX0 9 (TX0 0).1 (TX0 0).2.1 (TX0 0).2.2.1 ∈ wsX0_pile := List.mem_of_getElem? (i := 2) rfl
theorem mX0_pile_f15 : Cond.fieldLink RX0 15 (TX0 1).1 (TX0 1).2.1 (TX0 1).2.2.1 ∈ wsX0_pile := List.mem_of_getElem? (i := 3) rfl
set_option maxRecDepth 100000 in
set_option maxHeartbeats 4000000 in
theorem zc_X0_pile (l : Launch) (D : va_G) (J : Nat → ClassId) (F : Nat) (a_t : Nat) (a_t_buckets : Nat) (a_t_grades : Nat) (a_t_heights : Nat) (a_t_drawn : Nat) (c_t_limit : Int) (c_t_hungSet : Int) (c_t_bucketSum : Int) (c_t_gradeSum : Int) (f_t_buckets : Nat → Int) (f_t_grades : Nat → Int) (f_t_heights : Nat → Int) (p0 : Int) (p1 : Int) (p2 : Int) (res : (Nat → Int) × (Nat → Int) × (Nat → Int)) (hsh : sh_X0_pile F f_t_buckets f_t_grades f_t_heights p0 p1 p2 = some res) : ZM l D J yX0_pile wsX0_pile ({ frames := 0, cells := 0, slots := 0, locals := 0 } : Room) 0 0 [.ref a_t, .int (zi p0), .int (zi p1), .int (zi p2)] [(a_t, .inr (0, [.ref a_t_buckets, .ref a_t_grades, .ref a_t_heights, .ref a_t_drawn, .int (zi c_t_limit), .int (zi c_t_hungSet), .int (zi c_t_bucketSum), .int (zi c_t_gradeSum)])), (a_t_buckets, zI J 96 f_t_buckets), (a_t_grades, zI J 96 f_t_grades), (a_t_heights, zI J 16 f_t_heights)] (fun rv w9 => rv = none ∧ w9 = [(a_t, .inr (0, [.ref a_t_buckets, .ref a_t_grades, .ref a_t_heights, .ref a_t_drawn, .int (zi c_t_limit), .int (zi c_t_hungSet), .int (zi c_t_bucketSum), .int (zi c_t_gradeSum)])), (a_t_buckets, zI J 96 res.1), (a_t_grades, zI J 96 res.2.1), (a_t_heights, zI J 16 res.2.2)]) := by
  refine z_ofZ (cc := cX0_pile) (maxL := 5) (ret := none) 0 0 (by decide) rfl (Nat.le_of_ble_eq_true rfl) [(0, .ref a_t), (1, .int (zi p0)), (2, .int (zi p1)), (3, .int (zi p2))] rfl ?_
  intro p e s m args below meth c A
  unfold sh_X0_pile at hsh
  refine z_aload_n (pc' := 1) 0 dX0_pile_0 rfl rfl rfl ?_
  refine z_getfield (pc' := 4) (C := RX0) (T := TX0) (N := 8) 0 2 dX0_pile_1 iX0_pile_X0 rfl rfl (by decide) mX0_pile_f18 rfl rfl ?_
  refine z_iload_n (pc' := 5) 1 dX0_pile_4 rfl rfl rfl ?_
  have g1 := zkx_p hsh
  replace hsh := zkx_k hsh
  refine z_iaload (pc' := 6) 3 dX0_pile_5 rfl (by decide) g1 rfl ?_
  refine z_istore (pc' := 8) [(4, .int (zi (f_t_heights (p0).toNat))), (0, .ref a_t), (1, .int (zi p0)), (2, .int (zi p1)), (3, .int (zi p2))] dX0_pile_6 (by decide) rfl rfl ?_
  refine z_iload (pc' := 10) 0 dX0_pile_8 rfl rfl ?_
  refine z_bipush (pc' := 12) dX0_pile_10 (by decide) rfl ?_
  have g2 := zkr_p hsh
  replace hsh := zkr_k hsh
  refine z_icmp_ge (pc' := 15) (tgt := 51) dX0_pile_12 (by decide) g2 (by decide) rfl (fun q => ?_) (fun q => ?_)
  · replace hsh := zif_f q hsh
    cases hsh
    exact z_vret rfl dX0_pile_51 ⟨rfl, rfl⟩
  · replace hsh := zif_t q hsh
    refine z_aload_n (pc' := 16) 1 dX0_pile_15 rfl rfl rfl ?_
    refine z_getfield (pc' := 19) (C := RX0) (T := TX0) (N := 8) 0 0 dX0_pile_16 iX0_pile_X0 rfl rfl (by decide) mX0_pile_f9 rfl rfl ?_
    refine z_iload_n (pc' := 20) 2 dX0_pile_19 rfl rfl rfl ?_
    refine z_bipush (pc' := 22) dX0_pile_20 (by decide) rfl ?_
    refine z_imul (pc' := 23) dX0_pile_22 rfl ?_
    refine z_iload (pc' := 25) 0 dX0_pile_23 rfl rfl ?_
    refine z_iadd (pc' := 26) dX0_pile_25 rfl ?_
    refine z_iload_n (pc' := 27) 3 dX0_pile_26 rfl rfl rfl ?_
    have g3 := zkx_p hsh
    replace hsh := zkx_k hsh
    refine z_iastore (pc' := 28) 1 [(a_t, .inr (0, [.ref a_t_buckets, .ref a_t_grades, .ref a_t_heights, .ref a_t_drawn, .int (zi c_t_limit), .int (zi c_t_hungSet), .int (zi c_t_bucketSum), .int (zi c_t_gradeSum)])), (a_t_buckets, zI J 96 (va_up f_t_buckets (((p0 * (6 : Int)) + (f_t_heights (p0).toNat))).toNat p1)), (a_t_grades, zI J 96 f_t_grades), (a_t_heights, zI J 16 f_t_heights)] dX0_pile_27 rfl (by decide) g3 rfl rfl ?_
    refine z_aload_n (pc' := 29) 1 dX0_pile_28 rfl rfl rfl ?_
    refine z_getfield (pc' := 32) (C := RX0) (T := TX0) (N := 8) 0 1 dX0_pile_29 iX0_pile_X0 rfl rfl (by decide) mX0_pile_f15 rfl rfl ?_
    refine z_iload_n (pc' := 33) 2 dX0_pile_32 rfl rfl rfl ?_
    refine z_bipush (pc' := 35) dX0_pile_33 (by decide) rfl ?_
    refine z_imul (pc' := 36) dX0_pile_35 rfl ?_
    refine z_iload (pc' := 38) 0 dX0_pile_36 rfl rfl ?_
    refine z_iadd (pc' := 39) dX0_pile_38 rfl ?_
    refine z_iload_n (pc' := 40) 4 dX0_pile_39 rfl rfl rfl ?_
    refine z_iastore (pc' := 41) 2 [(a_t, .inr (0, [.ref a_t_buckets, .ref a_t_grades, .ref a_t_heights, .ref a_t_drawn, .int (zi c_t_limit), .int (zi c_t_hungSet), .int (zi c_t_bucketSum), .int (zi c_t_gradeSum)])), (a_t_buckets, zI J 96 (va_up f_t_buckets (((p0 * (6 : Int)) + (f_t_heights (p0).toNat))).toNat p1)), (a_t_grades, zI J 96 (va_up f_t_grades (((p0 * (6 : Int)) + (f_t_heights (p0).toNat))).toNat p2)), (a_t_heights, zI J 16 f_t_heights)] dX0_pile_40 rfl (by decide) g3 rfl rfl ?_
    refine z_aload_n (pc' := 42) 1 dX0_pile_41 rfl rfl rfl ?_
    refine z_getfield (pc' := 45) (C := RX0) (T := TX0) (N := 8) 0 2 dX0_pile_42 iX0_pile_X0 rfl rfl (by decide) mX0_pile_f18 rfl rfl ?_
    refine z_iload_n (pc' := 46) 2 dX0_pile_45 rfl rfl rfl ?_
    refine z_iload (pc' := 48) 0 dX0_pile_46 rfl rfl ?_
    refine z_iconst (pc' := 49) dX0_pile_48 rfl ?_
    refine z_iadd (pc' := 50) dX0_pile_49 rfl ?_
    refine z_iastore (pc' := 51) 3 [(a_t, .inr (0, [.ref a_t_buckets, .ref a_t_grades, .ref a_t_heights, .ref a_t_drawn, .int (zi c_t_limit), .int (zi c_t_hungSet), .int (zi c_t_bucketSum), .int (zi c_t_gradeSum)])), (a_t_buckets, zI J 96 (va_up f_t_buckets (((p0 * (6 : Int)) + (f_t_heights (p0).toNat))).toNat p1)), (a_t_grades, zI J 96 (va_up f_t_grades (((p0 * (6 : Int)) + (f_t_heights (p0).toNat))).toNat p2)), (a_t_heights, zI J 16 (va_up f_t_heights (p0).toNat ((f_t_heights (p0).toNat) + (1 : Int))))] dX0_pile_50 rfl (by decide) g1 rfl rfl ?_
    cases hsh
    exact z_vret rfl dX0_pile_51 ⟨rfl, rfl⟩
def sh_X0_drawnFrom (F : Nat) (f_t_drawn : Nat → Int) (p0 : Int) : Option (Int) := zkx p0 16 (some ((f_t_drawn (p0).toNat)))
theorem mX0_drawnFrom_f21 : Cond.fieldLink RX0 21 (TX0 3).1 (TX0 3).2.1 (TX0 3).2.2.1 ∈ wsX0_drawnFrom := List.mem_of_getElem? (i := 1) rfl
theorem iX0_drawnFrom_X0 : ∀ w ∈ wsX00, w ∈ wsX0_drawnFrom := fun _ h => (List.mem_cons_of_mem _ (List.mem_append_right _ h))
set_option maxRecDepth 100000 in
set_option maxHeartbeats 4000000 in
theorem zc_X0_drawnFrom (l : Launch) (D : va_G) (J : Nat → ClassId) (F : Nat) (a_t : Nat) (a_t_buckets : Nat) (a_t_grades : Nat) (a_t_heights : Nat) (a_t_drawn : Nat) (c_t_limit : Int) (c_t_hungSet : Int) (c_t_bucketSum : Int) (c_t_gradeSum : Int) (f_t_drawn : Nat → Int) (p0 : Int) (res : Int) (hsh : sh_X0_drawnFrom F f_t_drawn p0 = some res) : ZM l D J yX0_drawnFrom wsX0_drawnFrom ({ frames := 0, cells := 0, slots := 0, locals := 0 } : Room) 0 0 [.ref a_t, .int (zi p0)] [(a_t, .inr (0, [.ref a_t_buckets, .ref a_t_grades, .ref a_t_heights, .ref a_t_drawn, .int (zi c_t_limit), .int (zi c_t_hungSet), .int (zi c_t_bucketSum), .int (zi c_t_gradeSum)])), (a_t_drawn, zI J 16 f_t_drawn)] (fun rv w9 => rv = some (.int (zi res)) ∧ w9 = [(a_t, .inr (0, [.ref a_t_buckets, .ref a_t_grades, .ref a_t_heights, .ref a_t_drawn, .int (zi c_t_limit), .int (zi c_t_hungSet), .int (zi c_t_bucketSum), .int (zi c_t_gradeSum)])), (a_t_drawn, zI J 16 f_t_drawn)]) := by
  refine z_ofZ (cc := cX0_drawnFrom) (maxL := 2) (ret := (some .int)) 0 0 (by decide) rfl (Nat.le_of_ble_eq_true rfl) [(0, .ref a_t), (1, .int (zi p0))] rfl ?_
  intro p e s m args below meth c A
  unfold sh_X0_drawnFrom at hsh
  refine z_aload_n (pc' := 1) 0 dX0_drawnFrom_0 rfl rfl rfl ?_
  refine z_getfield (pc' := 4) (C := RX0) (T := TX0) (N := 8) 0 3 dX0_drawnFrom_1 iX0_drawnFrom_X0 rfl rfl (by decide) mX0_drawnFrom_f21 rfl rfl ?_
  refine z_iload_n (pc' := 5) 1 dX0_drawnFrom_4 rfl rfl rfl ?_
  have g1 := zkx_p hsh
  replace hsh := zkx_k hsh
  refine z_iaload (pc' := 6) 1 dX0_drawnFrom_5 rfl (by decide) g1 rfl ?_
  cases hsh
  exact z_iret rfl dX0_drawnFrom_6 ⟨rfl, rfl⟩
def sh_X0_leftIn_L4 (F : Nat) (p0 : Int) (f_t_buckets : Nat → Int) (f_t_heights : Nat → Int) (k : Int → Int → Option (Int)) : Nat → Int → Int → Option (Int)
  | 0, _, _ => none
  | N + 1, v3, v4 => zkx p0 16 (zkr v4 (zkr (f_t_heights (p0).toNat) (if v4 < (f_t_heights (p0).toNat) then zkx ((p0 * (6 : Int)) + v4) 96 (sh_X0_leftIn_L4 F p0 f_t_buckets f_t_heights k N (v3 + (f_t_buckets (((p0 * (6 : Int)) + v4)).toNat)) (v4 + (1 : Int))) else k v3 v4)))
def sh_X0_leftIn (F : Nat) (f_t_buckets : Nat → Int) (f_t_heights : Nat → Int) (p0 : Int) : Option (Int) := sh_X0_leftIn_L4 F p0 f_t_buckets f_t_heights (fun (v9 : Int) (v10 : Int) => some (v9)) F (0 : Int) (0 : Int)
theorem mX0_leftIn_f18 : Cond.fieldLink RX0 18 (TX0 2).1 (TX0 2).2.1 (TX0 2).2.2.1 ∈ wsX0_leftIn := List.mem_of_getElem? (i := 1) rfl
theorem iX0_leftIn_X0 : ∀ w ∈ wsX00, w ∈ wsX0_leftIn := fun _ h => (List.mem_cons_of_mem _ (List.mem_append_right _ h))
theorem mX0_leftIn_f9 : Cond.fieldLink RX0 9 (TX0 0).1 (TX0 0).2.1 (TX0 0).2.2.1 ∈ wsX0_leftIn := List.mem_of_getElem? (i := 2) rfl
set_option maxRecDepth 100000 in
set_option maxHeartbeats 4000000 in
theorem zl_X0_leftIn_L4 {p : Program} {l : Launch} {e : Env} {s : State} {m : MethodId} {args : Array Value} {below : List Frame} {meth : Method} {c : Code} {A : Nat → Prop} {D : va_G} {J : Nat → ClassId} {F : Nat} {p0 : Int} {f_t_buckets : Nat → Int} {f_t_heights : Nat → Int} {a_t : Nat} {a_t_buckets : Nat} {a_t_grades : Nat} {a_t_heights : Nat} {a_t_drawn : Nat} {c_t_limit : Int} {c_t_hungSet : Int} {c_t_bucketSum : Int} {c_t_gradeSum : Int} {res : Int} {k : Int → Int → Option (Int)} (hk : ∀ (v3' : Int) (v4' : Int), k v3' v4' = some res → Z p l e ({ frames := 0, cells := 0, slots := 0, locals := 0 } : Room) s m args below meth c (MQ below (zQ D J A (fun rv w9 => rv = some (.int (zi res)) ∧ w9 = [(a_t, .inr (0, [.ref a_t_buckets, .ref a_t_grades, .ref a_t_heights, .ref a_t_drawn, .int (zi c_t_limit), .int (zi c_t_hungSet), .int (zi c_t_bucketSum), .int (zi c_t_gradeSum)])), (a_t_buckets, zI J 96 f_t_buckets), (a_t_heights, zI J 16 f_t_heights)])) args s 0 0 A) cX0_leftIn 4 wsX0_leftIn RX0 D J A (some .int) (yX0_leftIn.name, []) 0 0 [(a_t, .inr (0, [.ref a_t_buckets, .ref a_t_grades, .ref a_t_heights, .ref a_t_drawn, .int (zi c_t_limit), .int (zi c_t_hungSet), .int (zi c_t_bucketSum), .int (zi c_t_gradeSum)])), (a_t_buckets, zI J 96 f_t_buckets), (a_t_heights, zI J 16 f_t_heights)] [(2, .int (zi v3'))] 34 []) : ∀ (N : Nat) (v3 : Int) (v4 : Int), sh_X0_leftIn_L4 F p0 f_t_buckets f_t_heights k N v3 v4 = some res → Z p l e ({ frames := 0, cells := 0, slots := 0, locals := 0 } : Room) s m args below meth c (MQ below (zQ D J A (fun rv w9 => rv = some (.int (zi res)) ∧ w9 = [(a_t, .inr (0, [.ref a_t_buckets, .ref a_t_grades, .ref a_t_heights, .ref a_t_drawn, .int (zi c_t_limit), .int (zi c_t_hungSet), .int (zi c_t_bucketSum), .int (zi c_t_gradeSum)])), (a_t_buckets, zI J 96 f_t_buckets), (a_t_heights, zI J 16 f_t_heights)])) args s 0 0 A) cX0_leftIn 4 wsX0_leftIn RX0 D J A (some .int) (yX0_leftIn.name, []) 0 0 [(a_t, .inr (0, [.ref a_t_buckets, .ref a_t_grades, .ref a_t_heights, .ref a_t_drawn, .int (zi c_t_limit), .int (zi c_t_hungSet), .int (zi c_t_bucketSum), .int (zi c_t_gradeSum)])), (a_t_buckets, zI J 96 f_t_buckets), (a_t_heights, zI J 16 f_t_heights)] [(0, .ref a_t), (1, .int (zi p0)), (2, .int (zi v3)), (3, .int (zi v4))] 4 [] := by
  intro N
  induction N with
  | zero =>
    intro v3 v4 hsh
    exact absurd hsh (by simp [sh_X0_leftIn_L4])
  | succ N ih =>
    intro v3 v4 hsh
    rw [sh_X0_leftIn_L4] at hsh
    refine z_iload_n (pc' := 5) 3 dX0_leftIn_4 rfl rfl rfl ?_
    refine z_aload_n (pc' := 6) 0 dX0_leftIn_5 rfl rfl rfl ?_
    refine z_getfield (pc' := 9) (C := RX0) (T := TX0) (N := 8) 0 2 dX0_leftIn_6 iX0_leftIn_X0 rfl rfl (by decide) mX0_leftIn_f18 rfl rfl ?_
    refine z_iload_n (pc' := 10) 1 dX0_leftIn_9 rfl rfl rfl ?_
    have g5 := zkx_p hsh
    replace hsh := zkx_k hsh
    refine z_iaload (pc' := 11) 2 dX0_leftIn_10 rfl (by decide) g5 rfl ?_
    have g6 := zkr_p hsh
    replace hsh := zkr_k hsh
    have g7 := zkr_p hsh
    replace hsh := zkr_k hsh
    refine z_icmp_ge (pc' := 14) (tgt := 34) dX0_leftIn_11 (by decide) g6 g7 rfl (fun q => ?_) (fun q => ?_)
    · replace hsh := zif_f q hsh
      refine z_perm [(a_t, .inr (0, [.ref a_t_buckets, .ref a_t_grades, .ref a_t_heights, .ref a_t_drawn, .int (zi c_t_limit), .int (zi c_t_hungSet), .int (zi c_t_bucketSum), .int (zi c_t_gradeSum)])), (a_t_buckets, zI J 96 f_t_buckets), (a_t_heights, zI J 16 f_t_heights)] [(2, .int (zi v3))] [0, 1, 2] [2] rfl rfl rfl ?_
      exact hk _ _ hsh
    · replace hsh := zif_t q hsh
      refine z_iload_n (pc' := 15) 2 dX0_leftIn_14 rfl rfl rfl ?_
      refine z_aload_n (pc' := 16) 0 dX0_leftIn_15 rfl rfl rfl ?_
      refine z_getfield (pc' := 19) (C := RX0) (T := TX0) (N := 8) 0 0 dX0_leftIn_16 iX0_leftIn_X0 rfl rfl (by decide) mX0_leftIn_f9 rfl rfl ?_
      refine z_iload_n (pc' := 20) 1 dX0_leftIn_19 rfl rfl rfl ?_
      refine z_bipush (pc' := 22) dX0_leftIn_20 (by decide) rfl ?_
      refine z_imul (pc' := 23) dX0_leftIn_22 rfl ?_
      refine z_iload_n (pc' := 24) 3 dX0_leftIn_23 rfl rfl rfl ?_
      refine z_iadd (pc' := 25) dX0_leftIn_24 rfl ?_
      have g8 := zkx_p hsh
      replace hsh := zkx_k hsh
      refine z_iaload (pc' := 26) 1 dX0_leftIn_25 rfl (by decide) g8 rfl ?_
      refine z_iadd (pc' := 27) dX0_leftIn_26 rfl ?_
      refine z_istore_n (pc' := 28) [(2, .int (zi (v3 + (f_t_buckets (((p0 * (6 : Int)) + v4)).toNat)))), (0, .ref a_t), (1, .int (zi p0)), (3, .int (zi v4))] dX0_leftIn_27 rfl (by decide) rfl rfl ?_
      refine z_iinc (pc' := 31) [(3, .int (zi (v4 + (1 : Int)))), (2, .int (zi (v3 + (f_t_buckets (((p0 * (6 : Int)) + v4)).toNat)))), (0, .ref a_t), (1, .int (zi p0))] 3 dX0_leftIn_28 rfl (by decide) rfl rfl ?_
      refine z_goto (tgt := 4) dX0_leftIn_31 (by decide) ?_
      refine z_perm [(a_t, .inr (0, [.ref a_t_buckets, .ref a_t_grades, .ref a_t_heights, .ref a_t_drawn, .int (zi c_t_limit), .int (zi c_t_hungSet), .int (zi c_t_bucketSum), .int (zi c_t_gradeSum)])), (a_t_buckets, zI J 96 f_t_buckets), (a_t_heights, zI J 16 f_t_heights)] [(0, .ref a_t), (1, .int (zi p0)), (2, .int (zi (v3 + (f_t_buckets (((p0 * (6 : Int)) + v4)).toNat)))), (3, .int (zi (v4 + (1 : Int))))] [0, 1, 2] [2, 3, 1, 0] rfl rfl rfl ?_
      exact ih _ _ hsh
set_option maxRecDepth 100000 in
set_option maxHeartbeats 4000000 in
theorem zc_X0_leftIn (l : Launch) (D : va_G) (J : Nat → ClassId) (F : Nat) (a_t : Nat) (a_t_buckets : Nat) (a_t_grades : Nat) (a_t_heights : Nat) (a_t_drawn : Nat) (c_t_limit : Int) (c_t_hungSet : Int) (c_t_bucketSum : Int) (c_t_gradeSum : Int) (f_t_buckets : Nat → Int) (f_t_heights : Nat → Int) (p0 : Int) (res : Int) (hsh : sh_X0_leftIn F f_t_buckets f_t_heights p0 = some res) : ZM l D J yX0_leftIn wsX0_leftIn ({ frames := 0, cells := 0, slots := 0, locals := 0 } : Room) 0 0 [.ref a_t, .int (zi p0)] [(a_t, .inr (0, [.ref a_t_buckets, .ref a_t_grades, .ref a_t_heights, .ref a_t_drawn, .int (zi c_t_limit), .int (zi c_t_hungSet), .int (zi c_t_bucketSum), .int (zi c_t_gradeSum)])), (a_t_buckets, zI J 96 f_t_buckets), (a_t_heights, zI J 16 f_t_heights)] (fun rv w9 => rv = some (.int (zi res)) ∧ w9 = [(a_t, .inr (0, [.ref a_t_buckets, .ref a_t_grades, .ref a_t_heights, .ref a_t_drawn, .int (zi c_t_limit), .int (zi c_t_hungSet), .int (zi c_t_bucketSum), .int (zi c_t_gradeSum)])), (a_t_buckets, zI J 96 f_t_buckets), (a_t_heights, zI J 16 f_t_heights)]) := by
  refine z_ofZ (cc := cX0_leftIn) (maxL := 4) (ret := (some .int)) 0 0 (by decide) rfl (Nat.le_of_ble_eq_true rfl) [(0, .ref a_t), (1, .int (zi p0))] rfl ?_
  intro p e s m args below meth c A
  unfold sh_X0_leftIn at hsh
  refine z_iconst (pc' := 1) dX0_leftIn_0 rfl ?_
  refine z_istore_n (pc' := 2) [(2, .int (zi (0 : Int))), (0, .ref a_t), (1, .int (zi p0))] dX0_leftIn_1 rfl (by decide) rfl rfl ?_
  refine z_iconst (pc' := 3) dX0_leftIn_2 rfl ?_
  refine z_istore_n (pc' := 4) [(3, .int (zi (0 : Int))), (2, .int (zi (0 : Int))), (0, .ref a_t), (1, .int (zi p0))] dX0_leftIn_3 rfl (by decide) rfl rfl ?_
  refine z_perm [(a_t, .inr (0, [.ref a_t_buckets, .ref a_t_grades, .ref a_t_heights, .ref a_t_drawn, .int (zi c_t_limit), .int (zi c_t_hungSet), .int (zi c_t_bucketSum), .int (zi c_t_gradeSum)])), (a_t_buckets, zI J 96 f_t_buckets), (a_t_heights, zI J 16 f_t_heights)] [(0, .ref a_t), (1, .int (zi p0)), (2, .int (zi (0 : Int))), (3, .int (zi (0 : Int)))] [0, 1, 2] [2, 3, 1, 0] rfl rfl rfl ?_
  refine zl_X0_leftIn_L4 (F := F) (hk := fun v9 v10 hsh => ?_) _ _ _ hsh
  refine z_iload_n (pc' := 35) 0 dX0_leftIn_34 rfl rfl rfl ?_
  cases hsh
  exact z_iret rfl dX0_leftIn_35 ⟨rfl, rfl⟩
def sh_X0_height (F : Nat) (f_t_heights : Nat → Int) (p0 : Int) : Option (Int) := zkx p0 16 (some ((f_t_heights (p0).toNat)))
theorem mX0_height_f18 : Cond.fieldLink RX0 18 (TX0 2).1 (TX0 2).2.1 (TX0 2).2.2.1 ∈ wsX0_height := List.mem_of_getElem? (i := 1) rfl
theorem iX0_height_X0 : ∀ w ∈ wsX00, w ∈ wsX0_height := fun _ h => (List.mem_cons_of_mem _ (List.mem_append_right _ h))
set_option maxRecDepth 100000 in
set_option maxHeartbeats 4000000 in
theorem zc_X0_height (l : Launch) (D : va_G) (J : Nat → ClassId) (F : Nat) (a_t : Nat) (a_t_buckets : Nat) (a_t_grades : Nat) (a_t_heights : Nat) (a_t_drawn : Nat) (c_t_limit : Int) (c_t_hungSet : Int) (c_t_bucketSum : Int) (c_t_gradeSum : Int) (f_t_heights : Nat → Int) (p0 : Int) (res : Int) (hsh : sh_X0_height F f_t_heights p0 = some res) : ZM l D J yX0_height wsX0_height ({ frames := 0, cells := 0, slots := 0, locals := 0 } : Room) 0 0 [.ref a_t, .int (zi p0)] [(a_t, .inr (0, [.ref a_t_buckets, .ref a_t_grades, .ref a_t_heights, .ref a_t_drawn, .int (zi c_t_limit), .int (zi c_t_hungSet), .int (zi c_t_bucketSum), .int (zi c_t_gradeSum)])), (a_t_heights, zI J 16 f_t_heights)] (fun rv w9 => rv = some (.int (zi res)) ∧ w9 = [(a_t, .inr (0, [.ref a_t_buckets, .ref a_t_grades, .ref a_t_heights, .ref a_t_drawn, .int (zi c_t_limit), .int (zi c_t_hungSet), .int (zi c_t_bucketSum), .int (zi c_t_gradeSum)])), (a_t_heights, zI J 16 f_t_heights)]) := by
  refine z_ofZ (cc := cX0_height) (maxL := 2) (ret := (some .int)) 0 0 (by decide) rfl (Nat.le_of_ble_eq_true rfl) [(0, .ref a_t), (1, .int (zi p0))] rfl ?_
  intro p e s m args below meth c A
  unfold sh_X0_height at hsh
  refine z_aload_n (pc' := 1) 0 dX0_height_0 rfl rfl rfl ?_
  refine z_getfield (pc' := 4) (C := RX0) (T := TX0) (N := 8) 0 2 dX0_height_1 iX0_height_X0 rfl rfl (by decide) mX0_height_f18 rfl rfl ?_
  refine z_iload_n (pc' := 5) 1 dX0_height_4 rfl rfl rfl ?_
  have g1 := zkx_p hsh
  replace hsh := zkx_k hsh
  refine z_iaload (pc' := 6) 1 dX0_height_5 rfl (by decide) g1 rfl ?_
  cases hsh
  exact z_iret rfl dX0_height_6 ⟨rfl, rfl⟩
def sh_X0_gradeOf_L5 (F : Nat) (p0 : Int) (p1 : Int) (f_t_buckets : Nat → Int) (f_t_grades : Nat → Int) (f_t_heights : Nat → Int) (k : Int → Int → Option (Int)) : Nat → Int → Int → Option (Int)
  | 0, _, _ => none
  | N + 1, v3, v4 => zkx p0 16 (zkr v4 (zkr (f_t_heights (p0).toNat) (if v4 < (f_t_heights (p0).toNat) then zkx ((p0 * (6 : Int)) + v4) 96 (zkr p1 (zkr (v3 + (f_t_buckets (((p0 * (6 : Int)) + v4)).toNat)) (if p1 < (v3 + (f_t_buckets (((p0 * (6 : Int)) + v4)).toNat)) then some ((f_t_grades (((p0 * (6 : Int)) + v4)).toNat)) else sh_X0_gradeOf_L5 F p0 p1 f_t_buckets f_t_grades f_t_heights k N (v3 + (f_t_buckets (((p0 * (6 : Int)) + v4)).toNat)) (v4 + (1 : Int))))) else k v3 v4)))
def sh_X0_gradeOf (F : Nat) (f_t_buckets : Nat → Int) (f_t_grades : Nat → Int) (f_t_heights : Nat → Int) (p0 : Int) (p1 : Int) : Option (Int) := sh_X0_gradeOf_L5 F p0 p1 f_t_buckets f_t_grades f_t_heights (fun (v11 : Int) (v12 : Int) => some ((-9 : Int))) F (0 : Int) (0 : Int)
theorem mX0_gradeOf_f18 : Cond.fieldLink RX0 18 (TX0 2).1 (TX0 2).2.1 (TX0 2).2.2.1 ∈ wsX0_gradeOf := List.mem_of_getElem? (i := 1) rfl
theorem iX0_gradeOf_X0 : ∀ w ∈ wsX00, w ∈ wsX0_gradeOf := fun _ h => (List.mem_cons_of_mem _ (List.mem_append_right _ h))
theorem mX0_gradeOf_f9 : Cond.fieldLink RX0 9 (TX0 0).1 (TX0 0).2.1 (TX0 0).2.2.1 ∈ wsX0_gradeOf := List.mem_of_getElem? (i := 2) rfl
theorem mX0_gradeOf_f15 : Cond.fieldLink RX0 15 (TX0 1).1 (TX0 1).2.1 (TX0 1).2.2.1 ∈ wsX0_gradeOf := List.mem_of_getElem? (i := 3) rfl
set_option maxRecDepth 100000 in
set_option maxHeartbeats 4000000 in
theorem zl_X0_gradeOf_L5 {p : Program} {l : Launch} {e : Env} {s : State} {m : MethodId} {args : Array Value} {below : List Frame} {meth : Method} {c : Code} {A : Nat → Prop} {D : va_G} {J : Nat → ClassId} {F : Nat} {p0 : Int} {p1 : Int} {f_t_buckets : Nat → Int} {f_t_grades : Nat → Int} {f_t_heights : Nat → Int} {a_t : Nat} {a_t_buckets : Nat} {a_t_grades : Nat} {a_t_heights : Nat} {a_t_drawn : Nat} {c_t_limit : Int} {c_t_hungSet : Int} {c_t_bucketSum : Int} {c_t_gradeSum : Int} {res : Int} {k : Int → Int → Option (Int)} (hk : ∀ (v3' : Int) (v4' : Int), k v3' v4' = some res → Z p l e ({ frames := 0, cells := 0, slots := 0, locals := 0 } : Room) s m args below meth c (MQ below (zQ D J A (fun rv w9 => rv = some (.int (zi res)) ∧ w9 = [(a_t, .inr (0, [.ref a_t_buckets, .ref a_t_grades, .ref a_t_heights, .ref a_t_drawn, .int (zi c_t_limit), .int (zi c_t_hungSet), .int (zi c_t_bucketSum), .int (zi c_t_gradeSum)])), (a_t_buckets, zI J 96 f_t_buckets), (a_t_grades, zI J 96 f_t_grades), (a_t_heights, zI J 16 f_t_heights)])) args s 0 0 A) cX0_gradeOf 5 wsX0_gradeOf RX0 D J A (some .int) (yX0_gradeOf.name, []) 0 0 [(a_t, .inr (0, [.ref a_t_buckets, .ref a_t_grades, .ref a_t_heights, .ref a_t_drawn, .int (zi c_t_limit), .int (zi c_t_hungSet), .int (zi c_t_bucketSum), .int (zi c_t_gradeSum)])), (a_t_buckets, zI J 96 f_t_buckets), (a_t_grades, zI J 96 f_t_grades), (a_t_heights, zI J 16 f_t_heights)] [] 55 []) : ∀ (N : Nat) (v3 : Int) (v4 : Int), sh_X0_gradeOf_L5 F p0 p1 f_t_buckets f_t_grades f_t_heights k N v3 v4 = some res → Z p l e ({ frames := 0, cells := 0, slots := 0, locals := 0 } : Room) s m args below meth c (MQ below (zQ D J A (fun rv w9 => rv = some (.int (zi res)) ∧ w9 = [(a_t, .inr (0, [.ref a_t_buckets, .ref a_t_grades, .ref a_t_heights, .ref a_t_drawn, .int (zi c_t_limit), .int (zi c_t_hungSet), .int (zi c_t_bucketSum), .int (zi c_t_gradeSum)])), (a_t_buckets, zI J 96 f_t_buckets), (a_t_grades, zI J 96 f_t_grades), (a_t_heights, zI J 16 f_t_heights)])) args s 0 0 A) cX0_gradeOf 5 wsX0_gradeOf RX0 D J A (some .int) (yX0_gradeOf.name, []) 0 0 [(a_t, .inr (0, [.ref a_t_buckets, .ref a_t_grades, .ref a_t_heights, .ref a_t_drawn, .int (zi c_t_limit), .int (zi c_t_hungSet), .int (zi c_t_bucketSum), .int (zi c_t_gradeSum)])), (a_t_buckets, zI J 96 f_t_buckets), (a_t_grades, zI J 96 f_t_grades), (a_t_heights, zI J 16 f_t_heights)] [(0, .ref a_t), (1, .int (zi p0)), (2, .int (zi p1)), (3, .int (zi v3)), (4, .int (zi v4))] 5 [] := by
  intro N
  induction N with
  | zero =>
    intro v3 v4 hsh
    exact absurd hsh (by simp [sh_X0_gradeOf_L5])
  | succ N ih =>
    intro v3 v4 hsh
    rw [sh_X0_gradeOf_L5] at hsh
    refine z_iload (pc' := 7) 4 dX0_gradeOf_5 rfl rfl ?_
    refine z_aload_n (pc' := 8) 0 dX0_gradeOf_7 rfl rfl rfl ?_
    refine z_getfield (pc' := 11) (C := RX0) (T := TX0) (N := 8) 0 2 dX0_gradeOf_8 iX0_gradeOf_X0 rfl rfl (by decide) mX0_gradeOf_f18 rfl rfl ?_
    refine z_iload_n (pc' := 12) 1 dX0_gradeOf_11 rfl rfl rfl ?_
    have g5 := zkx_p hsh
    replace hsh := zkx_k hsh
    refine z_iaload (pc' := 13) 3 dX0_gradeOf_12 rfl (by decide) g5 rfl ?_
    have g6 := zkr_p hsh
    replace hsh := zkr_k hsh
    have g7 := zkr_p hsh
    replace hsh := zkr_k hsh
    refine z_icmp_ge (pc' := 16) (tgt := 55) dX0_gradeOf_13 (by decide) g6 g7 rfl (fun q => ?_) (fun q => ?_)
    · replace hsh := zif_f q hsh
      refine z_perm [(a_t, .inr (0, [.ref a_t_buckets, .ref a_t_grades, .ref a_t_heights, .ref a_t_drawn, .int (zi c_t_limit), .int (zi c_t_hungSet), .int (zi c_t_bucketSum), .int (zi c_t_gradeSum)])), (a_t_buckets, zI J 96 f_t_buckets), (a_t_grades, zI J 96 f_t_grades), (a_t_heights, zI J 16 f_t_heights)] [] [0, 1, 2, 3] [] rfl rfl rfl ?_
      exact hk _ _ hsh
    · replace hsh := zif_t q hsh
      refine z_iload_n (pc' := 17) 3 dX0_gradeOf_16 rfl rfl rfl ?_
      refine z_aload_n (pc' := 18) 0 dX0_gradeOf_17 rfl rfl rfl ?_
      refine z_getfield (pc' := 21) (C := RX0) (T := TX0) (N := 8) 0 0 dX0_gradeOf_18 iX0_gradeOf_X0 rfl rfl (by decide) mX0_gradeOf_f9 rfl rfl ?_
      refine z_iload_n (pc' := 22) 1 dX0_gradeOf_21 rfl rfl rfl ?_
      refine z_bipush (pc' := 24) dX0_gradeOf_22 (by decide) rfl ?_
      refine z_imul (pc' := 25) dX0_gradeOf_24 rfl ?_
      refine z_iload (pc' := 27) 4 dX0_gradeOf_25 rfl rfl ?_
      refine z_iadd (pc' := 28) dX0_gradeOf_27 rfl ?_
      have g8 := zkx_p hsh
      replace hsh := zkx_k hsh
      refine z_iaload (pc' := 29) 1 dX0_gradeOf_28 rfl (by decide) g8 rfl ?_
      refine z_iadd (pc' := 30) dX0_gradeOf_29 rfl ?_
      refine z_istore_n (pc' := 31) [(3, .int (zi (v3 + (f_t_buckets (((p0 * (6 : Int)) + v4)).toNat)))), (0, .ref a_t), (1, .int (zi p0)), (2, .int (zi p1)), (4, .int (zi v4))] dX0_gradeOf_30 rfl (by decide) rfl rfl ?_
      refine z_iload_n (pc' := 32) 3 dX0_gradeOf_31 rfl rfl rfl ?_
      refine z_iload_n (pc' := 33) 0 dX0_gradeOf_32 rfl rfl rfl ?_
      have g9 := zkr_p hsh
      replace hsh := zkr_k hsh
      have g10 := zkr_p hsh
      replace hsh := zkr_k hsh
      refine z_icmp_ge (pc' := 36) (tgt := 49) dX0_gradeOf_33 (by decide) g9 g10 rfl (fun q => ?_) (fun q => ?_)
      · replace hsh := zif_f q hsh
        refine z_iinc (pc' := 52) [(4, .int (zi (v4 + (1 : Int)))), (3, .int (zi (v3 + (f_t_buckets (((p0 * (6 : Int)) + v4)).toNat)))), (0, .ref a_t), (1, .int (zi p0)), (2, .int (zi p1))] 4 dX0_gradeOf_49 rfl (by decide) rfl rfl ?_
        refine z_goto (tgt := 5) dX0_gradeOf_52 (by decide) ?_
        refine z_perm [(a_t, .inr (0, [.ref a_t_buckets, .ref a_t_grades, .ref a_t_heights, .ref a_t_drawn, .int (zi c_t_limit), .int (zi c_t_hungSet), .int (zi c_t_bucketSum), .int (zi c_t_gradeSum)])), (a_t_buckets, zI J 96 f_t_buckets), (a_t_grades, zI J 96 f_t_grades), (a_t_heights, zI J 16 f_t_heights)] [(0, .ref a_t), (1, .int (zi p0)), (2, .int (zi p1)), (3, .int (zi (v3 + (f_t_buckets (((p0 * (6 : Int)) + v4)).toNat)))), (4, .int (zi (v4 + (1 : Int))))] [0, 1, 2, 3] [2, 3, 4, 1, 0] rfl rfl rfl ?_
        exact ih _ _ hsh
      · replace hsh := zif_t q hsh
        refine z_aload_n (pc' := 37) 1 dX0_gradeOf_36 rfl rfl rfl ?_
        refine z_getfield (pc' := 40) (C := RX0) (T := TX0) (N := 8) 0 1 dX0_gradeOf_37 iX0_gradeOf_X0 rfl rfl (by decide) mX0_gradeOf_f15 rfl rfl ?_
        refine z_iload_n (pc' := 41) 2 dX0_gradeOf_40 rfl rfl rfl ?_
        refine z_bipush (pc' := 43) dX0_gradeOf_41 (by decide) rfl ?_
        refine z_imul (pc' := 44) dX0_gradeOf_43 rfl ?_
        refine z_iload (pc' := 46) 4 dX0_gradeOf_44 rfl rfl ?_
        refine z_iadd (pc' := 47) dX0_gradeOf_46 rfl ?_
        refine z_iaload (pc' := 48) 2 dX0_gradeOf_47 rfl (by decide) g8 rfl ?_
        cases hsh
        exact z_iret rfl dX0_gradeOf_48 ⟨rfl, rfl⟩
set_option maxRecDepth 100000 in
set_option maxHeartbeats 4000000 in
theorem zc_X0_gradeOf (l : Launch) (D : va_G) (J : Nat → ClassId) (F : Nat) (a_t : Nat) (a_t_buckets : Nat) (a_t_grades : Nat) (a_t_heights : Nat) (a_t_drawn : Nat) (c_t_limit : Int) (c_t_hungSet : Int) (c_t_bucketSum : Int) (c_t_gradeSum : Int) (f_t_buckets : Nat → Int) (f_t_grades : Nat → Int) (f_t_heights : Nat → Int) (p0 : Int) (p1 : Int) (res : Int) (hsh : sh_X0_gradeOf F f_t_buckets f_t_grades f_t_heights p0 p1 = some res) : ZM l D J yX0_gradeOf wsX0_gradeOf ({ frames := 0, cells := 0, slots := 0, locals := 0 } : Room) 0 0 [.ref a_t, .int (zi p0), .int (zi p1)] [(a_t, .inr (0, [.ref a_t_buckets, .ref a_t_grades, .ref a_t_heights, .ref a_t_drawn, .int (zi c_t_limit), .int (zi c_t_hungSet), .int (zi c_t_bucketSum), .int (zi c_t_gradeSum)])), (a_t_buckets, zI J 96 f_t_buckets), (a_t_grades, zI J 96 f_t_grades), (a_t_heights, zI J 16 f_t_heights)] (fun rv w9 => rv = some (.int (zi res)) ∧ w9 = [(a_t, .inr (0, [.ref a_t_buckets, .ref a_t_grades, .ref a_t_heights, .ref a_t_drawn, .int (zi c_t_limit), .int (zi c_t_hungSet), .int (zi c_t_bucketSum), .int (zi c_t_gradeSum)])), (a_t_buckets, zI J 96 f_t_buckets), (a_t_grades, zI J 96 f_t_grades), (a_t_heights, zI J 16 f_t_heights)]) := by
  refine z_ofZ (cc := cX0_gradeOf) (maxL := 5) (ret := (some .int)) 0 0 (by decide) rfl (Nat.le_of_ble_eq_true rfl) [(0, .ref a_t), (1, .int (zi p0)), (2, .int (zi p1))] rfl ?_
  intro p e s m args below meth c A
  unfold sh_X0_gradeOf at hsh
  refine z_iconst (pc' := 1) dX0_gradeOf_0 rfl ?_
  refine z_istore_n (pc' := 2) [(3, .int (zi (0 : Int))), (0, .ref a_t), (1, .int (zi p0)), (2, .int (zi p1))] dX0_gradeOf_1 rfl (by decide) rfl rfl ?_
  refine z_iconst (pc' := 3) dX0_gradeOf_2 rfl ?_
  refine z_istore (pc' := 5) [(4, .int (zi (0 : Int))), (3, .int (zi (0 : Int))), (0, .ref a_t), (1, .int (zi p0)), (2, .int (zi p1))] dX0_gradeOf_3 (by decide) rfl rfl ?_
  refine z_perm [(a_t, .inr (0, [.ref a_t_buckets, .ref a_t_grades, .ref a_t_heights, .ref a_t_drawn, .int (zi c_t_limit), .int (zi c_t_hungSet), .int (zi c_t_bucketSum), .int (zi c_t_gradeSum)])), (a_t_buckets, zI J 96 f_t_buckets), (a_t_grades, zI J 96 f_t_grades), (a_t_heights, zI J 16 f_t_heights)] [(0, .ref a_t), (1, .int (zi p0)), (2, .int (zi p1)), (3, .int (zi (0 : Int))), (4, .int (zi (0 : Int)))] [0, 1, 2, 3] [2, 3, 4, 1, 0] rfl rfl rfl ?_
  refine zl_X0_gradeOf_L5 (F := F) (hk := fun v11 v12 hsh => ?_) _ _ _ hsh
  refine z_bipush (pc' := 57) dX0_gradeOf_55 (by decide) rfl ?_
  cases hsh
  exact z_iret rfl dX0_gradeOf_57 ⟨rfl, rfl⟩
def sh_X0_hangs (F : Nat) (c_t_hungSet : Int) (p0 : Int) : Option (Int) := zkr (zand c_t_hungSet (zshl (1 : Int) p0)) (if (zand c_t_hungSet (zshl (1 : Int) p0)) = (0 : Int) then some ((0 : Int)) else some ((1 : Int)))
theorem mX0_hangs_f34 : Cond.fieldLink RX0 34 (TX0 5).1 (TX0 5).2.1 (TX0 5).2.2.1 ∈ wsX0_hangs := List.mem_of_getElem? (i := 1) rfl
theorem iX0_hangs_X0 : ∀ w ∈ wsX00, w ∈ wsX0_hangs := fun _ h => (List.mem_cons_of_mem _ (List.mem_append_right _ h))
set_option maxRecDepth 100000 in
set_option maxHeartbeats 4000000 in
theorem zc_X0_hangs (l : Launch) (D : va_G) (J : Nat → ClassId) (F : Nat) (a_t : Nat) (a_t_buckets : Nat) (a_t_grades : Nat) (a_t_heights : Nat) (a_t_drawn : Nat) (c_t_limit : Int) (c_t_hungSet : Int) (c_t_bucketSum : Int) (c_t_gradeSum : Int) (p0 : Int) (res : Int) (hsh : sh_X0_hangs F c_t_hungSet p0 = some res) : ZM l D J yX0_hangs wsX0_hangs ({ frames := 0, cells := 0, slots := 0, locals := 0 } : Room) 0 0 [.ref a_t, .int (zi p0)] [(a_t, .inr (0, [.ref a_t_buckets, .ref a_t_grades, .ref a_t_heights, .ref a_t_drawn, .int (zi c_t_limit), .int (zi c_t_hungSet), .int (zi c_t_bucketSum), .int (zi c_t_gradeSum)]))] (fun rv w9 => rv = some (.int (zi res)) ∧ w9 = [(a_t, .inr (0, [.ref a_t_buckets, .ref a_t_grades, .ref a_t_heights, .ref a_t_drawn, .int (zi c_t_limit), .int (zi c_t_hungSet), .int (zi c_t_bucketSum), .int (zi c_t_gradeSum)]))]) := by
  refine z_ofZ (cc := cX0_hangs) (maxL := 2) (ret := (some .boolean)) 0 0 (by decide) rfl (Nat.le_of_ble_eq_true rfl) [(0, .ref a_t), (1, .int (zi p0))] rfl ?_
  intro p e s m args below meth c A
  unfold sh_X0_hangs at hsh
  refine z_aload_n (pc' := 1) 0 dX0_hangs_0 rfl rfl rfl ?_
  refine z_getfield (pc' := 4) (C := RX0) (T := TX0) (N := 8) 0 5 dX0_hangs_1 iX0_hangs_X0 rfl rfl (by decide) mX0_hangs_f34 rfl rfl ?_
  refine z_iconst (pc' := 5) dX0_hangs_4 rfl ?_
  refine z_iload_n (pc' := 6) 1 dX0_hangs_5 rfl rfl rfl ?_
  refine z_ishl (pc' := 7) dX0_hangs_6 rfl ?_
  refine z_iand (pc' := 8) dX0_hangs_7 rfl ?_
  have g1 := zkr_p hsh
  replace hsh := zkr_k hsh
  refine z_if_eq (pc' := 11) (tgt := 15) dX0_hangs_8 (by decide) g1 rfl (fun q => ?_) (fun q => ?_)
  · replace hsh := zif_t q hsh
    refine z_iconst (pc' := 16) dX0_hangs_15 rfl ?_
    cases hsh
    exact z_zret rfl (by decide) dX0_hangs_16 ⟨rfl, rfl⟩
  · replace hsh := zif_f q hsh
    refine z_iconst (pc' := 12) dX0_hangs_11 rfl ?_
    refine z_goto (tgt := 16) dX0_hangs_12 (by decide) ?_
    cases hsh
    exact z_zret rfl (by decide) dX0_hangs_16 ⟨rfl, rfl⟩
def sh_X0_slackOf (F : Nat) (c_t_limit : Int) (c_t_hungSet : Int) (f_t_buckets : Nat → Int) (f_t_heights : Nat → Int) (f_t_drawn : Nat → Int) (f_p0_neighbours : Nat → Int) (f_p0_neighbourCount : Nat → Int) (p1 : Int) : Option (Int) := (sh_X0_hangs F c_t_hungSet p1).bind (fun (q1 : Int) => zkr q1 (if q1 = (0 : Int) then (sh_X0_leftIn F f_t_buckets f_t_heights p1).bind (fun (q4 : Int) => (sh_X2_room F f_p0_neighbours f_p0_neighbourCount f_t_drawn 16 p1 c_t_limit).bind (fun (q6 : Int) => zkr q4 (zkr q6 (zkr (zmin q4 q6) (some ((zmax (0 : Int) (zmin q4 q6)))))))) else some ((0 : Int))))
theorem mX0_slackOf_f21 : Cond.fieldLink RX0 21 (TX0 3).1 (TX0 3).2.1 (TX0 3).2.2.1 ∈ wsX0_slackOf := List.mem_of_getElem? (i := 1) rfl
theorem iX0_slackOf_X0 : ∀ w ∈ wsX00, w ∈ wsX0_slackOf := fun _ h => (List.mem_cons_of_mem _ (List.mem_append_left _ (List.mem_append_right _ h)))
theorem mX0_slackOf_f30 : Cond.fieldLink RX0 30 (TX0 4).1 (TX0 4).2.1 (TX0 4).2.2.1 ∈ wsX0_slackOf := List.mem_of_getElem? (i := 2) rfl
theorem mX0_slackOf_j76 : Cond.methodLink RX0 76 Lib.Math.min.name ∈ wsX0_slackOf := List.mem_of_getElem? (i := 3) rfl
theorem mX0_slackOf_jmins : Cond.static Lib.Math.min.name ∈ wsX0_slackOf := List.mem_of_getElem? (i := 4) rfl
theorem mX0_slackOf_jmi : Cond.initialized "java/lang/Math" ∈ wsX0_slackOf := List.mem_of_getElem? (i := 5) rfl
theorem mX0_slackOf_jminc : Cond.code Lib.Math.min.name Lib.Math.min.code 2 (some .int) ∈ wsX0_slackOf := List.mem_of_getElem? (i := 6) rfl
theorem mX0_slackOf_j82 : Cond.methodLink RX0 82 Lib.Math.max.name ∈ wsX0_slackOf := List.mem_of_getElem? (i := 7) rfl
theorem mX0_slackOf_jmaxs : Cond.static Lib.Math.max.name ∈ wsX0_slackOf := List.mem_of_getElem? (i := 8) rfl
theorem mX0_slackOf_jmaxc : Cond.code Lib.Math.max.name Lib.Math.max.code 2 (some .int) ∈ wsX0_slackOf := List.mem_of_getElem? (i := 9) rfl
set_option maxRecDepth 100000 in
set_option maxHeartbeats 4000000 in
theorem zc_X0_slackOf (l : Launch) (D : va_G) (J : Nat → ClassId) (F : Nat) (a_t : Nat) (a_p0 : Nat) (a_t_buckets : Nat) (a_t_grades : Nat) (a_t_heights : Nat) (a_t_drawn : Nat) (a_p0_rowOf : Nat) (a_p0_columnOf : Nat) (a_p0_neighbours : Nat) (a_p0_neighbourCount : Nat) (c_t_limit : Int) (c_t_hungSet : Int) (c_t_bucketSum : Int) (c_t_gradeSum : Int) (f_t_buckets : Nat → Int) (f_t_heights : Nat → Int) (f_t_drawn : Nat → Int) (c_p0_size : Int) (f_p0_neighbours : Nat → Int) (f_p0_neighbourCount : Nat → Int) (p1 : Int) (res : Int) (hsh : sh_X0_slackOf F c_t_limit c_t_hungSet f_t_buckets f_t_heights f_t_drawn f_p0_neighbours f_p0_neighbourCount p1 = some res) : ZM l D J yX0_slackOf wsX0_slackOf ({ frames := 2, cells := 0, slots := 0, locals := 47 } : Room) 0 0 [.ref a_t, .ref a_p0, .int (zi p1)] [(a_t, .inr (0, [.ref a_t_buckets, .ref a_t_grades, .ref a_t_heights, .ref a_t_drawn, .int (zi c_t_limit), .int (zi c_t_hungSet), .int (zi c_t_bucketSum), .int (zi c_t_gradeSum)])), (a_t_buckets, zI J 96 f_t_buckets), (a_t_heights, zI J 16 f_t_heights), (a_t_drawn, zI J 16 f_t_drawn), (a_p0, .inr (2, [.ref a_p0_rowOf, .ref a_p0_columnOf, .ref a_p0_neighbours, .ref a_p0_neighbourCount, .int (zi c_p0_size)])), (a_p0_neighbours, zI J 64 f_p0_neighbours), (a_p0_neighbourCount, zI J 16 f_p0_neighbourCount)] (fun rv w9 => rv = some (.int (zi res)) ∧ w9 = [(a_t, .inr (0, [.ref a_t_buckets, .ref a_t_grades, .ref a_t_heights, .ref a_t_drawn, .int (zi c_t_limit), .int (zi c_t_hungSet), .int (zi c_t_bucketSum), .int (zi c_t_gradeSum)])), (a_t_buckets, zI J 96 f_t_buckets), (a_t_heights, zI J 16 f_t_heights), (a_t_drawn, zI J 16 f_t_drawn), (a_p0, .inr (2, [.ref a_p0_rowOf, .ref a_p0_columnOf, .ref a_p0_neighbours, .ref a_p0_neighbourCount, .int (zi c_p0_size)])), (a_p0_neighbours, zI J 64 f_p0_neighbours), (a_p0_neighbourCount, zI J 16 f_p0_neighbourCount)]) := by
  refine z_ofZ (cc := cX0_slackOf) (maxL := 3) (ret := (some .int)) 0 0 (by decide) rfl (Nat.le_of_ble_eq_true rfl) [(0, .ref a_t), (1, .ref a_p0), (2, .int (zi p1))] rfl ?_
  intro p e s m args below meth c A
  unfold sh_X0_slackOf at hsh
  refine z_aload_n (pc' := 1) 0 dX0_slackOf_0 rfl rfl rfl ?_
  refine z_iload_n (pc' := 2) 2 dX0_slackOf_1 rfl rfl rfl ?_
  obtain ⟨q1, h2, hsh⟩ := zbind hsh
  refine z_callV (pc' := 5) (C := RX0) (As := [.int (zi p1)]) (rest := []) (wr := [(a_t_buckets, zI J 96 f_t_buckets), (a_t_heights, zI J 16 f_t_heights), (a_t_drawn, zI J 16 f_t_drawn), (a_p0, .inr (2, [.ref a_p0_rowOf, .ref a_p0_columnOf, .ref a_p0_neighbours, .ref a_p0_neighbourCount, .int (zi c_p0_size)])), (a_p0_neighbours, zI J 64 f_p0_neighbours), (a_p0_neighbourCount, zI J 16 f_p0_neighbourCount)]) 1 (zc_X0_hangs l D J F (a_t := a_t) (a_t_buckets := a_t_buckets) (a_t_grades := a_t_grades) (a_t_heights := a_t_heights) (a_t_drawn := a_t_drawn) (c_t_limit := c_t_limit) (c_t_hungSet := c_t_hungSet) (c_t_bucketSum := c_t_bucketSum) (c_t_gradeSum := c_t_gradeSum) (p0 := p1)  q1 h2) dX0_slackOf_2 gX0_slackOf_X0_hangs rfl rfl rfl (by decide +kernel) ⟨Nat.le_of_ble_eq_true rfl, Nat.le_of_ble_eq_true rfl⟩ ⟨Nat.le_of_ble_eq_true rfl, Nat.le_of_ble_eq_true rfl⟩ (z_spl_of [0, 1, 2, 3, 4, 5, 6] rfl rfl) rfl rfl rfl rfl (Nat.le_of_ble_eq_true rfl) rfl (fun rv w9 hq => ?_)
  obtain ⟨rfl, rfl⟩ := hq
  refine z_ws [(a_t_buckets, zI J 96 f_t_buckets), (a_t_heights, zI J 16 f_t_heights), (a_t_drawn, zI J 16 f_t_drawn), (a_p0, .inr (2, [.ref a_p0_rowOf, .ref a_p0_columnOf, .ref a_p0_neighbours, .ref a_p0_neighbourCount, .int (zi c_p0_size)])), (a_p0_neighbours, zI J 64 f_p0_neighbours), (a_p0_neighbourCount, zI J 16 f_p0_neighbourCount), (a_t, .inr (0, [.ref a_t_buckets, .ref a_t_grades, .ref a_t_heights, .ref a_t_drawn, .int (zi c_t_limit), .int (zi c_t_hungSet), .int (zi c_t_bucketSum), .int (zi c_t_gradeSum)]))] rfl ?_
  have g3 := zkr_p hsh
  replace hsh := zkr_k hsh
  refine z_if_eq (pc' := 8) (tgt := 10) dX0_slackOf_5 (by decide) g3 rfl (fun q => ?_) (fun q => ?_)
  · replace hsh := zif_t q hsh
    refine z_iconst (pc' := 11) dX0_slackOf_10 rfl ?_
    refine z_aload_n (pc' := 12) 0 dX0_slackOf_11 rfl rfl rfl ?_
    refine z_iload_n (pc' := 13) 2 dX0_slackOf_12 rfl rfl rfl ?_
    obtain ⟨q4, h5, hsh⟩ := zbind hsh
    refine z_callV (pc' := 16) (C := RX0) (As := [.int (zi p1)]) (rest := [.int (zi (0 : Int))]) (wr := [(a_t_drawn, zI J 16 f_t_drawn), (a_p0, .inr (2, [.ref a_p0_rowOf, .ref a_p0_columnOf, .ref a_p0_neighbours, .ref a_p0_neighbourCount, .int (zi c_p0_size)])), (a_p0_neighbours, zI J 64 f_p0_neighbours), (a_p0_neighbourCount, zI J 16 f_p0_neighbourCount)]) 1 (zc_X0_leftIn l D J F (a_t := a_t) (a_t_buckets := a_t_buckets) (a_t_grades := a_t_grades) (a_t_heights := a_t_heights) (a_t_drawn := a_t_drawn) (c_t_limit := c_t_limit) (c_t_hungSet := c_t_hungSet) (c_t_bucketSum := c_t_bucketSum) (c_t_gradeSum := c_t_gradeSum) (f_t_buckets := f_t_buckets) (f_t_heights := f_t_heights) (p0 := p1)  q4 h5) dX0_slackOf_13 gX0_slackOf_X0_leftIn rfl rfl rfl (by decide +kernel) ⟨Nat.le_of_ble_eq_true rfl, Nat.le_of_ble_eq_true rfl⟩ ⟨Nat.le_of_ble_eq_true rfl, Nat.le_of_ble_eq_true rfl⟩ (z_spl_of [6, 0, 1, 2, 3, 4, 5] rfl rfl) rfl rfl rfl rfl (Nat.le_of_ble_eq_true rfl) rfl (fun rv w9 hq => ?_)
    obtain ⟨rfl, rfl⟩ := hq
    refine z_ws [(a_t_drawn, zI J 16 f_t_drawn), (a_p0, .inr (2, [.ref a_p0_rowOf, .ref a_p0_columnOf, .ref a_p0_neighbours, .ref a_p0_neighbourCount, .int (zi c_p0_size)])), (a_p0_neighbours, zI J 64 f_p0_neighbours), (a_p0_neighbourCount, zI J 16 f_p0_neighbourCount), (a_t, .inr (0, [.ref a_t_buckets, .ref a_t_grades, .ref a_t_heights, .ref a_t_drawn, .int (zi c_t_limit), .int (zi c_t_hungSet), .int (zi c_t_bucketSum), .int (zi c_t_gradeSum)])), (a_t_buckets, zI J 96 f_t_buckets), (a_t_heights, zI J 16 f_t_heights)] rfl ?_
    refine z_aload_n (pc' := 17) 1 dX0_slackOf_16 rfl rfl rfl ?_
    refine z_iload_n (pc' := 18) 2 dX0_slackOf_17 rfl rfl rfl ?_
    refine z_aload_n (pc' := 19) 0 dX0_slackOf_18 rfl rfl rfl ?_
    refine z_getfield (pc' := 22) (C := RX0) (T := TX0) (N := 8) 4 3 dX0_slackOf_19 iX0_slackOf_X0 rfl rfl (by decide) mX0_slackOf_f21 rfl rfl ?_
    refine z_aload_n (pc' := 23) 0 dX0_slackOf_22 rfl rfl rfl ?_
    refine z_getfield (pc' := 26) (C := RX0) (T := TX0) (N := 8) 4 4 dX0_slackOf_23 iX0_slackOf_X0 rfl rfl (by decide) mX0_slackOf_f30 rfl rfl ?_
    obtain ⟨q6, h7, hsh⟩ := zbind hsh
    refine z_callV (pc' := 29) (C := RX2) (As := [.int (zi p1), .ref a_t_drawn, .int (zi c_t_limit)]) (rest := [.int (zi q4), .int (zi (0 : Int))]) (wr := [(a_t, .inr (0, [.ref a_t_buckets, .ref a_t_grades, .ref a_t_heights, .ref a_t_drawn, .int (zi c_t_limit), .int (zi c_t_hungSet), .int (zi c_t_bucketSum), .int (zi c_t_gradeSum)])), (a_t_buckets, zI J 96 f_t_buckets), (a_t_heights, zI J 16 f_t_heights)]) 3 (zc_X2_room l D J F (a_t := a_p0) (a_p1 := a_t_drawn) (a_t_rowOf := a_p0_rowOf) (a_t_columnOf := a_p0_columnOf) (a_t_neighbours := a_p0_neighbours) (a_t_neighbourCount := a_p0_neighbourCount) (c_t_size := c_p0_size) (f_t_neighbours := f_p0_neighbours) (f_t_neighbourCount := f_p0_neighbourCount) (f_p1 := f_t_drawn) (n_p1 := 16) (p0 := p1) (p2 := c_t_limit) (hn_p1 := (by decide)) q6 h7) dX0_slackOf_26 gX0_slackOf_X2_room rfl rfl rfl (by decide +kernel) ⟨Nat.le_of_ble_eq_true rfl, Nat.le_of_ble_eq_true rfl⟩ ⟨Nat.le_of_ble_eq_true rfl, Nat.le_of_ble_eq_true rfl⟩ (z_spl_of [1, 2, 3, 0, 4, 5, 6] rfl rfl) rfl rfl rfl rfl (Nat.le_of_ble_eq_true rfl) rfl (fun rv w9 hq => ?_)
    obtain ⟨rfl, rfl⟩ := hq
    refine z_ws [(a_t, .inr (0, [.ref a_t_buckets, .ref a_t_grades, .ref a_t_heights, .ref a_t_drawn, .int (zi c_t_limit), .int (zi c_t_hungSet), .int (zi c_t_bucketSum), .int (zi c_t_gradeSum)])), (a_t_buckets, zI J 96 f_t_buckets), (a_t_heights, zI J 16 f_t_heights), (a_p0, .inr (2, [.ref a_p0_rowOf, .ref a_p0_columnOf, .ref a_p0_neighbours, .ref a_p0_neighbourCount, .int (zi c_p0_size)])), (a_p0_neighbours, zI J 64 f_p0_neighbours), (a_p0_neighbourCount, zI J 16 f_p0_neighbourCount), (a_t_drawn, zI J 16 f_t_drawn)] rfl ?_
    have g8 := zkr_p hsh
    replace hsh := zkr_k hsh
    have g9 := zkr_p hsh
    replace hsh := zkr_k hsh
    refine z_min (pc' := 32) dX0_slackOf_29 mX0_slackOf_j76 mX0_slackOf_jmins mX0_slackOf_jmi mX0_slackOf_jminc (Nat.le_of_ble_eq_true rfl) (Nat.le_of_ble_eq_true rfl) (Nat.le_of_ble_eq_true rfl) (Nat.le_of_ble_eq_true rfl) g8 g9 rfl ?_
    have g10 := zkr_p hsh
    replace hsh := zkr_k hsh
    refine z_max (pc' := 35) dX0_slackOf_32 mX0_slackOf_j82 mX0_slackOf_jmaxs mX0_slackOf_jmi mX0_slackOf_jmaxc (Nat.le_of_ble_eq_true rfl) (Nat.le_of_ble_eq_true rfl) (Nat.le_of_ble_eq_true rfl) (Nat.le_of_ble_eq_true rfl) zr0 g10 rfl ?_
    refine z_perm [(a_t, .inr (0, [.ref a_t_buckets, .ref a_t_grades, .ref a_t_heights, .ref a_t_drawn, .int (zi c_t_limit), .int (zi c_t_hungSet), .int (zi c_t_bucketSum), .int (zi c_t_gradeSum)])), (a_t_buckets, zI J 96 f_t_buckets), (a_t_heights, zI J 16 f_t_heights), (a_t_drawn, zI J 16 f_t_drawn), (a_p0, .inr (2, [.ref a_p0_rowOf, .ref a_p0_columnOf, .ref a_p0_neighbours, .ref a_p0_neighbourCount, .int (zi c_p0_size)])), (a_p0_neighbours, zI J 64 f_p0_neighbours), (a_p0_neighbourCount, zI J 16 f_p0_neighbourCount)] [(0, .ref a_t), (1, .ref a_p0), (2, .int (zi p1))] [0, 1, 2, 6, 3, 4, 5] [0, 1, 2] rfl rfl rfl ?_
    cases hsh
    exact z_iret rfl dX0_slackOf_35 ⟨rfl, rfl⟩
  · replace hsh := zif_f q hsh
    refine z_iconst (pc' := 9) dX0_slackOf_8 rfl ?_
    refine z_perm [(a_t, .inr (0, [.ref a_t_buckets, .ref a_t_grades, .ref a_t_heights, .ref a_t_drawn, .int (zi c_t_limit), .int (zi c_t_hungSet), .int (zi c_t_bucketSum), .int (zi c_t_gradeSum)])), (a_t_buckets, zI J 96 f_t_buckets), (a_t_heights, zI J 16 f_t_heights), (a_t_drawn, zI J 16 f_t_drawn), (a_p0, .inr (2, [.ref a_p0_rowOf, .ref a_p0_columnOf, .ref a_p0_neighbours, .ref a_p0_neighbourCount, .int (zi c_p0_size)])), (a_p0_neighbours, zI J 64 f_p0_neighbours), (a_p0_neighbourCount, zI J 16 f_p0_neighbourCount)] [(0, .ref a_t), (1, .ref a_p0), (2, .int (zi p1))] [6, 0, 1, 2, 3, 4, 5] [0, 1, 2] rfl rfl rfl ?_
    cases hsh
    exact z_iret rfl dX0_slackOf_9 ⟨rfl, rfl⟩
def sh_X0_ready (F : Nat) (c_t_limit : Int) (c_t_hungSet : Int) (f_t_buckets : Nat → Int) (f_t_heights : Nat → Int) (f_t_drawn : Nat → Int) (f_p0_neighbours : Nat → Int) (f_p0_neighbourCount : Nat → Int) (p1 : Int) : Option (Int) := (sh_X0_slackOf F c_t_limit c_t_hungSet f_t_buckets f_t_heights f_t_drawn f_p0_neighbours f_p0_neighbourCount p1).bind (fun (q1 : Int) => zkr q1 (if (0 : Int) < q1 then some ((1 : Int)) else some ((0 : Int))))
set_option maxRecDepth 100000 in
set_option maxHeartbeats 4000000 in
theorem zc_X0_ready (l : Launch) (D : va_G) (J : Nat → ClassId) (F : Nat) (a_t : Nat) (a_p0 : Nat) (a_t_buckets : Nat) (a_t_grades : Nat) (a_t_heights : Nat) (a_t_drawn : Nat) (a_p0_rowOf : Nat) (a_p0_columnOf : Nat) (a_p0_neighbours : Nat) (a_p0_neighbourCount : Nat) (c_t_limit : Int) (c_t_hungSet : Int) (c_t_bucketSum : Int) (c_t_gradeSum : Int) (f_t_buckets : Nat → Int) (f_t_heights : Nat → Int) (f_t_drawn : Nat → Int) (c_p0_size : Int) (f_p0_neighbours : Nat → Int) (f_p0_neighbourCount : Nat → Int) (p1 : Int) (res : Int) (hsh : sh_X0_ready F c_t_limit c_t_hungSet f_t_buckets f_t_heights f_t_drawn f_p0_neighbours f_p0_neighbourCount p1 = some res) : ZM l D J yX0_ready wsX0_ready ({ frames := 3, cells := 0, slots := 0, locals := 69 } : Room) 0 0 [.ref a_t, .ref a_p0, .int (zi p1)] [(a_t, .inr (0, [.ref a_t_buckets, .ref a_t_grades, .ref a_t_heights, .ref a_t_drawn, .int (zi c_t_limit), .int (zi c_t_hungSet), .int (zi c_t_bucketSum), .int (zi c_t_gradeSum)])), (a_t_buckets, zI J 96 f_t_buckets), (a_t_heights, zI J 16 f_t_heights), (a_t_drawn, zI J 16 f_t_drawn), (a_p0, .inr (2, [.ref a_p0_rowOf, .ref a_p0_columnOf, .ref a_p0_neighbours, .ref a_p0_neighbourCount, .int (zi c_p0_size)])), (a_p0_neighbours, zI J 64 f_p0_neighbours), (a_p0_neighbourCount, zI J 16 f_p0_neighbourCount)] (fun rv w9 => rv = some (.int (zi res)) ∧ w9 = [(a_t, .inr (0, [.ref a_t_buckets, .ref a_t_grades, .ref a_t_heights, .ref a_t_drawn, .int (zi c_t_limit), .int (zi c_t_hungSet), .int (zi c_t_bucketSum), .int (zi c_t_gradeSum)])), (a_t_buckets, zI J 96 f_t_buckets), (a_t_heights, zI J 16 f_t_heights), (a_t_drawn, zI J 16 f_t_drawn), (a_p0, .inr (2, [.ref a_p0_rowOf, .ref a_p0_columnOf, .ref a_p0_neighbours, .ref a_p0_neighbourCount, .int (zi c_p0_size)])), (a_p0_neighbours, zI J 64 f_p0_neighbours), (a_p0_neighbourCount, zI J 16 f_p0_neighbourCount)]) := by
  refine z_ofZ (cc := cX0_ready) (maxL := 3) (ret := (some .boolean)) 0 0 (by decide) rfl (Nat.le_of_ble_eq_true rfl) [(0, .ref a_t), (1, .ref a_p0), (2, .int (zi p1))] rfl ?_
  intro p e s m args below meth c A
  unfold sh_X0_ready at hsh
  refine z_aload_n (pc' := 1) 0 dX0_ready_0 rfl rfl rfl ?_
  refine z_aload_n (pc' := 2) 1 dX0_ready_1 rfl rfl rfl ?_
  refine z_iload_n (pc' := 3) 2 dX0_ready_2 rfl rfl rfl ?_
  obtain ⟨q1, h2, hsh⟩ := zbind hsh
  refine z_callV (pc' := 6) (C := RX0) (As := [.ref a_p0, .int (zi p1)]) (rest := []) (wr := []) 2 (zc_X0_slackOf l D J F (a_t := a_t) (a_p0 := a_p0) (a_t_buckets := a_t_buckets) (a_t_grades := a_t_grades) (a_t_heights := a_t_heights) (a_t_drawn := a_t_drawn) (a_p0_rowOf := a_p0_rowOf) (a_p0_columnOf := a_p0_columnOf) (a_p0_neighbours := a_p0_neighbours) (a_p0_neighbourCount := a_p0_neighbourCount) (c_t_limit := c_t_limit) (c_t_hungSet := c_t_hungSet) (c_t_bucketSum := c_t_bucketSum) (c_t_gradeSum := c_t_gradeSum) (f_t_buckets := f_t_buckets) (f_t_heights := f_t_heights) (f_t_drawn := f_t_drawn) (c_p0_size := c_p0_size) (f_p0_neighbours := f_p0_neighbours) (f_p0_neighbourCount := f_p0_neighbourCount) (p1 := p1)  q1 h2) dX0_ready_3 gX0_ready_X0_slackOf rfl rfl rfl (by decide +kernel) ⟨Nat.le_of_ble_eq_true rfl, Nat.le_of_ble_eq_true rfl⟩ ⟨Nat.le_of_ble_eq_true rfl, Nat.le_of_ble_eq_true rfl⟩ (z_spl_of [0, 1, 2, 3, 4, 5, 6] rfl rfl) rfl rfl rfl rfl (Nat.le_of_ble_eq_true rfl) rfl (fun rv w9 hq => ?_)
  obtain ⟨rfl, rfl⟩ := hq
  refine z_ws [(a_t, .inr (0, [.ref a_t_buckets, .ref a_t_grades, .ref a_t_heights, .ref a_t_drawn, .int (zi c_t_limit), .int (zi c_t_hungSet), .int (zi c_t_bucketSum), .int (zi c_t_gradeSum)])), (a_t_buckets, zI J 96 f_t_buckets), (a_t_heights, zI J 16 f_t_heights), (a_t_drawn, zI J 16 f_t_drawn), (a_p0, .inr (2, [.ref a_p0_rowOf, .ref a_p0_columnOf, .ref a_p0_neighbours, .ref a_p0_neighbourCount, .int (zi c_p0_size)])), (a_p0_neighbours, zI J 64 f_p0_neighbours), (a_p0_neighbourCount, zI J 16 f_p0_neighbourCount)] rfl ?_
  have g3 := zkr_p hsh
  replace hsh := zkr_k hsh
  refine z_if_le (pc' := 9) (tgt := 13) dX0_ready_6 (by decide) g3 rfl (fun q => ?_) (fun q => ?_)
  · replace hsh := zif_f q hsh
    refine z_iconst (pc' := 14) dX0_ready_13 rfl ?_
    cases hsh
    exact z_zret rfl (by decide) dX0_ready_14 ⟨rfl, rfl⟩
  · replace hsh := zif_t q hsh
    refine z_iconst (pc' := 10) dX0_ready_9 rfl ?_
    refine z_goto (tgt := 14) dX0_ready_10 (by decide) ?_
    cases hsh
    exact z_zret rfl (by decide) dX0_ready_14 ⟨rfl, rfl⟩
def sh_X0_become (F : Nat) (f_t_buckets : Nat → Int) (f_t_grades : Nat → Int) (f_t_heights : Nat → Int) (f_t_drawn : Nat → Int) (c_p0_limit : Int) (c_p0_hungSet : Int) (c_p0_bucketSum : Int) (c_p0_gradeSum : Int) (f_p0_buckets : Nat → Int) (f_p0_grades : Nat → Int) (f_p0_heights : Nat → Int) (f_p0_drawn : Nat → Int) : Option (Int × Int × Int × Int × (Nat → Int) × (Nat → Int) × (Nat → Int) × (Nat → Int)) := some (c_p0_limit, c_p0_hungSet, c_p0_bucketSum, c_p0_gradeSum, (va_cpy f_p0_buckets f_t_buckets ((0 : Int)).toNat ((0 : Int)).toNat ((96 : Int)).toNat), (va_cpy f_p0_grades f_t_grades ((0 : Int)).toNat ((0 : Int)).toNat ((96 : Int)).toNat), (va_cpy f_p0_heights f_t_heights ((0 : Int)).toNat ((0 : Int)).toNat ((16 : Int)).toNat), (va_cpy f_p0_drawn f_t_drawn ((0 : Int)).toNat ((0 : Int)).toNat ((16 : Int)).toNat))
theorem mX0_become_f9 : Cond.fieldLink RX0 9 (TX0 0).1 (TX0 0).2.1 (TX0 0).2.2.1 ∈ wsX0_become := List.mem_of_getElem? (i := 1) rfl
theorem iX0_become_X0 : ∀ w ∈ wsX00, w ∈ wsX0_become := fun _ h => (List.mem_cons_of_mem _ (List.mem_append_right _ h))
theorem mX0_become_j43 : Cond.methodLink RX0 43 arraycopyName ∈ wsX0_become := List.mem_of_getElem? (i := 2) rfl
theorem mX0_become_jacn : Cond.native arraycopyName ∈ wsX0_become := List.mem_of_getElem? (i := 3) rfl
theorem mX0_become_jacs : Cond.static arraycopyName ∈ wsX0_become := List.mem_of_getElem? (i := 4) rfl
theorem mX0_become_jaci : Cond.initialized "java/lang/System" ∈ wsX0_become := List.mem_of_getElem? (i := 5) rfl
theorem mX0_become_f15 : Cond.fieldLink RX0 15 (TX0 1).1 (TX0 1).2.1 (TX0 1).2.2.1 ∈ wsX0_become := List.mem_of_getElem? (i := 6) rfl
theorem mX0_become_f18 : Cond.fieldLink RX0 18 (TX0 2).1 (TX0 2).2.1 (TX0 2).2.2.1 ∈ wsX0_become := List.mem_of_getElem? (i := 7) rfl
theorem mX0_become_f21 : Cond.fieldLink RX0 21 (TX0 3).1 (TX0 3).2.1 (TX0 3).2.2.1 ∈ wsX0_become := List.mem_of_getElem? (i := 8) rfl
theorem mX0_become_f30 : Cond.fieldLink RX0 30 (TX0 4).1 (TX0 4).2.1 (TX0 4).2.2.1 ∈ wsX0_become := List.mem_of_getElem? (i := 9) rfl
theorem mX0_become_f34 : Cond.fieldLink RX0 34 (TX0 5).1 (TX0 5).2.1 (TX0 5).2.2.1 ∈ wsX0_become := List.mem_of_getElem? (i := 10) rfl
theorem mX0_become_f37 : Cond.fieldLink RX0 37 (TX0 6).1 (TX0 6).2.1 (TX0 6).2.2.1 ∈ wsX0_become := List.mem_of_getElem? (i := 11) rfl
theorem mX0_become_f40 : Cond.fieldLink RX0 40 (TX0 7).1 (TX0 7).2.1 (TX0 7).2.2.1 ∈ wsX0_become := List.mem_of_getElem? (i := 12) rfl
set_option maxRecDepth 100000 in
set_option maxHeartbeats 4000000 in
theorem zc_X0_become (l : Launch) (D : va_G) (J : Nat → ClassId) (F : Nat) (a_t : Nat) (a_p0 : Nat) (a_t_buckets : Nat) (a_t_grades : Nat) (a_t_heights : Nat) (a_t_drawn : Nat) (a_p0_buckets : Nat) (a_p0_grades : Nat) (a_p0_heights : Nat) (a_p0_drawn : Nat) (c_t_limit : Int) (c_t_hungSet : Int) (c_t_bucketSum : Int) (c_t_gradeSum : Int) (f_t_buckets : Nat → Int) (f_t_grades : Nat → Int) (f_t_heights : Nat → Int) (f_t_drawn : Nat → Int) (c_p0_limit : Int) (c_p0_hungSet : Int) (c_p0_bucketSum : Int) (c_p0_gradeSum : Int) (f_p0_buckets : Nat → Int) (f_p0_grades : Nat → Int) (f_p0_heights : Nat → Int) (f_p0_drawn : Nat → Int) (res : Int × Int × Int × Int × (Nat → Int) × (Nat → Int) × (Nat → Int) × (Nat → Int)) (hsh : sh_X0_become F f_t_buckets f_t_grades f_t_heights f_t_drawn c_p0_limit c_p0_hungSet c_p0_bucketSum c_p0_gradeSum f_p0_buckets f_p0_grades f_p0_heights f_p0_drawn = some res) : ZM l D J yX0_become wsX0_become ({ frames := 1, cells := 0, slots := 0, locals := 64 } : Room) 0 0 [.ref a_t, .ref a_p0] [(a_t, .inr (0, [.ref a_t_buckets, .ref a_t_grades, .ref a_t_heights, .ref a_t_drawn, .int (zi c_t_limit), .int (zi c_t_hungSet), .int (zi c_t_bucketSum), .int (zi c_t_gradeSum)])), (a_t_buckets, zI J 96 f_t_buckets), (a_t_grades, zI J 96 f_t_grades), (a_t_heights, zI J 16 f_t_heights), (a_t_drawn, zI J 16 f_t_drawn), (a_p0, .inr (0, [.ref a_p0_buckets, .ref a_p0_grades, .ref a_p0_heights, .ref a_p0_drawn, .int (zi c_p0_limit), .int (zi c_p0_hungSet), .int (zi c_p0_bucketSum), .int (zi c_p0_gradeSum)])), (a_p0_buckets, zI J 96 f_p0_buckets), (a_p0_grades, zI J 96 f_p0_grades), (a_p0_heights, zI J 16 f_p0_heights), (a_p0_drawn, zI J 16 f_p0_drawn)] (fun rv w9 => rv = none ∧ w9 = [(a_t, .inr (0, [.ref a_t_buckets, .ref a_t_grades, .ref a_t_heights, .ref a_t_drawn, .int (zi res.1), .int (zi res.2.1), .int (zi res.2.2.1), .int (zi res.2.2.2.1)])), (a_t_buckets, zI J 96 res.2.2.2.2.1), (a_t_grades, zI J 96 res.2.2.2.2.2.1), (a_t_heights, zI J 16 res.2.2.2.2.2.2.1), (a_t_drawn, zI J 16 res.2.2.2.2.2.2.2), (a_p0, .inr (0, [.ref a_p0_buckets, .ref a_p0_grades, .ref a_p0_heights, .ref a_p0_drawn, .int (zi c_p0_limit), .int (zi c_p0_hungSet), .int (zi c_p0_bucketSum), .int (zi c_p0_gradeSum)])), (a_p0_buckets, zI J 96 f_p0_buckets), (a_p0_grades, zI J 96 f_p0_grades), (a_p0_heights, zI J 16 f_p0_heights), (a_p0_drawn, zI J 16 f_p0_drawn)]) := by
  refine z_ofZ (cc := cX0_become) (maxL := 2) (ret := none) 0 0 (by decide) rfl (Nat.le_of_ble_eq_true rfl) [(0, .ref a_t), (1, .ref a_p0)] rfl ?_
  intro p e s m args below meth c A
  unfold sh_X0_become at hsh
  refine z_aload_n (pc' := 1) 1 dX0_become_0 rfl rfl rfl ?_
  refine z_getfield (pc' := 4) (C := RX0) (T := TX0) (N := 8) 5 0 dX0_become_1 iX0_become_X0 rfl rfl (by decide) mX0_become_f9 rfl rfl ?_
  refine z_iconst (pc' := 5) dX0_become_4 rfl ?_
  refine z_aload_n (pc' := 6) 0 dX0_become_5 rfl rfl rfl ?_
  refine z_getfield (pc' := 9) (C := RX0) (T := TX0) (N := 8) 0 0 dX0_become_6 iX0_become_X0 rfl rfl (by decide) mX0_become_f9 rfl rfl ?_
  refine z_iconst (pc' := 10) dX0_become_9 rfl ?_
  refine z_aload_n (pc' := 11) 0 dX0_become_10 rfl rfl rfl ?_
  refine z_getfield (pc' := 14) (C := RX0) (T := TX0) (N := 8) 0 0 dX0_become_11 iX0_become_X0 rfl rfl (by decide) mX0_become_f9 rfl rfl ?_
  refine z_alen (pc' := 15) (v := (96 : Int)) 1 0 dX0_become_14 rfl rfl rfl rfl ?_
  refine z_copyi (pc' := 18) 6 1 [(a_t, .inr (0, [.ref a_t_buckets, .ref a_t_grades, .ref a_t_heights, .ref a_t_drawn, .int (zi c_t_limit), .int (zi c_t_hungSet), .int (zi c_t_bucketSum), .int (zi c_t_gradeSum)])), (a_t_buckets, zI J 96 (va_cpy f_p0_buckets f_t_buckets ((0 : Int)).toNat ((0 : Int)).toNat ((96 : Int)).toNat)), (a_t_grades, zI J 96 f_t_grades), (a_t_heights, zI J 16 f_t_heights), (a_t_drawn, zI J 16 f_t_drawn), (a_p0, .inr (0, [.ref a_p0_buckets, .ref a_p0_grades, .ref a_p0_heights, .ref a_p0_drawn, .int (zi c_p0_limit), .int (zi c_p0_hungSet), .int (zi c_p0_bucketSum), .int (zi c_p0_gradeSum)])), (a_p0_buckets, zI J 96 f_p0_buckets), (a_p0_grades, zI J 96 f_p0_grades), (a_p0_heights, zI J 16 f_p0_heights), (a_p0_drawn, zI J 16 f_p0_drawn)] dX0_become_15 mX0_become_j43 mX0_become_jacn mX0_become_jacs mX0_become_jaci rfl rfl (by decide) (by decide) (by decide) (by decide) (by decide) (by decide) (by decide) (Nat.le_of_ble_eq_true rfl) (Nat.le_of_ble_eq_true rfl) rfl rfl ?_
  refine z_aload_n (pc' := 19) 1 dX0_become_18 rfl rfl rfl ?_
  refine z_getfield (pc' := 22) (C := RX0) (T := TX0) (N := 8) 5 1 dX0_become_19 iX0_become_X0 rfl rfl (by decide) mX0_become_f15 rfl rfl ?_
  refine z_iconst (pc' := 23) dX0_become_22 rfl ?_
  refine z_aload_n (pc' := 24) 0 dX0_become_23 rfl rfl rfl ?_
  refine z_getfield (pc' := 27) (C := RX0) (T := TX0) (N := 8) 0 1 dX0_become_24 iX0_become_X0 rfl rfl (by decide) mX0_become_f15 rfl rfl ?_
  refine z_iconst (pc' := 28) dX0_become_27 rfl ?_
  refine z_aload_n (pc' := 29) 0 dX0_become_28 rfl rfl rfl ?_
  refine z_getfield (pc' := 32) (C := RX0) (T := TX0) (N := 8) 0 1 dX0_become_29 iX0_become_X0 rfl rfl (by decide) mX0_become_f15 rfl rfl ?_
  refine z_alen (pc' := 33) (v := (96 : Int)) 2 0 dX0_become_32 rfl rfl rfl rfl ?_
  refine z_copyi (pc' := 36) 7 2 [(a_t, .inr (0, [.ref a_t_buckets, .ref a_t_grades, .ref a_t_heights, .ref a_t_drawn, .int (zi c_t_limit), .int (zi c_t_hungSet), .int (zi c_t_bucketSum), .int (zi c_t_gradeSum)])), (a_t_buckets, zI J 96 (va_cpy f_p0_buckets f_t_buckets ((0 : Int)).toNat ((0 : Int)).toNat ((96 : Int)).toNat)), (a_t_grades, zI J 96 (va_cpy f_p0_grades f_t_grades ((0 : Int)).toNat ((0 : Int)).toNat ((96 : Int)).toNat)), (a_t_heights, zI J 16 f_t_heights), (a_t_drawn, zI J 16 f_t_drawn), (a_p0, .inr (0, [.ref a_p0_buckets, .ref a_p0_grades, .ref a_p0_heights, .ref a_p0_drawn, .int (zi c_p0_limit), .int (zi c_p0_hungSet), .int (zi c_p0_bucketSum), .int (zi c_p0_gradeSum)])), (a_p0_buckets, zI J 96 f_p0_buckets), (a_p0_grades, zI J 96 f_p0_grades), (a_p0_heights, zI J 16 f_p0_heights), (a_p0_drawn, zI J 16 f_p0_drawn)] dX0_become_33 mX0_become_j43 mX0_become_jacn mX0_become_jacs mX0_become_jaci rfl rfl (by decide) (by decide) (by decide) (by decide) (by decide) (by decide) (by decide) (Nat.le_of_ble_eq_true rfl) (Nat.le_of_ble_eq_true rfl) rfl rfl ?_
  refine z_aload_n (pc' := 37) 1 dX0_become_36 rfl rfl rfl ?_
  refine z_getfield (pc' := 40) (C := RX0) (T := TX0) (N := 8) 5 2 dX0_become_37 iX0_become_X0 rfl rfl (by decide) mX0_become_f18 rfl rfl ?_
  refine z_iconst (pc' := 41) dX0_become_40 rfl ?_
  refine z_aload_n (pc' := 42) 0 dX0_become_41 rfl rfl rfl ?_
  refine z_getfield (pc' := 45) (C := RX0) (T := TX0) (N := 8) 0 2 dX0_become_42 iX0_become_X0 rfl rfl (by decide) mX0_become_f18 rfl rfl ?_
  refine z_iconst (pc' := 46) dX0_become_45 rfl ?_
  refine z_aload_n (pc' := 47) 0 dX0_become_46 rfl rfl rfl ?_
  refine z_getfield (pc' := 50) (C := RX0) (T := TX0) (N := 8) 0 2 dX0_become_47 iX0_become_X0 rfl rfl (by decide) mX0_become_f18 rfl rfl ?_
  refine z_alen (pc' := 51) (v := (16 : Int)) 3 0 dX0_become_50 rfl rfl rfl rfl ?_
  refine z_copyi (pc' := 54) 8 3 [(a_t, .inr (0, [.ref a_t_buckets, .ref a_t_grades, .ref a_t_heights, .ref a_t_drawn, .int (zi c_t_limit), .int (zi c_t_hungSet), .int (zi c_t_bucketSum), .int (zi c_t_gradeSum)])), (a_t_buckets, zI J 96 (va_cpy f_p0_buckets f_t_buckets ((0 : Int)).toNat ((0 : Int)).toNat ((96 : Int)).toNat)), (a_t_grades, zI J 96 (va_cpy f_p0_grades f_t_grades ((0 : Int)).toNat ((0 : Int)).toNat ((96 : Int)).toNat)), (a_t_heights, zI J 16 (va_cpy f_p0_heights f_t_heights ((0 : Int)).toNat ((0 : Int)).toNat ((16 : Int)).toNat)), (a_t_drawn, zI J 16 f_t_drawn), (a_p0, .inr (0, [.ref a_p0_buckets, .ref a_p0_grades, .ref a_p0_heights, .ref a_p0_drawn, .int (zi c_p0_limit), .int (zi c_p0_hungSet), .int (zi c_p0_bucketSum), .int (zi c_p0_gradeSum)])), (a_p0_buckets, zI J 96 f_p0_buckets), (a_p0_grades, zI J 96 f_p0_grades), (a_p0_heights, zI J 16 f_p0_heights), (a_p0_drawn, zI J 16 f_p0_drawn)] dX0_become_51 mX0_become_j43 mX0_become_jacn mX0_become_jacs mX0_become_jaci rfl rfl (by decide) (by decide) (by decide) (by decide) (by decide) (by decide) (by decide) (Nat.le_of_ble_eq_true rfl) (Nat.le_of_ble_eq_true rfl) rfl rfl ?_
  refine z_aload_n (pc' := 55) 1 dX0_become_54 rfl rfl rfl ?_
  refine z_getfield (pc' := 58) (C := RX0) (T := TX0) (N := 8) 5 3 dX0_become_55 iX0_become_X0 rfl rfl (by decide) mX0_become_f21 rfl rfl ?_
  refine z_iconst (pc' := 59) dX0_become_58 rfl ?_
  refine z_aload_n (pc' := 60) 0 dX0_become_59 rfl rfl rfl ?_
  refine z_getfield (pc' := 63) (C := RX0) (T := TX0) (N := 8) 0 3 dX0_become_60 iX0_become_X0 rfl rfl (by decide) mX0_become_f21 rfl rfl ?_
  refine z_iconst (pc' := 64) dX0_become_63 rfl ?_
  refine z_aload_n (pc' := 65) 0 dX0_become_64 rfl rfl rfl ?_
  refine z_getfield (pc' := 68) (C := RX0) (T := TX0) (N := 8) 0 3 dX0_become_65 iX0_become_X0 rfl rfl (by decide) mX0_become_f21 rfl rfl ?_
  refine z_alen (pc' := 69) (v := (16 : Int)) 4 0 dX0_become_68 rfl rfl rfl rfl ?_
  refine z_copyi (pc' := 72) 9 4 [(a_t, .inr (0, [.ref a_t_buckets, .ref a_t_grades, .ref a_t_heights, .ref a_t_drawn, .int (zi c_t_limit), .int (zi c_t_hungSet), .int (zi c_t_bucketSum), .int (zi c_t_gradeSum)])), (a_t_buckets, zI J 96 (va_cpy f_p0_buckets f_t_buckets ((0 : Int)).toNat ((0 : Int)).toNat ((96 : Int)).toNat)), (a_t_grades, zI J 96 (va_cpy f_p0_grades f_t_grades ((0 : Int)).toNat ((0 : Int)).toNat ((96 : Int)).toNat)), (a_t_heights, zI J 16 (va_cpy f_p0_heights f_t_heights ((0 : Int)).toNat ((0 : Int)).toNat ((16 : Int)).toNat)), (a_t_drawn, zI J 16 (va_cpy f_p0_drawn f_t_drawn ((0 : Int)).toNat ((0 : Int)).toNat ((16 : Int)).toNat)), (a_p0, .inr (0, [.ref a_p0_buckets, .ref a_p0_grades, .ref a_p0_heights, .ref a_p0_drawn, .int (zi c_p0_limit), .int (zi c_p0_hungSet), .int (zi c_p0_bucketSum), .int (zi c_p0_gradeSum)])), (a_p0_buckets, zI J 96 f_p0_buckets), (a_p0_grades, zI J 96 f_p0_grades), (a_p0_heights, zI J 16 f_p0_heights), (a_p0_drawn, zI J 16 f_p0_drawn)] dX0_become_69 mX0_become_j43 mX0_become_jacn mX0_become_jacs mX0_become_jaci rfl rfl (by decide) (by decide) (by decide) (by decide) (by decide) (by decide) (by decide) (Nat.le_of_ble_eq_true rfl) (Nat.le_of_ble_eq_true rfl) rfl rfl ?_
  refine z_aload_n (pc' := 73) 0 dX0_become_72 rfl rfl rfl ?_
  refine z_aload_n (pc' := 74) 1 dX0_become_73 rfl rfl rfl ?_
  refine z_getfield (pc' := 77) (C := RX0) (T := TX0) (N := 8) 5 4 dX0_become_74 iX0_become_X0 rfl rfl (by decide) mX0_become_f30 rfl rfl ?_
  refine z_putfield (pc' := 80) (C := RX0) (T := TX0) (N := 8) (ty := .int) 0 4 [(a_t, .inr (0, [.ref a_t_buckets, .ref a_t_grades, .ref a_t_heights, .ref a_t_drawn, .int (zi c_p0_limit), .int (zi c_t_hungSet), .int (zi c_t_bucketSum), .int (zi c_t_gradeSum)])), (a_t_buckets, zI J 96 (va_cpy f_p0_buckets f_t_buckets ((0 : Int)).toNat ((0 : Int)).toNat ((96 : Int)).toNat)), (a_t_grades, zI J 96 (va_cpy f_p0_grades f_t_grades ((0 : Int)).toNat ((0 : Int)).toNat ((96 : Int)).toNat)), (a_t_heights, zI J 16 (va_cpy f_p0_heights f_t_heights ((0 : Int)).toNat ((0 : Int)).toNat ((16 : Int)).toNat)), (a_t_drawn, zI J 16 (va_cpy f_p0_drawn f_t_drawn ((0 : Int)).toNat ((0 : Int)).toNat ((16 : Int)).toNat)), (a_p0, .inr (0, [.ref a_p0_buckets, .ref a_p0_grades, .ref a_p0_heights, .ref a_p0_drawn, .int (zi c_p0_limit), .int (zi c_p0_hungSet), .int (zi c_p0_bucketSum), .int (zi c_p0_gradeSum)])), (a_p0_buckets, zI J 96 f_p0_buckets), (a_p0_grades, zI J 96 f_p0_grades), (a_p0_heights, zI J 16 f_p0_heights), (a_p0_drawn, zI J 16 f_p0_drawn)] tyX0 tyX0_ok nmX0 dX0_become_77 iX0_become_X0 rfl rfl (by decide) mX0_become_f30 rfl (by decide +kernel) rfl rfl (Nat.le_of_ble_eq_true rfl) rfl rfl rfl ?_
  refine z_aload_n (pc' := 81) 0 dX0_become_80 rfl rfl rfl ?_
  refine z_aload_n (pc' := 82) 1 dX0_become_81 rfl rfl rfl ?_
  refine z_getfield (pc' := 85) (C := RX0) (T := TX0) (N := 8) 5 5 dX0_become_82 iX0_become_X0 rfl rfl (by decide) mX0_become_f34 rfl rfl ?_
  refine z_putfield (pc' := 88) (C := RX0) (T := TX0) (N := 8) (ty := .int) 0 5 [(a_t, .inr (0, [.ref a_t_buckets, .ref a_t_grades, .ref a_t_heights, .ref a_t_drawn, .int (zi c_p0_limit), .int (zi c_p0_hungSet), .int (zi c_t_bucketSum), .int (zi c_t_gradeSum)])), (a_t_buckets, zI J 96 (va_cpy f_p0_buckets f_t_buckets ((0 : Int)).toNat ((0 : Int)).toNat ((96 : Int)).toNat)), (a_t_grades, zI J 96 (va_cpy f_p0_grades f_t_grades ((0 : Int)).toNat ((0 : Int)).toNat ((96 : Int)).toNat)), (a_t_heights, zI J 16 (va_cpy f_p0_heights f_t_heights ((0 : Int)).toNat ((0 : Int)).toNat ((16 : Int)).toNat)), (a_t_drawn, zI J 16 (va_cpy f_p0_drawn f_t_drawn ((0 : Int)).toNat ((0 : Int)).toNat ((16 : Int)).toNat)), (a_p0, .inr (0, [.ref a_p0_buckets, .ref a_p0_grades, .ref a_p0_heights, .ref a_p0_drawn, .int (zi c_p0_limit), .int (zi c_p0_hungSet), .int (zi c_p0_bucketSum), .int (zi c_p0_gradeSum)])), (a_p0_buckets, zI J 96 f_p0_buckets), (a_p0_grades, zI J 96 f_p0_grades), (a_p0_heights, zI J 16 f_p0_heights), (a_p0_drawn, zI J 16 f_p0_drawn)] tyX0 tyX0_ok nmX0 dX0_become_85 iX0_become_X0 rfl rfl (by decide) mX0_become_f34 rfl (by decide +kernel) rfl rfl (Nat.le_of_ble_eq_true rfl) rfl rfl rfl ?_
  refine z_aload_n (pc' := 89) 0 dX0_become_88 rfl rfl rfl ?_
  refine z_aload_n (pc' := 90) 1 dX0_become_89 rfl rfl rfl ?_
  refine z_getfield (pc' := 93) (C := RX0) (T := TX0) (N := 8) 5 6 dX0_become_90 iX0_become_X0 rfl rfl (by decide) mX0_become_f37 rfl rfl ?_
  refine z_putfield (pc' := 96) (C := RX0) (T := TX0) (N := 8) (ty := .int) 0 6 [(a_t, .inr (0, [.ref a_t_buckets, .ref a_t_grades, .ref a_t_heights, .ref a_t_drawn, .int (zi c_p0_limit), .int (zi c_p0_hungSet), .int (zi c_p0_bucketSum), .int (zi c_t_gradeSum)])), (a_t_buckets, zI J 96 (va_cpy f_p0_buckets f_t_buckets ((0 : Int)).toNat ((0 : Int)).toNat ((96 : Int)).toNat)), (a_t_grades, zI J 96 (va_cpy f_p0_grades f_t_grades ((0 : Int)).toNat ((0 : Int)).toNat ((96 : Int)).toNat)), (a_t_heights, zI J 16 (va_cpy f_p0_heights f_t_heights ((0 : Int)).toNat ((0 : Int)).toNat ((16 : Int)).toNat)), (a_t_drawn, zI J 16 (va_cpy f_p0_drawn f_t_drawn ((0 : Int)).toNat ((0 : Int)).toNat ((16 : Int)).toNat)), (a_p0, .inr (0, [.ref a_p0_buckets, .ref a_p0_grades, .ref a_p0_heights, .ref a_p0_drawn, .int (zi c_p0_limit), .int (zi c_p0_hungSet), .int (zi c_p0_bucketSum), .int (zi c_p0_gradeSum)])), (a_p0_buckets, zI J 96 f_p0_buckets), (a_p0_grades, zI J 96 f_p0_grades), (a_p0_heights, zI J 16 f_p0_heights), (a_p0_drawn, zI J 16 f_p0_drawn)] tyX0 tyX0_ok nmX0 dX0_become_93 iX0_become_X0 rfl rfl (by decide) mX0_become_f37 rfl (by decide +kernel) rfl rfl (Nat.le_of_ble_eq_true rfl) rfl rfl rfl ?_
  refine z_aload_n (pc' := 97) 0 dX0_become_96 rfl rfl rfl ?_
  refine z_aload_n (pc' := 98) 1 dX0_become_97 rfl rfl rfl ?_
  refine z_getfield (pc' := 101) (C := RX0) (T := TX0) (N := 8) 5 7 dX0_become_98 iX0_become_X0 rfl rfl (by decide) mX0_become_f40 rfl rfl ?_
  refine z_putfield (pc' := 104) (C := RX0) (T := TX0) (N := 8) (ty := .int) 0 7 [(a_t, .inr (0, [.ref a_t_buckets, .ref a_t_grades, .ref a_t_heights, .ref a_t_drawn, .int (zi c_p0_limit), .int (zi c_p0_hungSet), .int (zi c_p0_bucketSum), .int (zi c_p0_gradeSum)])), (a_t_buckets, zI J 96 (va_cpy f_p0_buckets f_t_buckets ((0 : Int)).toNat ((0 : Int)).toNat ((96 : Int)).toNat)), (a_t_grades, zI J 96 (va_cpy f_p0_grades f_t_grades ((0 : Int)).toNat ((0 : Int)).toNat ((96 : Int)).toNat)), (a_t_heights, zI J 16 (va_cpy f_p0_heights f_t_heights ((0 : Int)).toNat ((0 : Int)).toNat ((16 : Int)).toNat)), (a_t_drawn, zI J 16 (va_cpy f_p0_drawn f_t_drawn ((0 : Int)).toNat ((0 : Int)).toNat ((16 : Int)).toNat)), (a_p0, .inr (0, [.ref a_p0_buckets, .ref a_p0_grades, .ref a_p0_heights, .ref a_p0_drawn, .int (zi c_p0_limit), .int (zi c_p0_hungSet), .int (zi c_p0_bucketSum), .int (zi c_p0_gradeSum)])), (a_p0_buckets, zI J 96 f_p0_buckets), (a_p0_grades, zI J 96 f_p0_grades), (a_p0_heights, zI J 16 f_p0_heights), (a_p0_drawn, zI J 16 f_p0_drawn)] tyX0 tyX0_ok nmX0 dX0_become_101 iX0_become_X0 rfl rfl (by decide) mX0_become_f40 rfl (by decide +kernel) rfl rfl (Nat.le_of_ble_eq_true rfl) rfl rfl rfl ?_
  cases hsh
  exact z_vret rfl dX0_become_104 ⟨rfl, rfl⟩
def sh_X0_dropLowest (F : Nat) (f_t_buckets : Nat → Int) (f_t_grades : Nat → Int) (f_t_heights : Nat → Int) (p0 : Int) : Option ((Nat → Int) × (Nat → Int) × (Nat → Int)) := zkc (0 ≤ ((p0 * (6 : Int)) + (1 : Int))) (zkc (0 ≤ (p0 * (6 : Int))) (zkc (((p0 * (6 : Int)) + (1 : Int)) + (5 : Int) ≤ (96 : Int)) (zkc ((p0 * (6 : Int)) + (5 : Int) ≤ (96 : Int)) (zkc (0 ≤ ((p0 * (6 : Int)) + (1 : Int))) (zkc (0 ≤ (p0 * (6 : Int))) (zkc (((p0 * (6 : Int)) + (1 : Int)) + (5 : Int) ≤ (96 : Int)) (zkc ((p0 * (6 : Int)) + (5 : Int) ≤ (96 : Int)) (zkx p0 16 (some ((va_cpy f_t_buckets f_t_buckets (((p0 * (6 : Int)) + (1 : Int))).toNat ((p0 * (6 : Int))).toNat ((5 : Int)).toNat), (va_cpy f_t_grades f_t_grades (((p0 * (6 : Int)) + (1 : Int))).toNat ((p0 * (6 : Int))).toNat ((5 : Int)).toNat), (va_up f_t_heights (p0).toNat ((f_t_heights (p0).toNat) - (1 : Int)))))))))))))
theorem mX0_dropLowest_f9 : Cond.fieldLink RX0 9 (TX0 0).1 (TX0 0).2.1 (TX0 0).2.2.1 ∈ wsX0_dropLowest := List.mem_of_getElem? (i := 1) rfl
theorem iX0_dropLowest_X0 : ∀ w ∈ wsX00, w ∈ wsX0_dropLowest := fun _ h => (List.mem_cons_of_mem _ (List.mem_append_right _ h))
theorem mX0_dropLowest_j43 : Cond.methodLink RX0 43 arraycopyName ∈ wsX0_dropLowest := List.mem_of_getElem? (i := 2) rfl
theorem mX0_dropLowest_jacn : Cond.native arraycopyName ∈ wsX0_dropLowest := List.mem_of_getElem? (i := 3) rfl
theorem mX0_dropLowest_jacs : Cond.static arraycopyName ∈ wsX0_dropLowest := List.mem_of_getElem? (i := 4) rfl
theorem mX0_dropLowest_jaci : Cond.initialized "java/lang/System" ∈ wsX0_dropLowest := List.mem_of_getElem? (i := 5) rfl
theorem mX0_dropLowest_f15 : Cond.fieldLink RX0 15 (TX0 1).1 (TX0 1).2.1 (TX0 1).2.2.1 ∈ wsX0_dropLowest := List.mem_of_getElem? (i := 6) rfl
theorem mX0_dropLowest_f18 : Cond.fieldLink RX0 18 (TX0 2).1 (TX0 2).2.1 (TX0 2).2.2.1 ∈ wsX0_dropLowest := List.mem_of_getElem? (i := 7) rfl
set_option maxRecDepth 100000 in
set_option maxHeartbeats 4000000 in
theorem zc_X0_dropLowest (l : Launch) (D : va_G) (J : Nat → ClassId) (F : Nat) (a_t : Nat) (a_t_buckets : Nat) (a_t_grades : Nat) (a_t_heights : Nat) (a_t_drawn : Nat) (c_t_limit : Int) (c_t_hungSet : Int) (c_t_bucketSum : Int) (c_t_gradeSum : Int) (f_t_buckets : Nat → Int) (f_t_grades : Nat → Int) (f_t_heights : Nat → Int) (p0 : Int) (res : (Nat → Int) × (Nat → Int) × (Nat → Int)) (hsh : sh_X0_dropLowest F f_t_buckets f_t_grades f_t_heights p0 = some res) : ZM l D J yX0_dropLowest wsX0_dropLowest ({ frames := 1, cells := 0, slots := 0, locals := 64 } : Room) 0 0 [.ref a_t, .int (zi p0)] [(a_t, .inr (0, [.ref a_t_buckets, .ref a_t_grades, .ref a_t_heights, .ref a_t_drawn, .int (zi c_t_limit), .int (zi c_t_hungSet), .int (zi c_t_bucketSum), .int (zi c_t_gradeSum)])), (a_t_buckets, zI J 96 f_t_buckets), (a_t_grades, zI J 96 f_t_grades), (a_t_heights, zI J 16 f_t_heights)] (fun rv w9 => rv = none ∧ w9 = [(a_t, .inr (0, [.ref a_t_buckets, .ref a_t_grades, .ref a_t_heights, .ref a_t_drawn, .int (zi c_t_limit), .int (zi c_t_hungSet), .int (zi c_t_bucketSum), .int (zi c_t_gradeSum)])), (a_t_buckets, zI J 96 res.1), (a_t_grades, zI J 96 res.2.1), (a_t_heights, zI J 16 res.2.2)]) := by
  refine z_ofZ (cc := cX0_dropLowest) (maxL := 3) (ret := none) 0 0 (by decide) rfl (Nat.le_of_ble_eq_true rfl) [(0, .ref a_t), (1, .int (zi p0))] rfl ?_
  intro p e s m args below meth c A
  unfold sh_X0_dropLowest at hsh
  refine z_iload_n (pc' := 1) 1 dX0_dropLowest_0 rfl rfl rfl ?_
  refine z_bipush (pc' := 3) dX0_dropLowest_1 (by decide) rfl ?_
  refine z_imul (pc' := 4) dX0_dropLowest_3 rfl ?_
  refine z_istore_n (pc' := 5) [(2, .int (zi (p0 * (6 : Int)))), (0, .ref a_t), (1, .int (zi p0))] dX0_dropLowest_4 rfl (by decide) rfl rfl ?_
  refine z_aload_n (pc' := 6) 1 dX0_dropLowest_5 rfl rfl rfl ?_
  refine z_getfield (pc' := 9) (C := RX0) (T := TX0) (N := 8) 0 0 dX0_dropLowest_6 iX0_dropLowest_X0 rfl rfl (by decide) mX0_dropLowest_f9 rfl rfl ?_
  refine z_iload_n (pc' := 10) 0 dX0_dropLowest_9 rfl rfl rfl ?_
  refine z_iconst (pc' := 11) dX0_dropLowest_10 rfl ?_
  refine z_iadd (pc' := 12) dX0_dropLowest_11 rfl ?_
  refine z_aload_n (pc' := 13) 1 dX0_dropLowest_12 rfl rfl rfl ?_
  refine z_getfield (pc' := 16) (C := RX0) (T := TX0) (N := 8) 0 0 dX0_dropLowest_13 iX0_dropLowest_X0 rfl rfl (by decide) mX0_dropLowest_f9 rfl rfl ?_
  refine z_iload_n (pc' := 17) 0 dX0_dropLowest_16 rfl rfl rfl ?_
  refine z_iconst (pc' := 18) dX0_dropLowest_17 rfl ?_
  have g1 := zkc_p hsh
  replace hsh := zkc_k hsh
  have g2 := zkc_p hsh
  replace hsh := zkc_k hsh
  have g3 := zkc_p hsh
  replace hsh := zkc_k hsh
  have g4 := zkc_p hsh
  replace hsh := zkc_k hsh
  refine z_copyi (pc' := 21) 1 1 [(a_t, .inr (0, [.ref a_t_buckets, .ref a_t_grades, .ref a_t_heights, .ref a_t_drawn, .int (zi c_t_limit), .int (zi c_t_hungSet), .int (zi c_t_bucketSum), .int (zi c_t_gradeSum)])), (a_t_buckets, zI J 96 (va_cpy f_t_buckets f_t_buckets (((p0 * (6 : Int)) + (1 : Int))).toNat ((p0 * (6 : Int))).toNat ((5 : Int)).toNat)), (a_t_grades, zI J 96 f_t_grades), (a_t_heights, zI J 16 f_t_heights)] dX0_dropLowest_18 mX0_dropLowest_j43 mX0_dropLowest_jacn mX0_dropLowest_jacs mX0_dropLowest_jaci rfl rfl (by decide) (by decide) g1 g2 (by decide) g3 g4 (Nat.le_of_ble_eq_true rfl) (Nat.le_of_ble_eq_true rfl) rfl rfl ?_
  refine z_aload_n (pc' := 22) 1 dX0_dropLowest_21 rfl rfl rfl ?_
  refine z_getfield (pc' := 25) (C := RX0) (T := TX0) (N := 8) 0 1 dX0_dropLowest_22 iX0_dropLowest_X0 rfl rfl (by decide) mX0_dropLowest_f15 rfl rfl ?_
  refine z_iload_n (pc' := 26) 0 dX0_dropLowest_25 rfl rfl rfl ?_
  refine z_iconst (pc' := 27) dX0_dropLowest_26 rfl ?_
  refine z_iadd (pc' := 28) dX0_dropLowest_27 rfl ?_
  refine z_aload_n (pc' := 29) 1 dX0_dropLowest_28 rfl rfl rfl ?_
  refine z_getfield (pc' := 32) (C := RX0) (T := TX0) (N := 8) 0 1 dX0_dropLowest_29 iX0_dropLowest_X0 rfl rfl (by decide) mX0_dropLowest_f15 rfl rfl ?_
  refine z_iload_n (pc' := 33) 0 dX0_dropLowest_32 rfl rfl rfl ?_
  refine z_iconst (pc' := 34) dX0_dropLowest_33 rfl ?_
  have g5 := zkc_p hsh
  replace hsh := zkc_k hsh
  have g6 := zkc_p hsh
  replace hsh := zkc_k hsh
  have g7 := zkc_p hsh
  replace hsh := zkc_k hsh
  have g8 := zkc_p hsh
  replace hsh := zkc_k hsh
  refine z_copyi (pc' := 37) 2 2 [(a_t, .inr (0, [.ref a_t_buckets, .ref a_t_grades, .ref a_t_heights, .ref a_t_drawn, .int (zi c_t_limit), .int (zi c_t_hungSet), .int (zi c_t_bucketSum), .int (zi c_t_gradeSum)])), (a_t_buckets, zI J 96 (va_cpy f_t_buckets f_t_buckets (((p0 * (6 : Int)) + (1 : Int))).toNat ((p0 * (6 : Int))).toNat ((5 : Int)).toNat)), (a_t_grades, zI J 96 (va_cpy f_t_grades f_t_grades (((p0 * (6 : Int)) + (1 : Int))).toNat ((p0 * (6 : Int))).toNat ((5 : Int)).toNat)), (a_t_heights, zI J 16 f_t_heights)] dX0_dropLowest_34 mX0_dropLowest_j43 mX0_dropLowest_jacn mX0_dropLowest_jacs mX0_dropLowest_jaci rfl rfl (by decide) (by decide) g5 g6 (by decide) g7 g8 (Nat.le_of_ble_eq_true rfl) (Nat.le_of_ble_eq_true rfl) rfl rfl ?_
  refine z_aload_n (pc' := 38) 1 dX0_dropLowest_37 rfl rfl rfl ?_
  refine z_getfield (pc' := 41) (C := RX0) (T := TX0) (N := 8) 0 2 dX0_dropLowest_38 iX0_dropLowest_X0 rfl rfl (by decide) mX0_dropLowest_f18 rfl rfl ?_
  refine z_iload_n (pc' := 42) 2 dX0_dropLowest_41 rfl rfl rfl ?_
  refine z_dup2 (pc' := 43) dX0_dropLowest_42 rfl rfl rfl ?_
  have g9 := zkx_p hsh
  replace hsh := zkx_k hsh
  refine z_iaload (pc' := 44) 3 dX0_dropLowest_43 rfl (by decide) g9 rfl ?_
  refine z_iconst (pc' := 45) dX0_dropLowest_44 rfl ?_
  refine z_isub (pc' := 46) dX0_dropLowest_45 rfl ?_
  refine z_iastore (pc' := 47) 3 [(a_t, .inr (0, [.ref a_t_buckets, .ref a_t_grades, .ref a_t_heights, .ref a_t_drawn, .int (zi c_t_limit), .int (zi c_t_hungSet), .int (zi c_t_bucketSum), .int (zi c_t_gradeSum)])), (a_t_buckets, zI J 96 (va_cpy f_t_buckets f_t_buckets (((p0 * (6 : Int)) + (1 : Int))).toNat ((p0 * (6 : Int))).toNat ((5 : Int)).toNat)), (a_t_grades, zI J 96 (va_cpy f_t_grades f_t_grades (((p0 * (6 : Int)) + (1 : Int))).toNat ((p0 * (6 : Int))).toNat ((5 : Int)).toNat)), (a_t_heights, zI J 16 (va_up f_t_heights (p0).toNat ((f_t_heights (p0).toNat) - (1 : Int))))] dX0_dropLowest_46 rfl (by decide) g9 rfl rfl ?_
  cases hsh
  exact z_vret rfl dX0_dropLowest_47 ⟨rfl, rfl⟩
def sh_X0_take (F : Nat) (c_t_bucketSum : Int) (c_t_gradeSum : Int) (f_t_buckets : Nat → Int) (f_t_grades : Nat → Int) (f_t_heights : Nat → Int) (f_t_drawn : Nat → Int) (p0 : Int) : Option (Int × Int × Int × (Nat → Int) × (Nat → Int) × (Nat → Int) × (Nat → Int)) := zkx p0 16 (zkr (f_t_heights (p0).toNat) (if (f_t_heights (p0).toNat) = (0 : Int) then some ((-9 : Int), c_t_bucketSum, c_t_gradeSum, f_t_buckets, f_t_grades, f_t_heights, f_t_drawn) else zkx (p0 * (6 : Int)) 96 (zkr ((va_up f_t_buckets ((p0 * (6 : Int))).toNat ((f_t_buckets ((p0 * (6 : Int))).toNat) - (1 : Int))) ((p0 * (6 : Int))).toNat) (if ((va_up f_t_buckets ((p0 * (6 : Int))).toNat ((f_t_buckets ((p0 * (6 : Int))).toNat) - (1 : Int))) ((p0 * (6 : Int))).toNat) = (0 : Int) then (sh_X0_dropLowest F (va_up f_t_buckets ((p0 * (6 : Int))).toNat ((f_t_buckets ((p0 * (6 : Int))).toNat) - (1 : Int))) f_t_grades f_t_heights p0).bind (fun (q5 : (Nat → Int) × (Nat → Int) × (Nat → Int)) => some ((f_t_grades ((p0 * (6 : Int))).toNat), (c_t_bucketSum + (1 : Int)), (c_t_gradeSum + (f_t_grades ((p0 * (6 : Int))).toNat)), q5.1, q5.2.1, q5.2.2, (va_up f_t_drawn (p0).toNat ((f_t_drawn (p0).toNat) + (1 : Int))))) else some ((f_t_grades ((p0 * (6 : Int))).toNat), (c_t_bucketSum + (1 : Int)), (c_t_gradeSum + (f_t_grades ((p0 * (6 : Int))).toNat)), (va_up f_t_buckets ((p0 * (6 : Int))).toNat ((f_t_buckets ((p0 * (6 : Int))).toNat) - (1 : Int))), f_t_grades, f_t_heights, (va_up f_t_drawn (p0).toNat ((f_t_drawn (p0).toNat) + (1 : Int))))))))
theorem mX0_take_f18 : Cond.fieldLink RX0 18 (TX0 2).1 (TX0 2).2.1 (TX0 2).2.2.1 ∈ wsX0_take := List.mem_of_getElem? (i := 1) rfl
theorem iX0_take_X0 : ∀ w ∈ wsX00, w ∈ wsX0_take := fun _ h => (List.mem_cons_of_mem _ (List.mem_append_right _ h))
theorem mX0_take_f15 : Cond.fieldLink RX0 15 (TX0 1).1 (TX0 1).2.1 (TX0 1).2.2.1 ∈ wsX0_take := List.mem_of_getElem? (i := 2) rfl
theorem mX0_take_f9 : Cond.fieldLink RX0 9 (TX0 0).1 (TX0 0).2.1 (TX0 0).2.2.1 ∈ wsX0_take := List.mem_of_getElem? (i := 3) rfl
theorem mX0_take_f21 : Cond.fieldLink RX0 21 (TX0 3).1 (TX0 3).2.1 (TX0 3).2.2.1 ∈ wsX0_take := List.mem_of_getElem? (i := 4) rfl
theorem mX0_take_f37 : Cond.fieldLink RX0 37 (TX0 6).1 (TX0 6).2.1 (TX0 6).2.2.1 ∈ wsX0_take := List.mem_of_getElem? (i := 5) rfl
theorem mX0_take_f40 : Cond.fieldLink RX0 40 (TX0 7).1 (TX0 7).2.1 (TX0 7).2.2.1 ∈ wsX0_take := List.mem_of_getElem? (i := 6) rfl
set_option maxRecDepth 100000 in
set_option maxHeartbeats 4000000 in
theorem zc_X0_take (l : Launch) (D : va_G) (J : Nat → ClassId) (F : Nat) (a_t : Nat) (a_t_buckets : Nat) (a_t_grades : Nat) (a_t_heights : Nat) (a_t_drawn : Nat) (c_t_limit : Int) (c_t_hungSet : Int) (c_t_bucketSum : Int) (c_t_gradeSum : Int) (f_t_buckets : Nat → Int) (f_t_grades : Nat → Int) (f_t_heights : Nat → Int) (f_t_drawn : Nat → Int) (p0 : Int) (res : Int × Int × Int × (Nat → Int) × (Nat → Int) × (Nat → Int) × (Nat → Int)) (hsh : sh_X0_take F c_t_bucketSum c_t_gradeSum f_t_buckets f_t_grades f_t_heights f_t_drawn p0 = some res) : ZM l D J yX0_take wsX0_take ({ frames := 2, cells := 0, slots := 0, locals := 86 } : Room) 0 0 [.ref a_t, .int (zi p0)] [(a_t, .inr (0, [.ref a_t_buckets, .ref a_t_grades, .ref a_t_heights, .ref a_t_drawn, .int (zi c_t_limit), .int (zi c_t_hungSet), .int (zi c_t_bucketSum), .int (zi c_t_gradeSum)])), (a_t_buckets, zI J 96 f_t_buckets), (a_t_grades, zI J 96 f_t_grades), (a_t_heights, zI J 16 f_t_heights), (a_t_drawn, zI J 16 f_t_drawn)] (fun rv w9 => rv = some (.int (zi res.1)) ∧ w9 = [(a_t, .inr (0, [.ref a_t_buckets, .ref a_t_grades, .ref a_t_heights, .ref a_t_drawn, .int (zi c_t_limit), .int (zi c_t_hungSet), .int (zi res.2.1), .int (zi res.2.2.1)])), (a_t_buckets, zI J 96 res.2.2.2.1), (a_t_grades, zI J 96 res.2.2.2.2.1), (a_t_heights, zI J 16 res.2.2.2.2.2.1), (a_t_drawn, zI J 16 res.2.2.2.2.2.2)]) := by
  refine z_ofZ (cc := cX0_take) (maxL := 4) (ret := (some .int)) 0 0 (by decide) rfl (Nat.le_of_ble_eq_true rfl) [(0, .ref a_t), (1, .int (zi p0))] rfl ?_
  intro p e s m args below meth c A
  unfold sh_X0_take at hsh
  refine z_aload_n (pc' := 1) 0 dX0_take_0 rfl rfl rfl ?_
  refine z_getfield (pc' := 4) (C := RX0) (T := TX0) (N := 8) 0 2 dX0_take_1 iX0_take_X0 rfl rfl (by decide) mX0_take_f18 rfl rfl ?_
  refine z_iload_n (pc' := 5) 1 dX0_take_4 rfl rfl rfl ?_
  have g1 := zkx_p hsh
  replace hsh := zkx_k hsh
  refine z_iaload (pc' := 6) 3 dX0_take_5 rfl (by decide) g1 rfl ?_
  have g2 := zkr_p hsh
  replace hsh := zkr_k hsh
  refine z_if_ne (pc' := 9) (tgt := 12) dX0_take_6 (by decide) g2 rfl (fun q => ?_) (fun q => ?_)
  · replace hsh := zif_f q hsh
    refine z_iload_n (pc' := 13) 1 dX0_take_12 rfl rfl rfl ?_
    refine z_bipush (pc' := 15) dX0_take_13 (by decide) rfl ?_
    refine z_imul (pc' := 16) dX0_take_15 rfl ?_
    refine z_istore_n (pc' := 17) [(2, .int (zi (p0 * (6 : Int)))), (0, .ref a_t), (1, .int (zi p0))] dX0_take_16 rfl (by decide) rfl rfl ?_
    refine z_aload_n (pc' := 18) 1 dX0_take_17 rfl rfl rfl ?_
    refine z_getfield (pc' := 21) (C := RX0) (T := TX0) (N := 8) 0 1 dX0_take_18 iX0_take_X0 rfl rfl (by decide) mX0_take_f15 rfl rfl ?_
    refine z_iload_n (pc' := 22) 0 dX0_take_21 rfl rfl rfl ?_
    have g3 := zkx_p hsh
    replace hsh := zkx_k hsh
    refine z_iaload (pc' := 23) 2 dX0_take_22 rfl (by decide) g3 rfl ?_
    refine z_istore_n (pc' := 24) [(3, .int (zi (f_t_grades ((p0 * (6 : Int))).toNat))), (2, .int (zi (p0 * (6 : Int)))), (0, .ref a_t), (1, .int (zi p0))] dX0_take_23 rfl (by decide) rfl rfl ?_
    refine z_aload_n (pc' := 25) 2 dX0_take_24 rfl rfl rfl ?_
    refine z_getfield (pc' := 28) (C := RX0) (T := TX0) (N := 8) 0 0 dX0_take_25 iX0_take_X0 rfl rfl (by decide) mX0_take_f9 rfl rfl ?_
    refine z_iload_n (pc' := 29) 1 dX0_take_28 rfl rfl rfl ?_
    refine z_dup2 (pc' := 30) dX0_take_29 rfl rfl rfl ?_
    refine z_iaload (pc' := 31) 1 dX0_take_30 rfl (by decide) g3 rfl ?_
    refine z_iconst (pc' := 32) dX0_take_31 rfl ?_
    refine z_isub (pc' := 33) dX0_take_32 rfl ?_
    refine z_iastore (pc' := 34) 1 [(a_t, .inr (0, [.ref a_t_buckets, .ref a_t_grades, .ref a_t_heights, .ref a_t_drawn, .int (zi c_t_limit), .int (zi c_t_hungSet), .int (zi c_t_bucketSum), .int (zi c_t_gradeSum)])), (a_t_buckets, zI J 96 (va_up f_t_buckets ((p0 * (6 : Int))).toNat ((f_t_buckets ((p0 * (6 : Int))).toNat) - (1 : Int)))), (a_t_grades, zI J 96 f_t_grades), (a_t_heights, zI J 16 f_t_heights), (a_t_drawn, zI J 16 f_t_drawn)] dX0_take_33 rfl (by decide) g3 rfl rfl ?_
    refine z_aload_n (pc' := 35) 2 dX0_take_34 rfl rfl rfl ?_
    refine z_getfield (pc' := 38) (C := RX0) (T := TX0) (N := 8) 0 0 dX0_take_35 iX0_take_X0 rfl rfl (by decide) mX0_take_f9 rfl rfl ?_
    refine z_iload_n (pc' := 39) 1 dX0_take_38 rfl rfl rfl ?_
    refine z_iaload (pc' := 40) 1 dX0_take_39 rfl (by decide) g3 rfl ?_
    have g4 := zkr_p hsh
    replace hsh := zkr_k hsh
    refine z_if_ne (pc' := 43) (tgt := 48) dX0_take_40 (by decide) g4 rfl (fun q => ?_) (fun q => ?_)
    · replace hsh := zif_f q hsh
      refine z_aload_n (pc' := 49) 2 dX0_take_48 rfl rfl rfl ?_
      refine z_getfield (pc' := 52) (C := RX0) (T := TX0) (N := 8) 0 3 dX0_take_49 iX0_take_X0 rfl rfl (by decide) mX0_take_f21 rfl rfl ?_
      refine z_iload_n (pc' := 53) 3 dX0_take_52 rfl rfl rfl ?_
      refine z_dup2 (pc' := 54) dX0_take_53 rfl rfl rfl ?_
      refine z_iaload (pc' := 55) 4 dX0_take_54 rfl (by decide) g1 rfl ?_
      refine z_iconst (pc' := 56) dX0_take_55 rfl ?_
      refine z_iadd (pc' := 57) dX0_take_56 rfl ?_
      refine z_iastore (pc' := 58) 4 [(a_t, .inr (0, [.ref a_t_buckets, .ref a_t_grades, .ref a_t_heights, .ref a_t_drawn, .int (zi c_t_limit), .int (zi c_t_hungSet), .int (zi c_t_bucketSum), .int (zi c_t_gradeSum)])), (a_t_buckets, zI J 96 (va_up f_t_buckets ((p0 * (6 : Int))).toNat ((f_t_buckets ((p0 * (6 : Int))).toNat) - (1 : Int)))), (a_t_grades, zI J 96 f_t_grades), (a_t_heights, zI J 16 f_t_heights), (a_t_drawn, zI J 16 (va_up f_t_drawn (p0).toNat ((f_t_drawn (p0).toNat) + (1 : Int))))] dX0_take_57 rfl (by decide) g1 rfl rfl ?_
      refine z_aload_n (pc' := 59) 2 dX0_take_58 rfl rfl rfl ?_
      refine z_dup (pc' := 60) dX0_take_59 rfl rfl ?_
      refine z_getfield (pc' := 63) (C := RX0) (T := TX0) (N := 8) 0 6 dX0_take_60 iX0_take_X0 rfl rfl (by decide) mX0_take_f37 rfl rfl ?_
      refine z_iconst (pc' := 64) dX0_take_63 rfl ?_
      refine z_iadd (pc' := 65) dX0_take_64 rfl ?_
      refine z_putfield (pc' := 68) (C := RX0) (T := TX0) (N := 8) (ty := .int) 0 6 [(a_t, .inr (0, [.ref a_t_buckets, .ref a_t_grades, .ref a_t_heights, .ref a_t_drawn, .int (zi c_t_limit), .int (zi c_t_hungSet), .int (zi (c_t_bucketSum + (1 : Int))), .int (zi c_t_gradeSum)])), (a_t_buckets, zI J 96 (va_up f_t_buckets ((p0 * (6 : Int))).toNat ((f_t_buckets ((p0 * (6 : Int))).toNat) - (1 : Int)))), (a_t_grades, zI J 96 f_t_grades), (a_t_heights, zI J 16 f_t_heights), (a_t_drawn, zI J 16 (va_up f_t_drawn (p0).toNat ((f_t_drawn (p0).toNat) + (1 : Int))))] tyX0 tyX0_ok nmX0 dX0_take_65 iX0_take_X0 rfl rfl (by decide) mX0_take_f37 rfl (by decide +kernel) rfl rfl (Nat.le_of_ble_eq_true rfl) rfl rfl rfl ?_
      refine z_aload_n (pc' := 69) 2 dX0_take_68 rfl rfl rfl ?_
      refine z_dup (pc' := 70) dX0_take_69 rfl rfl ?_
      refine z_getfield (pc' := 73) (C := RX0) (T := TX0) (N := 8) 0 7 dX0_take_70 iX0_take_X0 rfl rfl (by decide) mX0_take_f40 rfl rfl ?_
      refine z_iload_n (pc' := 74) 0 dX0_take_73 rfl rfl rfl ?_
      refine z_iadd (pc' := 75) dX0_take_74 rfl ?_
      refine z_putfield (pc' := 78) (C := RX0) (T := TX0) (N := 8) (ty := .int) 0 7 [(a_t, .inr (0, [.ref a_t_buckets, .ref a_t_grades, .ref a_t_heights, .ref a_t_drawn, .int (zi c_t_limit), .int (zi c_t_hungSet), .int (zi (c_t_bucketSum + (1 : Int))), .int (zi (c_t_gradeSum + (f_t_grades ((p0 * (6 : Int))).toNat)))])), (a_t_buckets, zI J 96 (va_up f_t_buckets ((p0 * (6 : Int))).toNat ((f_t_buckets ((p0 * (6 : Int))).toNat) - (1 : Int)))), (a_t_grades, zI J 96 f_t_grades), (a_t_heights, zI J 16 f_t_heights), (a_t_drawn, zI J 16 (va_up f_t_drawn (p0).toNat ((f_t_drawn (p0).toNat) + (1 : Int))))] tyX0 tyX0_ok nmX0 dX0_take_75 iX0_take_X0 rfl rfl (by decide) mX0_take_f40 rfl (by decide +kernel) rfl rfl (Nat.le_of_ble_eq_true rfl) rfl rfl rfl ?_
      refine z_iload_n (pc' := 79) 0 dX0_take_78 rfl rfl rfl ?_
      cases hsh
      exact z_iret rfl dX0_take_79 ⟨rfl, rfl⟩
    · replace hsh := zif_t q hsh
      refine z_aload_n (pc' := 44) 2 dX0_take_43 rfl rfl rfl ?_
      refine z_iload_n (pc' := 45) 3 dX0_take_44 rfl rfl rfl ?_
      obtain ⟨q5, h6, hsh⟩ := zbind hsh
      refine z_callV (pc' := 48) (C := RX0) (As := [.int (zi p0)]) (rest := []) (wr := [(a_t_drawn, zI J 16 f_t_drawn)]) 1 (zc_X0_dropLowest l D J F (a_t := a_t) (a_t_buckets := a_t_buckets) (a_t_grades := a_t_grades) (a_t_heights := a_t_heights) (a_t_drawn := a_t_drawn) (c_t_limit := c_t_limit) (c_t_hungSet := c_t_hungSet) (c_t_bucketSum := c_t_bucketSum) (c_t_gradeSum := c_t_gradeSum) (f_t_buckets := (va_up f_t_buckets ((p0 * (6 : Int))).toNat ((f_t_buckets ((p0 * (6 : Int))).toNat) - (1 : Int)))) (f_t_grades := f_t_grades) (f_t_heights := f_t_heights) (p0 := p0)  q5 h6) dX0_take_45 gX0_take_X0_dropLowest rfl rfl rfl (by decide +kernel) ⟨Nat.le_of_ble_eq_true rfl, Nat.le_of_ble_eq_true rfl⟩ ⟨Nat.le_of_ble_eq_true rfl, Nat.le_of_ble_eq_true rfl⟩ (z_spl_of [0, 1, 2, 3, 4] rfl rfl) rfl rfl rfl rfl (Nat.le_of_ble_eq_true rfl) rfl (fun rv w9 hq => ?_)
      obtain ⟨rfl, rfl⟩ := hq
      refine z_ws [(a_t_drawn, zI J 16 f_t_drawn), (a_t, .inr (0, [.ref a_t_buckets, .ref a_t_grades, .ref a_t_heights, .ref a_t_drawn, .int (zi c_t_limit), .int (zi c_t_hungSet), .int (zi c_t_bucketSum), .int (zi c_t_gradeSum)])), (a_t_buckets, zI J 96 q5.1), (a_t_grades, zI J 96 q5.2.1), (a_t_heights, zI J 16 q5.2.2)] rfl ?_
      refine z_aload_n (pc' := 49) 2 dX0_take_48 rfl rfl rfl ?_
      refine z_getfield (pc' := 52) (C := RX0) (T := TX0) (N := 8) 1 3 dX0_take_49 iX0_take_X0 rfl rfl (by decide) mX0_take_f21 rfl rfl ?_
      refine z_iload_n (pc' := 53) 3 dX0_take_52 rfl rfl rfl ?_
      refine z_dup2 (pc' := 54) dX0_take_53 rfl rfl rfl ?_
      refine z_iaload (pc' := 55) 0 dX0_take_54 rfl (by decide) g1 rfl ?_
      refine z_iconst (pc' := 56) dX0_take_55 rfl ?_
      refine z_iadd (pc' := 57) dX0_take_56 rfl ?_
      refine z_iastore (pc' := 58) 0 [(a_t_drawn, zI J 16 (va_up f_t_drawn (p0).toNat ((f_t_drawn (p0).toNat) + (1 : Int)))), (a_t, .inr (0, [.ref a_t_buckets, .ref a_t_grades, .ref a_t_heights, .ref a_t_drawn, .int (zi c_t_limit), .int (zi c_t_hungSet), .int (zi c_t_bucketSum), .int (zi c_t_gradeSum)])), (a_t_buckets, zI J 96 q5.1), (a_t_grades, zI J 96 q5.2.1), (a_t_heights, zI J 16 q5.2.2)] dX0_take_57 rfl (by decide) g1 rfl rfl ?_
      refine z_aload_n (pc' := 59) 2 dX0_take_58 rfl rfl rfl ?_
      refine z_dup (pc' := 60) dX0_take_59 rfl rfl ?_
      refine z_getfield (pc' := 63) (C := RX0) (T := TX0) (N := 8) 1 6 dX0_take_60 iX0_take_X0 rfl rfl (by decide) mX0_take_f37 rfl rfl ?_
      refine z_iconst (pc' := 64) dX0_take_63 rfl ?_
      refine z_iadd (pc' := 65) dX0_take_64 rfl ?_
      refine z_putfield (pc' := 68) (C := RX0) (T := TX0) (N := 8) (ty := .int) 1 6 [(a_t_drawn, zI J 16 (va_up f_t_drawn (p0).toNat ((f_t_drawn (p0).toNat) + (1 : Int)))), (a_t, .inr (0, [.ref a_t_buckets, .ref a_t_grades, .ref a_t_heights, .ref a_t_drawn, .int (zi c_t_limit), .int (zi c_t_hungSet), .int (zi (c_t_bucketSum + (1 : Int))), .int (zi c_t_gradeSum)])), (a_t_buckets, zI J 96 q5.1), (a_t_grades, zI J 96 q5.2.1), (a_t_heights, zI J 16 q5.2.2)] tyX0 tyX0_ok nmX0 dX0_take_65 iX0_take_X0 rfl rfl (by decide) mX0_take_f37 rfl (by decide +kernel) rfl rfl (Nat.le_of_ble_eq_true rfl) rfl rfl rfl ?_
      refine z_aload_n (pc' := 69) 2 dX0_take_68 rfl rfl rfl ?_
      refine z_dup (pc' := 70) dX0_take_69 rfl rfl ?_
      refine z_getfield (pc' := 73) (C := RX0) (T := TX0) (N := 8) 1 7 dX0_take_70 iX0_take_X0 rfl rfl (by decide) mX0_take_f40 rfl rfl ?_
      refine z_iload_n (pc' := 74) 0 dX0_take_73 rfl rfl rfl ?_
      refine z_iadd (pc' := 75) dX0_take_74 rfl ?_
      refine z_putfield (pc' := 78) (C := RX0) (T := TX0) (N := 8) (ty := .int) 1 7 [(a_t_drawn, zI J 16 (va_up f_t_drawn (p0).toNat ((f_t_drawn (p0).toNat) + (1 : Int)))), (a_t, .inr (0, [.ref a_t_buckets, .ref a_t_grades, .ref a_t_heights, .ref a_t_drawn, .int (zi c_t_limit), .int (zi c_t_hungSet), .int (zi (c_t_bucketSum + (1 : Int))), .int (zi (c_t_gradeSum + (f_t_grades ((p0 * (6 : Int))).toNat)))])), (a_t_buckets, zI J 96 q5.1), (a_t_grades, zI J 96 q5.2.1), (a_t_heights, zI J 16 q5.2.2)] tyX0 tyX0_ok nmX0 dX0_take_75 iX0_take_X0 rfl rfl (by decide) mX0_take_f40 rfl (by decide +kernel) rfl rfl (Nat.le_of_ble_eq_true rfl) rfl rfl rfl ?_
      refine z_iload_n (pc' := 79) 0 dX0_take_78 rfl rfl rfl ?_
      refine z_perm [(a_t, .inr (0, [.ref a_t_buckets, .ref a_t_grades, .ref a_t_heights, .ref a_t_drawn, .int (zi c_t_limit), .int (zi c_t_hungSet), .int (zi (c_t_bucketSum + (1 : Int))), .int (zi (c_t_gradeSum + (f_t_grades ((p0 * (6 : Int))).toNat)))])), (a_t_buckets, zI J 96 q5.1), (a_t_grades, zI J 96 q5.2.1), (a_t_heights, zI J 16 q5.2.2), (a_t_drawn, zI J 16 (va_up f_t_drawn (p0).toNat ((f_t_drawn (p0).toNat) + (1 : Int))))] [(3, .int (zi (f_t_grades ((p0 * (6 : Int))).toNat))), (2, .int (zi (p0 * (6 : Int)))), (0, .ref a_t), (1, .int (zi p0))] [1, 2, 3, 4, 0] [0, 1, 2, 3] rfl rfl rfl ?_
      cases hsh
      exact z_iret rfl dX0_take_79 ⟨rfl, rfl⟩
  · replace hsh := zif_t q hsh
    refine z_bipush (pc' := 11) dX0_take_9 (by decide) rfl ?_
    cases hsh
    exact z_iret rfl dX0_take_11 ⟨rfl, rfl⟩
def sh_X0_nextOf_L12 (F : Nat) (c_t_limit : Int) (c_t_hungSet : Int) (f_t_buckets : Nat → Int) (f_t_grades : Nat → Int) (f_t_heights : Nat → Int) (f_t_drawn : Nat → Int) (c_p0_size : Int) (f_p0_neighbours : Nat → Int) (f_p0_neighbourCount : Nat → Int) (k : Int → Int → Int → Int → Option (Int)) : Nat → Int → Int → Int → Int → Option (Int)
  | 0, _, _, _, _ => none
  | N + 1, v5, v6, v7, v8 => (sh_X2_size F c_p0_size).bind (fun (q9 : Int) => zkr v8 (zkr q9 (if v8 < q9 then (sh_X0_slackOf F c_t_limit c_t_hungSet f_t_buckets f_t_heights f_t_drawn f_p0_neighbours f_p0_neighbourCount v8).bind (fun (q13 : Int) => (sh_X0_gradeOf F f_t_buckets f_t_grades f_t_heights v8 (0 : Int)).bind (fun (q15 : Int) => zkr q13 (zkr v6 (if q13 = v6 then zkr q15 (zkr v7 (if v7 < q15 then if (0 : Int) < q13 then if (1 : Int) = (0 : Int) then sh_X0_nextOf_L12 F c_t_limit c_t_hungSet f_t_buckets f_t_grades f_t_heights f_t_drawn c_p0_size f_p0_neighbours f_p0_neighbourCount k N v5 v6 v7 (v8 + (1 : Int)) else sh_X0_nextOf_L12 F c_t_limit c_t_hungSet f_t_buckets f_t_grades f_t_heights f_t_drawn c_p0_size f_p0_neighbours f_p0_neighbourCount k N v8 q13 q15 (v8 + (1 : Int)) else sh_X0_nextOf_L12 F c_t_limit c_t_hungSet f_t_buckets f_t_grades f_t_heights f_t_drawn c_p0_size f_p0_neighbours f_p0_neighbourCount k N v5 v6 v7 (v8 + (1 : Int)) else if (0 : Int) < q13 then if (0 : Int) = (0 : Int) then sh_X0_nextOf_L12 F c_t_limit c_t_hungSet f_t_buckets f_t_grades f_t_heights f_t_drawn c_p0_size f_p0_neighbours f_p0_neighbourCount k N v5 v6 v7 (v8 + (1 : Int)) else sh_X0_nextOf_L12 F c_t_limit c_t_hungSet f_t_buckets f_t_grades f_t_heights f_t_drawn c_p0_size f_p0_neighbours f_p0_neighbourCount k N v8 q13 q15 (v8 + (1 : Int)) else sh_X0_nextOf_L12 F c_t_limit c_t_hungSet f_t_buckets f_t_grades f_t_heights f_t_drawn c_p0_size f_p0_neighbours f_p0_neighbourCount k N v5 v6 v7 (v8 + (1 : Int)))) else if v6 < q13 then if (0 : Int) < q13 then if (1 : Int) = (0 : Int) then sh_X0_nextOf_L12 F c_t_limit c_t_hungSet f_t_buckets f_t_grades f_t_heights f_t_drawn c_p0_size f_p0_neighbours f_p0_neighbourCount k N v5 v6 v7 (v8 + (1 : Int)) else sh_X0_nextOf_L12 F c_t_limit c_t_hungSet f_t_buckets f_t_grades f_t_heights f_t_drawn c_p0_size f_p0_neighbours f_p0_neighbourCount k N v8 q13 q15 (v8 + (1 : Int)) else sh_X0_nextOf_L12 F c_t_limit c_t_hungSet f_t_buckets f_t_grades f_t_heights f_t_drawn c_p0_size f_p0_neighbours f_p0_neighbourCount k N v5 v6 v7 (v8 + (1 : Int)) else if (0 : Int) < q13 then if (0 : Int) = (0 : Int) then sh_X0_nextOf_L12 F c_t_limit c_t_hungSet f_t_buckets f_t_grades f_t_heights f_t_drawn c_p0_size f_p0_neighbours f_p0_neighbourCount k N v5 v6 v7 (v8 + (1 : Int)) else sh_X0_nextOf_L12 F c_t_limit c_t_hungSet f_t_buckets f_t_grades f_t_heights f_t_drawn c_p0_size f_p0_neighbours f_p0_neighbourCount k N v8 q13 q15 (v8 + (1 : Int)) else sh_X0_nextOf_L12 F c_t_limit c_t_hungSet f_t_buckets f_t_grades f_t_heights f_t_drawn c_p0_size f_p0_neighbours f_p0_neighbourCount k N v5 v6 v7 (v8 + (1 : Int)))))) else k v5 v6 v7 v8)))
def sh_X0_nextOf (F : Nat) (c_t_limit : Int) (c_t_hungSet : Int) (f_t_buckets : Nat → Int) (f_t_grades : Nat → Int) (f_t_heights : Nat → Int) (f_t_drawn : Nat → Int) (c_p0_size : Int) (f_p0_neighbours : Nat → Int) (f_p0_neighbourCount : Nat → Int) : Option (Int) := sh_X0_nextOf_L12 F c_t_limit c_t_hungSet f_t_buckets f_t_grades f_t_heights f_t_drawn c_p0_size f_p0_neighbours f_p0_neighbourCount (fun (v21 : Int) (v22 : Int) (v23 : Int) (v24 : Int) => some (v21)) F (-9 : Int) (0 : Int) (-9 : Int) (0 : Int)
set_option maxRecDepth 100000 in
set_option maxHeartbeats 4000000 in
theorem zl_X0_nextOf_L12 {p : Program} {l : Launch} {e : Env} {s : State} {m : MethodId} {args : Array Value} {below : List Frame} {meth : Method} {c : Code} {A : Nat → Prop} {D : va_G} {J : Nat → ClassId} {F : Nat} {c_t_limit : Int} {c_t_hungSet : Int} {f_t_buckets : Nat → Int} {f_t_grades : Nat → Int} {f_t_heights : Nat → Int} {f_t_drawn : Nat → Int} {c_p0_size : Int} {f_p0_neighbours : Nat → Int} {f_p0_neighbourCount : Nat → Int} {a_t : Nat} {a_t_buckets : Nat} {a_t_grades : Nat} {a_t_heights : Nat} {a_t_drawn : Nat} {c_t_bucketSum : Int} {c_t_gradeSum : Int} {a_p0 : Nat} {a_p0_rowOf : Nat} {a_p0_columnOf : Nat} {a_p0_neighbours : Nat} {a_p0_neighbourCount : Nat} {res : Int} {k : Int → Int → Int → Int → Option (Int)} (hk : ∀ (v5' : Int) (v6' : Int) (v7' : Int) (v8' : Int), k v5' v6' v7' v8' = some res → Z p l e ({ frames := 3, cells := 0, slots := 0, locals := 69 } : Room) s m args below meth c (MQ below (zQ D J A (fun rv w9 => rv = some (.int (zi res)) ∧ w9 = [(a_t, .inr (0, [.ref a_t_buckets, .ref a_t_grades, .ref a_t_heights, .ref a_t_drawn, .int (zi c_t_limit), .int (zi c_t_hungSet), .int (zi c_t_bucketSum), .int (zi c_t_gradeSum)])), (a_t_buckets, zI J 96 f_t_buckets), (a_t_grades, zI J 96 f_t_grades), (a_t_heights, zI J 16 f_t_heights), (a_t_drawn, zI J 16 f_t_drawn), (a_p0, .inr (2, [.ref a_p0_rowOf, .ref a_p0_columnOf, .ref a_p0_neighbours, .ref a_p0_neighbourCount, .int (zi c_p0_size)])), (a_p0_neighbours, zI J 64 f_p0_neighbours), (a_p0_neighbourCount, zI J 16 f_p0_neighbourCount)])) args s 0 0 A) cX0_nextOf 9 wsX0_nextOf RX0 D J A (some .int) (yX0_nextOf.name, []) 0 0 [(a_t, .inr (0, [.ref a_t_buckets, .ref a_t_grades, .ref a_t_heights, .ref a_t_drawn, .int (zi c_t_limit), .int (zi c_t_hungSet), .int (zi c_t_bucketSum), .int (zi c_t_gradeSum)])), (a_t_buckets, zI J 96 f_t_buckets), (a_t_grades, zI J 96 f_t_grades), (a_t_heights, zI J 16 f_t_heights), (a_t_drawn, zI J 16 f_t_drawn), (a_p0, .inr (2, [.ref a_p0_rowOf, .ref a_p0_columnOf, .ref a_p0_neighbours, .ref a_p0_neighbourCount, .int (zi c_p0_size)])), (a_p0_neighbours, zI J 64 f_p0_neighbours), (a_p0_neighbourCount, zI J 16 f_p0_neighbourCount)] [(2, .int (zi v5'))] 99 []) : ∀ (N : Nat) (v5 : Int) (v6 : Int) (v7 : Int) (v8 : Int), sh_X0_nextOf_L12 F c_t_limit c_t_hungSet f_t_buckets f_t_grades f_t_heights f_t_drawn c_p0_size f_p0_neighbours f_p0_neighbourCount k N v5 v6 v7 v8 = some res → Z p l e ({ frames := 3, cells := 0, slots := 0, locals := 69 } : Room) s m args below meth c (MQ below (zQ D J A (fun rv w9 => rv = some (.int (zi res)) ∧ w9 = [(a_t, .inr (0, [.ref a_t_buckets, .ref a_t_grades, .ref a_t_heights, .ref a_t_drawn, .int (zi c_t_limit), .int (zi c_t_hungSet), .int (zi c_t_bucketSum), .int (zi c_t_gradeSum)])), (a_t_buckets, zI J 96 f_t_buckets), (a_t_grades, zI J 96 f_t_grades), (a_t_heights, zI J 16 f_t_heights), (a_t_drawn, zI J 16 f_t_drawn), (a_p0, .inr (2, [.ref a_p0_rowOf, .ref a_p0_columnOf, .ref a_p0_neighbours, .ref a_p0_neighbourCount, .int (zi c_p0_size)])), (a_p0_neighbours, zI J 64 f_p0_neighbours), (a_p0_neighbourCount, zI J 16 f_p0_neighbourCount)])) args s 0 0 A) cX0_nextOf 9 wsX0_nextOf RX0 D J A (some .int) (yX0_nextOf.name, []) 0 0 [(a_t, .inr (0, [.ref a_t_buckets, .ref a_t_grades, .ref a_t_heights, .ref a_t_drawn, .int (zi c_t_limit), .int (zi c_t_hungSet), .int (zi c_t_bucketSum), .int (zi c_t_gradeSum)])), (a_t_buckets, zI J 96 f_t_buckets), (a_t_grades, zI J 96 f_t_grades), (a_t_heights, zI J 16 f_t_heights), (a_t_drawn, zI J 16 f_t_drawn), (a_p0, .inr (2, [.ref a_p0_rowOf, .ref a_p0_columnOf, .ref a_p0_neighbours, .ref a_p0_neighbourCount, .int (zi c_p0_size)])), (a_p0_neighbours, zI J 64 f_p0_neighbours), (a_p0_neighbourCount, zI J 16 f_p0_neighbourCount)] [(0, .ref a_t), (1, .ref a_p0), (2, .int (zi v5)), (3, .int (zi v6)), (4, .int (zi v7)), (5, .int (zi v8))] 12 [] := by
  intro N
  induction N with
  | zero =>
    intro v5 v6 v7 v8 hsh
    exact absurd hsh (by simp [sh_X0_nextOf_L12])
  | succ N ih =>
    intro v5 v6 v7 v8 hsh
    rw [sh_X0_nextOf_L12] at hsh
    refine z_iload (pc' := 14) 5 dX0_nextOf_12 rfl rfl ?_
    refine z_aload_n (pc' := 15) 1 dX0_nextOf_14 rfl rfl rfl ?_
    obtain ⟨q9, h10, hsh⟩ := zbind hsh
    refine z_callV (pc' := 18) (C := RX2) (As := []) (rest := [.int (zi v8)]) (wr := [(a_t, .inr (0, [.ref a_t_buckets, .ref a_t_grades, .ref a_t_heights, .ref a_t_drawn, .int (zi c_t_limit), .int (zi c_t_hungSet), .int (zi c_t_bucketSum), .int (zi c_t_gradeSum)])), (a_t_buckets, zI J 96 f_t_buckets), (a_t_grades, zI J 96 f_t_grades), (a_t_heights, zI J 16 f_t_heights), (a_t_drawn, zI J 16 f_t_drawn), (a_p0_neighbours, zI J 64 f_p0_neighbours), (a_p0_neighbourCount, zI J 16 f_p0_neighbourCount)]) 0 (zc_X2_size l D J F (a_t := a_p0) (a_t_rowOf := a_p0_rowOf) (a_t_columnOf := a_p0_columnOf) (a_t_neighbours := a_p0_neighbours) (a_t_neighbourCount := a_p0_neighbourCount) (c_t_size := c_p0_size)  q9 h10) dX0_nextOf_15 gX0_nextOf_X2_size rfl rfl rfl (by decide +kernel) ⟨Nat.le_of_ble_eq_true rfl, Nat.le_of_ble_eq_true rfl⟩ ⟨Nat.le_of_ble_eq_true rfl, Nat.le_of_ble_eq_true rfl⟩ (z_spl_of [5, 0, 1, 2, 3, 4, 6, 7] rfl rfl) rfl rfl rfl rfl (Nat.le_of_ble_eq_true rfl) rfl (fun rv w9 hq => ?_)
    obtain ⟨rfl, rfl⟩ := hq
    refine z_ws [(a_t, .inr (0, [.ref a_t_buckets, .ref a_t_grades, .ref a_t_heights, .ref a_t_drawn, .int (zi c_t_limit), .int (zi c_t_hungSet), .int (zi c_t_bucketSum), .int (zi c_t_gradeSum)])), (a_t_buckets, zI J 96 f_t_buckets), (a_t_grades, zI J 96 f_t_grades), (a_t_heights, zI J 16 f_t_heights), (a_t_drawn, zI J 16 f_t_drawn), (a_p0_neighbours, zI J 64 f_p0_neighbours), (a_p0_neighbourCount, zI J 16 f_p0_neighbourCount), (a_p0, .inr (2, [.ref a_p0_rowOf, .ref a_p0_columnOf, .ref a_p0_neighbours, .ref a_p0_neighbourCount, .int (zi c_p0_size)]))] rfl ?_
    have g11 := zkr_p hsh
    replace hsh := zkr_k hsh
    have g12 := zkr_p hsh
    replace hsh := zkr_k hsh
    refine z_icmp_ge (pc' := 21) (tgt := 99) dX0_nextOf_18 (by decide) g11 g12 rfl (fun q => ?_) (fun q => ?_)
    · replace hsh := zif_f q hsh
      refine z_perm [(a_t, .inr (0, [.ref a_t_buckets, .ref a_t_grades, .ref a_t_heights, .ref a_t_drawn, .int (zi c_t_limit), .int (zi c_t_hungSet), .int (zi c_t_bucketSum), .int (zi c_t_gradeSum)])), (a_t_buckets, zI J 96 f_t_buckets), (a_t_grades, zI J 96 f_t_grades), (a_t_heights, zI J 16 f_t_heights), (a_t_drawn, zI J 16 f_t_drawn), (a_p0, .inr (2, [.ref a_p0_rowOf, .ref a_p0_columnOf, .ref a_p0_neighbours, .ref a_p0_neighbourCount, .int (zi c_p0_size)])), (a_p0_neighbours, zI J 64 f_p0_neighbours), (a_p0_neighbourCount, zI J 16 f_p0_neighbourCount)] [(2, .int (zi v5))] [0, 1, 2, 3, 4, 7, 5, 6] [2] rfl rfl rfl ?_
      exact hk _ _ _ _ hsh
    · replace hsh := zif_t q hsh
      refine z_aload_n (pc' := 22) 0 dX0_nextOf_21 rfl rfl rfl ?_
      refine z_aload_n (pc' := 23) 1 dX0_nextOf_22 rfl rfl rfl ?_
      refine z_iload (pc' := 25) 5 dX0_nextOf_23 rfl rfl ?_
      obtain ⟨q13, h14, hsh⟩ := zbind hsh
      refine z_callV (pc' := 28) (C := RX0) (As := [.ref a_p0, .int (zi v8)]) (rest := []) (wr := [(a_t_grades, zI J 96 f_t_grades)]) 2 (zc_X0_slackOf l D J F (a_t := a_t) (a_p0 := a_p0) (a_t_buckets := a_t_buckets) (a_t_grades := a_t_grades) (a_t_heights := a_t_heights) (a_t_drawn := a_t_drawn) (a_p0_rowOf := a_p0_rowOf) (a_p0_columnOf := a_p0_columnOf) (a_p0_neighbours := a_p0_neighbours) (a_p0_neighbourCount := a_p0_neighbourCount) (c_t_limit := c_t_limit) (c_t_hungSet := c_t_hungSet) (c_t_bucketSum := c_t_bucketSum) (c_t_gradeSum := c_t_gradeSum) (f_t_buckets := f_t_buckets) (f_t_heights := f_t_heights) (f_t_drawn := f_t_drawn) (c_p0_size := c_p0_size) (f_p0_neighbours := f_p0_neighbours) (f_p0_neighbourCount := f_p0_neighbourCount) (p1 := v8)  q13 h14) dX0_nextOf_25 gX0_nextOf_X0_slackOf rfl rfl rfl (by decide +kernel) ⟨Nat.le_of_ble_eq_true rfl, Nat.le_of_ble_eq_true rfl⟩ ⟨Nat.le_of_ble_eq_true rfl, Nat.le_of_ble_eq_true rfl⟩ (z_spl_of [0, 1, 3, 4, 7, 5, 6, 2] rfl rfl) rfl rfl rfl rfl (Nat.le_of_ble_eq_true rfl) rfl (fun rv w9 hq => ?_)
      obtain ⟨rfl, rfl⟩ := hq
      refine z_ws [(a_t_grades, zI J 96 f_t_grades), (a_t, .inr (0, [.ref a_t_buckets, .ref a_t_grades, .ref a_t_heights, .ref a_t_drawn, .int (zi c_t_limit), .int (zi c_t_hungSet), .int (zi c_t_bucketSum), .int (zi c_t_gradeSum)])), (a_t_buckets, zI J 96 f_t_buckets), (a_t_heights, zI J 16 f_t_heights), (a_t_drawn, zI J 16 f_t_drawn), (a_p0, .inr (2, [.ref a_p0_rowOf, .ref a_p0_columnOf, .ref a_p0_neighbours, .ref a_p0_neighbourCount, .int (zi c_p0_size)])), (a_p0_neighbours, zI J 64 f_p0_neighbours), (a_p0_neighbourCount, zI J 16 f_p0_neighbourCount)] rfl ?_
      refine z_istore (pc' := 30) [(6, .int (zi q13)), (0, .ref a_t), (1, .ref a_p0), (2, .int (zi v5)), (3, .int (zi v6)), (4, .int (zi v7)), (5, .int (zi v8))] dX0_nextOf_28 (by decide) rfl rfl ?_
      refine z_aload_n (pc' := 31) 1 dX0_nextOf_30 rfl rfl rfl ?_
      refine z_iload (pc' := 33) 6 dX0_nextOf_31 rfl rfl ?_
      refine z_iconst (pc' := 34) dX0_nextOf_33 rfl ?_
      obtain ⟨q15, h16, hsh⟩ := zbind hsh
      refine z_callV (pc' := 37) (C := RX0) (As := [.int (zi v8), .int (zi (0 : Int))]) (rest := []) (wr := [(a_t_drawn, zI J 16 f_t_drawn), (a_p0, .inr (2, [.ref a_p0_rowOf, .ref a_p0_columnOf, .ref a_p0_neighbours, .ref a_p0_neighbourCount, .int (zi c_p0_size)])), (a_p0_neighbours, zI J 64 f_p0_neighbours), (a_p0_neighbourCount, zI J 16 f_p0_neighbourCount)]) 2 (zc_X0_gradeOf l D J F (a_t := a_t) (a_t_buckets := a_t_buckets) (a_t_grades := a_t_grades) (a_t_heights := a_t_heights) (a_t_drawn := a_t_drawn) (c_t_limit := c_t_limit) (c_t_hungSet := c_t_hungSet) (c_t_bucketSum := c_t_bucketSum) (c_t_gradeSum := c_t_gradeSum) (f_t_buckets := f_t_buckets) (f_t_grades := f_t_grades) (f_t_heights := f_t_heights) (p0 := v8) (p1 := (0 : Int))  q15 h16) dX0_nextOf_34 gX0_nextOf_X0_gradeOf rfl rfl rfl (by decide +kernel) ⟨Nat.le_of_ble_eq_true rfl, Nat.le_of_ble_eq_true rfl⟩ ⟨Nat.le_of_ble_eq_true rfl, Nat.le_of_ble_eq_true rfl⟩ (z_spl_of [1, 2, 0, 3, 4, 5, 6, 7] rfl rfl) rfl rfl rfl rfl (Nat.le_of_ble_eq_true rfl) rfl (fun rv w9 hq => ?_)
      obtain ⟨rfl, rfl⟩ := hq
      refine z_ws [(a_t_drawn, zI J 16 f_t_drawn), (a_p0, .inr (2, [.ref a_p0_rowOf, .ref a_p0_columnOf, .ref a_p0_neighbours, .ref a_p0_neighbourCount, .int (zi c_p0_size)])), (a_p0_neighbours, zI J 64 f_p0_neighbours), (a_p0_neighbourCount, zI J 16 f_p0_neighbourCount), (a_t, .inr (0, [.ref a_t_buckets, .ref a_t_grades, .ref a_t_heights, .ref a_t_drawn, .int (zi c_t_limit), .int (zi c_t_hungSet), .int (zi c_t_bucketSum), .int (zi c_t_gradeSum)])), (a_t_buckets, zI J 96 f_t_buckets), (a_t_grades, zI J 96 f_t_grades), (a_t_heights, zI J 16 f_t_heights)] rfl ?_
      refine z_istore (pc' := 39) [(7, .int (zi q15)), (6, .int (zi q13)), (0, .ref a_t), (1, .ref a_p0), (2, .int (zi v5)), (3, .int (zi v6)), (4, .int (zi v7)), (5, .int (zi v8))] dX0_nextOf_37 (by decide) rfl rfl ?_
      refine z_iload (pc' := 41) 1 dX0_nextOf_39 rfl rfl ?_
      refine z_iload_n (pc' := 42) 5 dX0_nextOf_41 rfl rfl rfl ?_
      have g17 := zkr_p hsh
      replace hsh := zkr_k hsh
      have g18 := zkr_p hsh
      replace hsh := zkr_k hsh
      refine z_icmp_ne (pc' := 45) (tgt := 60) dX0_nextOf_42 (by decide) g17 g18 rfl (fun q => ?_) (fun q => ?_)
      · replace hsh := zif_f q hsh
        refine z_iload (pc' := 62) 1 dX0_nextOf_60 rfl rfl ?_
        refine z_iload_n (pc' := 63) 5 dX0_nextOf_62 rfl rfl rfl ?_
        refine z_icmp_le (pc' := 66) (tgt := 70) dX0_nextOf_63 (by decide) g17 g18 rfl (fun q => ?_) (fun q => ?_)
        · replace hsh := zif_f q hsh
          refine z_iconst (pc' := 71) dX0_nextOf_70 rfl ?_
          refine z_istore (pc' := 73) [(8, .int (zi (0 : Int))), (7, .int (zi q15)), (6, .int (zi q13)), (0, .ref a_t), (1, .ref a_p0), (2, .int (zi v5)), (3, .int (zi v6)), (4, .int (zi v7)), (5, .int (zi v8))] dX0_nextOf_71 (by decide) rfl rfl ?_
          refine z_iload (pc' := 75) 2 dX0_nextOf_73 rfl rfl ?_
          refine z_if_le (pc' := 78) (tgt := 93) dX0_nextOf_75 (by decide) g17 rfl (fun q => ?_) (fun q => ?_)
          · replace hsh := zif_f q hsh
            refine z_iinc (pc' := 96) [(5, .int (zi (v8 + (1 : Int)))), (8, .int (zi (0 : Int))), (7, .int (zi q15)), (6, .int (zi q13)), (0, .ref a_t), (1, .ref a_p0), (2, .int (zi v5)), (3, .int (zi v6)), (4, .int (zi v7))] 8 dX0_nextOf_93 rfl (by decide) rfl rfl ?_
            refine z_goto (tgt := 12) dX0_nextOf_96 (by decide) ?_
            refine z_perm [(a_t, .inr (0, [.ref a_t_buckets, .ref a_t_grades, .ref a_t_heights, .ref a_t_drawn, .int (zi c_t_limit), .int (zi c_t_hungSet), .int (zi c_t_bucketSum), .int (zi c_t_gradeSum)])), (a_t_buckets, zI J 96 f_t_buckets), (a_t_grades, zI J 96 f_t_grades), (a_t_heights, zI J 16 f_t_heights), (a_t_drawn, zI J 16 f_t_drawn), (a_p0, .inr (2, [.ref a_p0_rowOf, .ref a_p0_columnOf, .ref a_p0_neighbours, .ref a_p0_neighbourCount, .int (zi c_p0_size)])), (a_p0_neighbours, zI J 64 f_p0_neighbours), (a_p0_neighbourCount, zI J 16 f_p0_neighbourCount)] [(0, .ref a_t), (1, .ref a_p0), (2, .int (zi v5)), (3, .int (zi v6)), (4, .int (zi v7)), (5, .int (zi (v8 + (1 : Int))))] [4, 5, 6, 7, 0, 1, 2, 3] [4, 5, 6, 7, 8, 0] rfl rfl rfl ?_
            exact ih _ _ _ _ hsh
          · replace hsh := zif_t q hsh
            refine z_iload (pc' := 80) 0 dX0_nextOf_78 rfl rfl ?_
            refine z_if_eq (pc' := 83) (tgt := 93) dX0_nextOf_80 (by decide) zr0 rfl (fun q => ?_) (fun q => ?_)
            · replace hsh := zif_t q hsh
              refine z_iinc (pc' := 96) [(5, .int (zi (v8 + (1 : Int)))), (8, .int (zi (0 : Int))), (7, .int (zi q15)), (6, .int (zi q13)), (0, .ref a_t), (1, .ref a_p0), (2, .int (zi v5)), (3, .int (zi v6)), (4, .int (zi v7))] 8 dX0_nextOf_93 rfl (by decide) rfl rfl ?_
              refine z_goto (tgt := 12) dX0_nextOf_96 (by decide) ?_
              refine z_perm [(a_t, .inr (0, [.ref a_t_buckets, .ref a_t_grades, .ref a_t_heights, .ref a_t_drawn, .int (zi c_t_limit), .int (zi c_t_hungSet), .int (zi c_t_bucketSum), .int (zi c_t_gradeSum)])), (a_t_buckets, zI J 96 f_t_buckets), (a_t_grades, zI J 96 f_t_grades), (a_t_heights, zI J 16 f_t_heights), (a_t_drawn, zI J 16 f_t_drawn), (a_p0, .inr (2, [.ref a_p0_rowOf, .ref a_p0_columnOf, .ref a_p0_neighbours, .ref a_p0_neighbourCount, .int (zi c_p0_size)])), (a_p0_neighbours, zI J 64 f_p0_neighbours), (a_p0_neighbourCount, zI J 16 f_p0_neighbourCount)] [(0, .ref a_t), (1, .ref a_p0), (2, .int (zi v5)), (3, .int (zi v6)), (4, .int (zi v7)), (5, .int (zi (v8 + (1 : Int))))] [4, 5, 6, 7, 0, 1, 2, 3] [4, 5, 6, 7, 8, 0] rfl rfl rfl ?_
              exact ih _ _ _ _ hsh
            · replace hsh := zif_f q hsh
              refine z_iload (pc' := 85) 8 dX0_nextOf_83 rfl rfl ?_
              refine z_istore_n (pc' := 86) [(2, .int (zi v8)), (8, .int (zi (0 : Int))), (7, .int (zi q15)), (6, .int (zi q13)), (0, .ref a_t), (1, .ref a_p0), (3, .int (zi v6)), (4, .int (zi v7)), (5, .int (zi v8))] dX0_nextOf_85 rfl (by decide) rfl rfl ?_
              refine z_iload (pc' := 88) 3 dX0_nextOf_86 rfl rfl ?_
              refine z_istore_n (pc' := 89) [(3, .int (zi q13)), (2, .int (zi v8)), (8, .int (zi (0 : Int))), (7, .int (zi q15)), (6, .int (zi q13)), (0, .ref a_t), (1, .ref a_p0), (4, .int (zi v7)), (5, .int (zi v8))] dX0_nextOf_88 rfl (by decide) rfl rfl ?_
              refine z_iload (pc' := 91) 3 dX0_nextOf_89 rfl rfl ?_
              refine z_istore (pc' := 93) [(4, .int (zi q15)), (3, .int (zi q13)), (2, .int (zi v8)), (8, .int (zi (0 : Int))), (7, .int (zi q15)), (6, .int (zi q13)), (0, .ref a_t), (1, .ref a_p0), (5, .int (zi v8))] dX0_nextOf_91 (by decide) rfl rfl ?_
              refine z_iinc (pc' := 96) [(5, .int (zi (v8 + (1 : Int)))), (4, .int (zi q15)), (3, .int (zi q13)), (2, .int (zi v8)), (8, .int (zi (0 : Int))), (7, .int (zi q15)), (6, .int (zi q13)), (0, .ref a_t), (1, .ref a_p0)] 8 dX0_nextOf_93 rfl (by decide) rfl rfl ?_
              refine z_goto (tgt := 12) dX0_nextOf_96 (by decide) ?_
              refine z_perm [(a_t, .inr (0, [.ref a_t_buckets, .ref a_t_grades, .ref a_t_heights, .ref a_t_drawn, .int (zi c_t_limit), .int (zi c_t_hungSet), .int (zi c_t_bucketSum), .int (zi c_t_gradeSum)])), (a_t_buckets, zI J 96 f_t_buckets), (a_t_grades, zI J 96 f_t_grades), (a_t_heights, zI J 16 f_t_heights), (a_t_drawn, zI J 16 f_t_drawn), (a_p0, .inr (2, [.ref a_p0_rowOf, .ref a_p0_columnOf, .ref a_p0_neighbours, .ref a_p0_neighbourCount, .int (zi c_p0_size)])), (a_p0_neighbours, zI J 64 f_p0_neighbours), (a_p0_neighbourCount, zI J 16 f_p0_neighbourCount)] [(0, .ref a_t), (1, .ref a_p0), (2, .int (zi v8)), (3, .int (zi q13)), (4, .int (zi q15)), (5, .int (zi (v8 + (1 : Int))))] [4, 5, 6, 7, 0, 1, 2, 3] [7, 8, 3, 2, 1, 0] rfl rfl rfl ?_
              exact ih _ _ _ _ hsh
        · replace hsh := zif_t q hsh
          refine z_iconst (pc' := 67) dX0_nextOf_66 rfl ?_
          refine z_goto (tgt := 71) dX0_nextOf_67 (by decide) ?_
          refine z_istore (pc' := 73) [(8, .int (zi (1 : Int))), (7, .int (zi q15)), (6, .int (zi q13)), (0, .ref a_t), (1, .ref a_p0), (2, .int (zi v5)), (3, .int (zi v6)), (4, .int (zi v7)), (5, .int (zi v8))] dX0_nextOf_71 (by decide) rfl rfl ?_
          refine z_iload (pc' := 75) 2 dX0_nextOf_73 rfl rfl ?_
          refine z_if_le (pc' := 78) (tgt := 93) dX0_nextOf_75 (by decide) g17 rfl (fun q => ?_) (fun q => ?_)
          · replace hsh := zif_f q hsh
            refine z_iinc (pc' := 96) [(5, .int (zi (v8 + (1 : Int)))), (8, .int (zi (1 : Int))), (7, .int (zi q15)), (6, .int (zi q13)), (0, .ref a_t), (1, .ref a_p0), (2, .int (zi v5)), (3, .int (zi v6)), (4, .int (zi v7))] 8 dX0_nextOf_93 rfl (by decide) rfl rfl ?_
            refine z_goto (tgt := 12) dX0_nextOf_96 (by decide) ?_
            refine z_perm [(a_t, .inr (0, [.ref a_t_buckets, .ref a_t_grades, .ref a_t_heights, .ref a_t_drawn, .int (zi c_t_limit), .int (zi c_t_hungSet), .int (zi c_t_bucketSum), .int (zi c_t_gradeSum)])), (a_t_buckets, zI J 96 f_t_buckets), (a_t_grades, zI J 96 f_t_grades), (a_t_heights, zI J 16 f_t_heights), (a_t_drawn, zI J 16 f_t_drawn), (a_p0, .inr (2, [.ref a_p0_rowOf, .ref a_p0_columnOf, .ref a_p0_neighbours, .ref a_p0_neighbourCount, .int (zi c_p0_size)])), (a_p0_neighbours, zI J 64 f_p0_neighbours), (a_p0_neighbourCount, zI J 16 f_p0_neighbourCount)] [(0, .ref a_t), (1, .ref a_p0), (2, .int (zi v5)), (3, .int (zi v6)), (4, .int (zi v7)), (5, .int (zi (v8 + (1 : Int))))] [4, 5, 6, 7, 0, 1, 2, 3] [4, 5, 6, 7, 8, 0] rfl rfl rfl ?_
            exact ih _ _ _ _ hsh
          · replace hsh := zif_t q hsh
            refine z_iload (pc' := 80) 0 dX0_nextOf_78 rfl rfl ?_
            refine z_if_eq (pc' := 83) (tgt := 93) dX0_nextOf_80 (by decide) (by decide) rfl (fun q => ?_) (fun q => ?_)
            · replace hsh := zif_t q hsh
              refine z_iinc (pc' := 96) [(5, .int (zi (v8 + (1 : Int)))), (8, .int (zi (1 : Int))), (7, .int (zi q15)), (6, .int (zi q13)), (0, .ref a_t), (1, .ref a_p0), (2, .int (zi v5)), (3, .int (zi v6)), (4, .int (zi v7))] 8 dX0_nextOf_93 rfl (by decide) rfl rfl ?_
              refine z_goto (tgt := 12) dX0_nextOf_96 (by decide) ?_
              refine z_perm [(a_t, .inr (0, [.ref a_t_buckets, .ref a_t_grades, .ref a_t_heights, .ref a_t_drawn, .int (zi c_t_limit), .int (zi c_t_hungSet), .int (zi c_t_bucketSum), .int (zi c_t_gradeSum)])), (a_t_buckets, zI J 96 f_t_buckets), (a_t_grades, zI J 96 f_t_grades), (a_t_heights, zI J 16 f_t_heights), (a_t_drawn, zI J 16 f_t_drawn), (a_p0, .inr (2, [.ref a_p0_rowOf, .ref a_p0_columnOf, .ref a_p0_neighbours, .ref a_p0_neighbourCount, .int (zi c_p0_size)])), (a_p0_neighbours, zI J 64 f_p0_neighbours), (a_p0_neighbourCount, zI J 16 f_p0_neighbourCount)] [(0, .ref a_t), (1, .ref a_p0), (2, .int (zi v5)), (3, .int (zi v6)), (4, .int (zi v7)), (5, .int (zi (v8 + (1 : Int))))] [4, 5, 6, 7, 0, 1, 2, 3] [4, 5, 6, 7, 8, 0] rfl rfl rfl ?_
              exact ih _ _ _ _ hsh
            · replace hsh := zif_f q hsh
              refine z_iload (pc' := 85) 8 dX0_nextOf_83 rfl rfl ?_
              refine z_istore_n (pc' := 86) [(2, .int (zi v8)), (8, .int (zi (1 : Int))), (7, .int (zi q15)), (6, .int (zi q13)), (0, .ref a_t), (1, .ref a_p0), (3, .int (zi v6)), (4, .int (zi v7)), (5, .int (zi v8))] dX0_nextOf_85 rfl (by decide) rfl rfl ?_
              refine z_iload (pc' := 88) 3 dX0_nextOf_86 rfl rfl ?_
              refine z_istore_n (pc' := 89) [(3, .int (zi q13)), (2, .int (zi v8)), (8, .int (zi (1 : Int))), (7, .int (zi q15)), (6, .int (zi q13)), (0, .ref a_t), (1, .ref a_p0), (4, .int (zi v7)), (5, .int (zi v8))] dX0_nextOf_88 rfl (by decide) rfl rfl ?_
              refine z_iload (pc' := 91) 3 dX0_nextOf_89 rfl rfl ?_
              refine z_istore (pc' := 93) [(4, .int (zi q15)), (3, .int (zi q13)), (2, .int (zi v8)), (8, .int (zi (1 : Int))), (7, .int (zi q15)), (6, .int (zi q13)), (0, .ref a_t), (1, .ref a_p0), (5, .int (zi v8))] dX0_nextOf_91 (by decide) rfl rfl ?_
              refine z_iinc (pc' := 96) [(5, .int (zi (v8 + (1 : Int)))), (4, .int (zi q15)), (3, .int (zi q13)), (2, .int (zi v8)), (8, .int (zi (1 : Int))), (7, .int (zi q15)), (6, .int (zi q13)), (0, .ref a_t), (1, .ref a_p0)] 8 dX0_nextOf_93 rfl (by decide) rfl rfl ?_
              refine z_goto (tgt := 12) dX0_nextOf_96 (by decide) ?_
              refine z_perm [(a_t, .inr (0, [.ref a_t_buckets, .ref a_t_grades, .ref a_t_heights, .ref a_t_drawn, .int (zi c_t_limit), .int (zi c_t_hungSet), .int (zi c_t_bucketSum), .int (zi c_t_gradeSum)])), (a_t_buckets, zI J 96 f_t_buckets), (a_t_grades, zI J 96 f_t_grades), (a_t_heights, zI J 16 f_t_heights), (a_t_drawn, zI J 16 f_t_drawn), (a_p0, .inr (2, [.ref a_p0_rowOf, .ref a_p0_columnOf, .ref a_p0_neighbours, .ref a_p0_neighbourCount, .int (zi c_p0_size)])), (a_p0_neighbours, zI J 64 f_p0_neighbours), (a_p0_neighbourCount, zI J 16 f_p0_neighbourCount)] [(0, .ref a_t), (1, .ref a_p0), (2, .int (zi v8)), (3, .int (zi q13)), (4, .int (zi q15)), (5, .int (zi (v8 + (1 : Int))))] [4, 5, 6, 7, 0, 1, 2, 3] [7, 8, 3, 2, 1, 0] rfl rfl rfl ?_
              exact ih _ _ _ _ hsh
      · replace hsh := zif_t q hsh
        refine z_iload (pc' := 47) 0 dX0_nextOf_45 rfl rfl ?_
        refine z_iload (pc' := 49) 6 dX0_nextOf_47 rfl rfl ?_
        have g19 := zkr_p hsh
        replace hsh := zkr_k hsh
        have g20 := zkr_p hsh
        replace hsh := zkr_k hsh
        refine z_icmp_le (pc' := 52) (tgt := 56) dX0_nextOf_49 (by decide) g19 g20 rfl (fun q => ?_) (fun q => ?_)
        · replace hsh := zif_f q hsh
          refine z_iconst (pc' := 57) dX0_nextOf_56 rfl ?_
          refine z_goto (tgt := 71) dX0_nextOf_57 (by decide) ?_
          refine z_istore (pc' := 73) [(8, .int (zi (0 : Int))), (7, .int (zi q15)), (6, .int (zi q13)), (0, .ref a_t), (1, .ref a_p0), (2, .int (zi v5)), (3, .int (zi v6)), (4, .int (zi v7)), (5, .int (zi v8))] dX0_nextOf_71 (by decide) rfl rfl ?_
          refine z_iload (pc' := 75) 2 dX0_nextOf_73 rfl rfl ?_
          refine z_if_le (pc' := 78) (tgt := 93) dX0_nextOf_75 (by decide) g17 rfl (fun q => ?_) (fun q => ?_)
          · replace hsh := zif_f q hsh
            refine z_iinc (pc' := 96) [(5, .int (zi (v8 + (1 : Int)))), (8, .int (zi (0 : Int))), (7, .int (zi q15)), (6, .int (zi q13)), (0, .ref a_t), (1, .ref a_p0), (2, .int (zi v5)), (3, .int (zi v6)), (4, .int (zi v7))] 8 dX0_nextOf_93 rfl (by decide) rfl rfl ?_
            refine z_goto (tgt := 12) dX0_nextOf_96 (by decide) ?_
            refine z_perm [(a_t, .inr (0, [.ref a_t_buckets, .ref a_t_grades, .ref a_t_heights, .ref a_t_drawn, .int (zi c_t_limit), .int (zi c_t_hungSet), .int (zi c_t_bucketSum), .int (zi c_t_gradeSum)])), (a_t_buckets, zI J 96 f_t_buckets), (a_t_grades, zI J 96 f_t_grades), (a_t_heights, zI J 16 f_t_heights), (a_t_drawn, zI J 16 f_t_drawn), (a_p0, .inr (2, [.ref a_p0_rowOf, .ref a_p0_columnOf, .ref a_p0_neighbours, .ref a_p0_neighbourCount, .int (zi c_p0_size)])), (a_p0_neighbours, zI J 64 f_p0_neighbours), (a_p0_neighbourCount, zI J 16 f_p0_neighbourCount)] [(0, .ref a_t), (1, .ref a_p0), (2, .int (zi v5)), (3, .int (zi v6)), (4, .int (zi v7)), (5, .int (zi (v8 + (1 : Int))))] [4, 5, 6, 7, 0, 1, 2, 3] [4, 5, 6, 7, 8, 0] rfl rfl rfl ?_
            exact ih _ _ _ _ hsh
          · replace hsh := zif_t q hsh
            refine z_iload (pc' := 80) 0 dX0_nextOf_78 rfl rfl ?_
            refine z_if_eq (pc' := 83) (tgt := 93) dX0_nextOf_80 (by decide) zr0 rfl (fun q => ?_) (fun q => ?_)
            · replace hsh := zif_t q hsh
              refine z_iinc (pc' := 96) [(5, .int (zi (v8 + (1 : Int)))), (8, .int (zi (0 : Int))), (7, .int (zi q15)), (6, .int (zi q13)), (0, .ref a_t), (1, .ref a_p0), (2, .int (zi v5)), (3, .int (zi v6)), (4, .int (zi v7))] 8 dX0_nextOf_93 rfl (by decide) rfl rfl ?_
              refine z_goto (tgt := 12) dX0_nextOf_96 (by decide) ?_
              refine z_perm [(a_t, .inr (0, [.ref a_t_buckets, .ref a_t_grades, .ref a_t_heights, .ref a_t_drawn, .int (zi c_t_limit), .int (zi c_t_hungSet), .int (zi c_t_bucketSum), .int (zi c_t_gradeSum)])), (a_t_buckets, zI J 96 f_t_buckets), (a_t_grades, zI J 96 f_t_grades), (a_t_heights, zI J 16 f_t_heights), (a_t_drawn, zI J 16 f_t_drawn), (a_p0, .inr (2, [.ref a_p0_rowOf, .ref a_p0_columnOf, .ref a_p0_neighbours, .ref a_p0_neighbourCount, .int (zi c_p0_size)])), (a_p0_neighbours, zI J 64 f_p0_neighbours), (a_p0_neighbourCount, zI J 16 f_p0_neighbourCount)] [(0, .ref a_t), (1, .ref a_p0), (2, .int (zi v5)), (3, .int (zi v6)), (4, .int (zi v7)), (5, .int (zi (v8 + (1 : Int))))] [4, 5, 6, 7, 0, 1, 2, 3] [4, 5, 6, 7, 8, 0] rfl rfl rfl ?_
              exact ih _ _ _ _ hsh
            · replace hsh := zif_f q hsh
              refine z_iload (pc' := 85) 8 dX0_nextOf_83 rfl rfl ?_
              refine z_istore_n (pc' := 86) [(2, .int (zi v8)), (8, .int (zi (0 : Int))), (7, .int (zi q15)), (6, .int (zi q13)), (0, .ref a_t), (1, .ref a_p0), (3, .int (zi v6)), (4, .int (zi v7)), (5, .int (zi v8))] dX0_nextOf_85 rfl (by decide) rfl rfl ?_
              refine z_iload (pc' := 88) 3 dX0_nextOf_86 rfl rfl ?_
              refine z_istore_n (pc' := 89) [(3, .int (zi q13)), (2, .int (zi v8)), (8, .int (zi (0 : Int))), (7, .int (zi q15)), (6, .int (zi q13)), (0, .ref a_t), (1, .ref a_p0), (4, .int (zi v7)), (5, .int (zi v8))] dX0_nextOf_88 rfl (by decide) rfl rfl ?_
              refine z_iload (pc' := 91) 3 dX0_nextOf_89 rfl rfl ?_
              refine z_istore (pc' := 93) [(4, .int (zi q15)), (3, .int (zi q13)), (2, .int (zi v8)), (8, .int (zi (0 : Int))), (7, .int (zi q15)), (6, .int (zi q13)), (0, .ref a_t), (1, .ref a_p0), (5, .int (zi v8))] dX0_nextOf_91 (by decide) rfl rfl ?_
              refine z_iinc (pc' := 96) [(5, .int (zi (v8 + (1 : Int)))), (4, .int (zi q15)), (3, .int (zi q13)), (2, .int (zi v8)), (8, .int (zi (0 : Int))), (7, .int (zi q15)), (6, .int (zi q13)), (0, .ref a_t), (1, .ref a_p0)] 8 dX0_nextOf_93 rfl (by decide) rfl rfl ?_
              refine z_goto (tgt := 12) dX0_nextOf_96 (by decide) ?_
              refine z_perm [(a_t, .inr (0, [.ref a_t_buckets, .ref a_t_grades, .ref a_t_heights, .ref a_t_drawn, .int (zi c_t_limit), .int (zi c_t_hungSet), .int (zi c_t_bucketSum), .int (zi c_t_gradeSum)])), (a_t_buckets, zI J 96 f_t_buckets), (a_t_grades, zI J 96 f_t_grades), (a_t_heights, zI J 16 f_t_heights), (a_t_drawn, zI J 16 f_t_drawn), (a_p0, .inr (2, [.ref a_p0_rowOf, .ref a_p0_columnOf, .ref a_p0_neighbours, .ref a_p0_neighbourCount, .int (zi c_p0_size)])), (a_p0_neighbours, zI J 64 f_p0_neighbours), (a_p0_neighbourCount, zI J 16 f_p0_neighbourCount)] [(0, .ref a_t), (1, .ref a_p0), (2, .int (zi v8)), (3, .int (zi q13)), (4, .int (zi q15)), (5, .int (zi (v8 + (1 : Int))))] [4, 5, 6, 7, 0, 1, 2, 3] [7, 8, 3, 2, 1, 0] rfl rfl rfl ?_
              exact ih _ _ _ _ hsh
        · replace hsh := zif_t q hsh
          refine z_iconst (pc' := 53) dX0_nextOf_52 rfl ?_
          refine z_goto (tgt := 71) dX0_nextOf_53 (by decide) ?_
          refine z_istore (pc' := 73) [(8, .int (zi (1 : Int))), (7, .int (zi q15)), (6, .int (zi q13)), (0, .ref a_t), (1, .ref a_p0), (2, .int (zi v5)), (3, .int (zi v6)), (4, .int (zi v7)), (5, .int (zi v8))] dX0_nextOf_71 (by decide) rfl rfl ?_
          refine z_iload (pc' := 75) 2 dX0_nextOf_73 rfl rfl ?_
          refine z_if_le (pc' := 78) (tgt := 93) dX0_nextOf_75 (by decide) g17 rfl (fun q => ?_) (fun q => ?_)
          · replace hsh := zif_f q hsh
            refine z_iinc (pc' := 96) [(5, .int (zi (v8 + (1 : Int)))), (8, .int (zi (1 : Int))), (7, .int (zi q15)), (6, .int (zi q13)), (0, .ref a_t), (1, .ref a_p0), (2, .int (zi v5)), (3, .int (zi v6)), (4, .int (zi v7))] 8 dX0_nextOf_93 rfl (by decide) rfl rfl ?_
            refine z_goto (tgt := 12) dX0_nextOf_96 (by decide) ?_
            refine z_perm [(a_t, .inr (0, [.ref a_t_buckets, .ref a_t_grades, .ref a_t_heights, .ref a_t_drawn, .int (zi c_t_limit), .int (zi c_t_hungSet), .int (zi c_t_bucketSum), .int (zi c_t_gradeSum)])), (a_t_buckets, zI J 96 f_t_buckets), (a_t_grades, zI J 96 f_t_grades), (a_t_heights, zI J 16 f_t_heights), (a_t_drawn, zI J 16 f_t_drawn), (a_p0, .inr (2, [.ref a_p0_rowOf, .ref a_p0_columnOf, .ref a_p0_neighbours, .ref a_p0_neighbourCount, .int (zi c_p0_size)])), (a_p0_neighbours, zI J 64 f_p0_neighbours), (a_p0_neighbourCount, zI J 16 f_p0_neighbourCount)] [(0, .ref a_t), (1, .ref a_p0), (2, .int (zi v5)), (3, .int (zi v6)), (4, .int (zi v7)), (5, .int (zi (v8 + (1 : Int))))] [4, 5, 6, 7, 0, 1, 2, 3] [4, 5, 6, 7, 8, 0] rfl rfl rfl ?_
            exact ih _ _ _ _ hsh
          · replace hsh := zif_t q hsh
            refine z_iload (pc' := 80) 0 dX0_nextOf_78 rfl rfl ?_
            refine z_if_eq (pc' := 83) (tgt := 93) dX0_nextOf_80 (by decide) (by decide) rfl (fun q => ?_) (fun q => ?_)
            · replace hsh := zif_t q hsh
              refine z_iinc (pc' := 96) [(5, .int (zi (v8 + (1 : Int)))), (8, .int (zi (1 : Int))), (7, .int (zi q15)), (6, .int (zi q13)), (0, .ref a_t), (1, .ref a_p0), (2, .int (zi v5)), (3, .int (zi v6)), (4, .int (zi v7))] 8 dX0_nextOf_93 rfl (by decide) rfl rfl ?_
              refine z_goto (tgt := 12) dX0_nextOf_96 (by decide) ?_
              refine z_perm [(a_t, .inr (0, [.ref a_t_buckets, .ref a_t_grades, .ref a_t_heights, .ref a_t_drawn, .int (zi c_t_limit), .int (zi c_t_hungSet), .int (zi c_t_bucketSum), .int (zi c_t_gradeSum)])), (a_t_buckets, zI J 96 f_t_buckets), (a_t_grades, zI J 96 f_t_grades), (a_t_heights, zI J 16 f_t_heights), (a_t_drawn, zI J 16 f_t_drawn), (a_p0, .inr (2, [.ref a_p0_rowOf, .ref a_p0_columnOf, .ref a_p0_neighbours, .ref a_p0_neighbourCount, .int (zi c_p0_size)])), (a_p0_neighbours, zI J 64 f_p0_neighbours), (a_p0_neighbourCount, zI J 16 f_p0_neighbourCount)] [(0, .ref a_t), (1, .ref a_p0), (2, .int (zi v5)), (3, .int (zi v6)), (4, .int (zi v7)), (5, .int (zi (v8 + (1 : Int))))] [4, 5, 6, 7, 0, 1, 2, 3] [4, 5, 6, 7, 8, 0] rfl rfl rfl ?_
              exact ih _ _ _ _ hsh
            · replace hsh := zif_f q hsh
              refine z_iload (pc' := 85) 8 dX0_nextOf_83 rfl rfl ?_
              refine z_istore_n (pc' := 86) [(2, .int (zi v8)), (8, .int (zi (1 : Int))), (7, .int (zi q15)), (6, .int (zi q13)), (0, .ref a_t), (1, .ref a_p0), (3, .int (zi v6)), (4, .int (zi v7)), (5, .int (zi v8))] dX0_nextOf_85 rfl (by decide) rfl rfl ?_
              refine z_iload (pc' := 88) 3 dX0_nextOf_86 rfl rfl ?_
              refine z_istore_n (pc' := 89) [(3, .int (zi q13)), (2, .int (zi v8)), (8, .int (zi (1 : Int))), (7, .int (zi q15)), (6, .int (zi q13)), (0, .ref a_t), (1, .ref a_p0), (4, .int (zi v7)), (5, .int (zi v8))] dX0_nextOf_88 rfl (by decide) rfl rfl ?_
              refine z_iload (pc' := 91) 3 dX0_nextOf_89 rfl rfl ?_
              refine z_istore (pc' := 93) [(4, .int (zi q15)), (3, .int (zi q13)), (2, .int (zi v8)), (8, .int (zi (1 : Int))), (7, .int (zi q15)), (6, .int (zi q13)), (0, .ref a_t), (1, .ref a_p0), (5, .int (zi v8))] dX0_nextOf_91 (by decide) rfl rfl ?_
              refine z_iinc (pc' := 96) [(5, .int (zi (v8 + (1 : Int)))), (4, .int (zi q15)), (3, .int (zi q13)), (2, .int (zi v8)), (8, .int (zi (1 : Int))), (7, .int (zi q15)), (6, .int (zi q13)), (0, .ref a_t), (1, .ref a_p0)] 8 dX0_nextOf_93 rfl (by decide) rfl rfl ?_
              refine z_goto (tgt := 12) dX0_nextOf_96 (by decide) ?_
              refine z_perm [(a_t, .inr (0, [.ref a_t_buckets, .ref a_t_grades, .ref a_t_heights, .ref a_t_drawn, .int (zi c_t_limit), .int (zi c_t_hungSet), .int (zi c_t_bucketSum), .int (zi c_t_gradeSum)])), (a_t_buckets, zI J 96 f_t_buckets), (a_t_grades, zI J 96 f_t_grades), (a_t_heights, zI J 16 f_t_heights), (a_t_drawn, zI J 16 f_t_drawn), (a_p0, .inr (2, [.ref a_p0_rowOf, .ref a_p0_columnOf, .ref a_p0_neighbours, .ref a_p0_neighbourCount, .int (zi c_p0_size)])), (a_p0_neighbours, zI J 64 f_p0_neighbours), (a_p0_neighbourCount, zI J 16 f_p0_neighbourCount)] [(0, .ref a_t), (1, .ref a_p0), (2, .int (zi v8)), (3, .int (zi q13)), (4, .int (zi q15)), (5, .int (zi (v8 + (1 : Int))))] [4, 5, 6, 7, 0, 1, 2, 3] [7, 8, 3, 2, 1, 0] rfl rfl rfl ?_
              exact ih _ _ _ _ hsh
set_option maxRecDepth 100000 in
set_option maxHeartbeats 4000000 in
theorem zc_X0_nextOf (l : Launch) (D : va_G) (J : Nat → ClassId) (F : Nat) (a_t : Nat) (a_p0 : Nat) (a_t_buckets : Nat) (a_t_grades : Nat) (a_t_heights : Nat) (a_t_drawn : Nat) (a_p0_rowOf : Nat) (a_p0_columnOf : Nat) (a_p0_neighbours : Nat) (a_p0_neighbourCount : Nat) (c_t_limit : Int) (c_t_hungSet : Int) (c_t_bucketSum : Int) (c_t_gradeSum : Int) (f_t_buckets : Nat → Int) (f_t_grades : Nat → Int) (f_t_heights : Nat → Int) (f_t_drawn : Nat → Int) (c_p0_size : Int) (f_p0_neighbours : Nat → Int) (f_p0_neighbourCount : Nat → Int) (res : Int) (hsh : sh_X0_nextOf F c_t_limit c_t_hungSet f_t_buckets f_t_grades f_t_heights f_t_drawn c_p0_size f_p0_neighbours f_p0_neighbourCount = some res) : ZM l D J yX0_nextOf wsX0_nextOf ({ frames := 3, cells := 0, slots := 0, locals := 69 } : Room) 0 0 [.ref a_t, .ref a_p0] [(a_t, .inr (0, [.ref a_t_buckets, .ref a_t_grades, .ref a_t_heights, .ref a_t_drawn, .int (zi c_t_limit), .int (zi c_t_hungSet), .int (zi c_t_bucketSum), .int (zi c_t_gradeSum)])), (a_t_buckets, zI J 96 f_t_buckets), (a_t_grades, zI J 96 f_t_grades), (a_t_heights, zI J 16 f_t_heights), (a_t_drawn, zI J 16 f_t_drawn), (a_p0, .inr (2, [.ref a_p0_rowOf, .ref a_p0_columnOf, .ref a_p0_neighbours, .ref a_p0_neighbourCount, .int (zi c_p0_size)])), (a_p0_neighbours, zI J 64 f_p0_neighbours), (a_p0_neighbourCount, zI J 16 f_p0_neighbourCount)] (fun rv w9 => rv = some (.int (zi res)) ∧ w9 = [(a_t, .inr (0, [.ref a_t_buckets, .ref a_t_grades, .ref a_t_heights, .ref a_t_drawn, .int (zi c_t_limit), .int (zi c_t_hungSet), .int (zi c_t_bucketSum), .int (zi c_t_gradeSum)])), (a_t_buckets, zI J 96 f_t_buckets), (a_t_grades, zI J 96 f_t_grades), (a_t_heights, zI J 16 f_t_heights), (a_t_drawn, zI J 16 f_t_drawn), (a_p0, .inr (2, [.ref a_p0_rowOf, .ref a_p0_columnOf, .ref a_p0_neighbours, .ref a_p0_neighbourCount, .int (zi c_p0_size)])), (a_p0_neighbours, zI J 64 f_p0_neighbours), (a_p0_neighbourCount, zI J 16 f_p0_neighbourCount)]) := by
  refine z_ofZ (cc := cX0_nextOf) (maxL := 9) (ret := (some .int)) 0 0 (by decide) rfl (Nat.le_of_ble_eq_true rfl) [(0, .ref a_t), (1, .ref a_p0)] rfl ?_
  intro p e s m args below meth c A
  unfold sh_X0_nextOf at hsh
  refine z_bipush (pc' := 2) dX0_nextOf_0 (by decide) rfl ?_
  refine z_istore_n (pc' := 3) [(2, .int (zi (-9 : Int))), (0, .ref a_t), (1, .ref a_p0)] dX0_nextOf_2 rfl (by decide) rfl rfl ?_
  refine z_iconst (pc' := 4) dX0_nextOf_3 rfl ?_
  refine z_istore_n (pc' := 5) [(3, .int (zi (0 : Int))), (2, .int (zi (-9 : Int))), (0, .ref a_t), (1, .ref a_p0)] dX0_nextOf_4 rfl (by decide) rfl rfl ?_
  refine z_bipush (pc' := 7) dX0_nextOf_5 (by decide) rfl ?_
  refine z_istore (pc' := 9) [(4, .int (zi (-9 : Int))), (3, .int (zi (0 : Int))), (2, .int (zi (-9 : Int))), (0, .ref a_t), (1, .ref a_p0)] dX0_nextOf_7 (by decide) rfl rfl ?_
  refine z_iconst (pc' := 10) dX0_nextOf_9 rfl ?_
  refine z_istore (pc' := 12) [(5, .int (zi (0 : Int))), (4, .int (zi (-9 : Int))), (3, .int (zi (0 : Int))), (2, .int (zi (-9 : Int))), (0, .ref a_t), (1, .ref a_p0)] dX0_nextOf_10 (by decide) rfl rfl ?_
  refine z_perm [(a_t, .inr (0, [.ref a_t_buckets, .ref a_t_grades, .ref a_t_heights, .ref a_t_drawn, .int (zi c_t_limit), .int (zi c_t_hungSet), .int (zi c_t_bucketSum), .int (zi c_t_gradeSum)])), (a_t_buckets, zI J 96 f_t_buckets), (a_t_grades, zI J 96 f_t_grades), (a_t_heights, zI J 16 f_t_heights), (a_t_drawn, zI J 16 f_t_drawn), (a_p0, .inr (2, [.ref a_p0_rowOf, .ref a_p0_columnOf, .ref a_p0_neighbours, .ref a_p0_neighbourCount, .int (zi c_p0_size)])), (a_p0_neighbours, zI J 64 f_p0_neighbours), (a_p0_neighbourCount, zI J 16 f_p0_neighbourCount)] [(0, .ref a_t), (1, .ref a_p0), (2, .int (zi (-9 : Int))), (3, .int (zi (0 : Int))), (4, .int (zi (-9 : Int))), (5, .int (zi (0 : Int)))] [0, 1, 2, 3, 4, 5, 6, 7] [4, 5, 3, 2, 1, 0] rfl rfl rfl ?_
  refine zl_X0_nextOf_L12 (F := F) (hk := fun v21 v22 v23 v24 hsh => ?_) _ _ _ _ _ hsh
  refine z_iload_n (pc' := 100) 0 dX0_nextOf_99 rfl rfl rfl ?_
  cases hsh
  exact z_iret rfl dX0_nextOf_100 ⟨rfl, rfl⟩
def sh_X0_takeByOrder_L2 (F : Nat) (p1 : Int) (c_t_limit : Int) (c_t_hungSet : Int) (c_p0_size : Int) (f_p0_neighbours : Nat → Int) (f_p0_neighbourCount : Nat → Int) (k : Int → Int → Int → (Nat → Int) → (Nat → Int) → (Nat → Int) → (Nat → Int) → Option (Int × Int × Int × (Nat → Int) × (Nat → Int) × (Nat → Int) × (Nat → Int))) : Nat → Int → Int → Int → (Nat → Int) → (Nat → Int) → (Nat → Int) → (Nat → Int) → Option (Int × Int × Int × (Nat → Int) × (Nat → Int) × (Nat → Int) × (Nat → Int))
  | 0, _, _, _, _, _, _, _ => none
  | N + 1, v9, v10, v11, v12, v13, v14, v15 => zkr v9 (zkr p1 (if v9 < p1 then (sh_X0_nextOf F c_t_limit c_t_hungSet v12 v13 v14 v15 c_p0_size f_p0_neighbours f_p0_neighbourCount).bind (fun (q18 : Int) => zkr q18 (if q18 = (-9 : Int) then some (v9, v10, v11, v12, v13, v14, v15) else (sh_X0_take F v10 v11 v12 v13 v14 v15 q18).bind (fun (q21 : Int × Int × Int × (Nat → Int) × (Nat → Int) × (Nat → Int) × (Nat → Int)) => sh_X0_takeByOrder_L2 F p1 c_t_limit c_t_hungSet c_p0_size f_p0_neighbours f_p0_neighbourCount k N (v9 + (1 : Int)) q21.2.1 q21.2.2.1 q21.2.2.2.1 q21.2.2.2.2.1 q21.2.2.2.2.2.1 q21.2.2.2.2.2.2))) else k v9 v10 v11 v12 v13 v14 v15))
def sh_X0_takeByOrder (F : Nat) (c_t_limit : Int) (c_t_hungSet : Int) (c_t_bucketSum : Int) (c_t_gradeSum : Int) (f_t_buckets : Nat → Int) (f_t_grades : Nat → Int) (f_t_heights : Nat → Int) (f_t_drawn : Nat → Int) (c_p0_size : Int) (f_p0_neighbours : Nat → Int) (f_p0_neighbourCount : Nat → Int) (p1 : Int) : Option (Int × Int × Int × (Nat → Int) × (Nat → Int) × (Nat → Int) × (Nat → Int)) := sh_X0_takeByOrder_L2 F p1 c_t_limit c_t_hungSet c_p0_size f_p0_neighbours f_p0_neighbourCount (fun (v23 : Int) (v24 : Int) (v25 : Int) (v26 : (Nat → Int)) (v27 : (Nat → Int)) (v28 : (Nat → Int)) (v29 : (Nat → Int)) => some (p1, v24, v25, v26, v27, v28, v29)) F (0 : Int) c_t_bucketSum c_t_gradeSum f_t_buckets f_t_grades f_t_heights f_t_drawn
set_option maxRecDepth 100000 in
set_option maxHeartbeats 4000000 in
theorem zl_X0_takeByOrder_L2 {p : Program} {l : Launch} {e : Env} {s : State} {m : MethodId} {args : Array Value} {below : List Frame} {meth : Method} {c : Code} {A : Nat → Prop} {D : va_G} {J : Nat → ClassId} {F : Nat} {p1 : Int} {c_t_limit : Int} {c_t_hungSet : Int} {c_p0_size : Int} {f_p0_neighbours : Nat → Int} {f_p0_neighbourCount : Nat → Int} {a_t : Nat} {a_t_buckets : Nat} {a_t_grades : Nat} {a_t_heights : Nat} {a_t_drawn : Nat} {a_p0 : Nat} {a_p0_rowOf : Nat} {a_p0_columnOf : Nat} {a_p0_neighbours : Nat} {a_p0_neighbourCount : Nat} {res : Int × Int × Int × (Nat → Int) × (Nat → Int) × (Nat → Int) × (Nat → Int)} {k : Int → Int → Int → (Nat → Int) → (Nat → Int) → (Nat → Int) → (Nat → Int) → Option (Int × Int × Int × (Nat → Int) × (Nat → Int) × (Nat → Int) × (Nat → Int))} (hk : ∀ (v9' : Int) (v10' : Int) (v11' : Int) (v12' : (Nat → Int)) (v13' : (Nat → Int)) (v14' : (Nat → Int)) (v15' : (Nat → Int)), k v9' v10' v11' v12' v13' v14' v15' = some res → Z p l e ({ frames := 4, cells := 0, slots := 0, locals := 109 } : Room) s m args below meth c (MQ below (zQ D J A (fun rv w9 => rv = some (.int (zi res.1)) ∧ w9 = [(a_t, .inr (0, [.ref a_t_buckets, .ref a_t_grades, .ref a_t_heights, .ref a_t_drawn, .int (zi c_t_limit), .int (zi c_t_hungSet), .int (zi res.2.1), .int (zi res.2.2.1)])), (a_t_buckets, zI J 96 res.2.2.2.1), (a_t_grades, zI J 96 res.2.2.2.2.1), (a_t_heights, zI J 16 res.2.2.2.2.2.1), (a_t_drawn, zI J 16 res.2.2.2.2.2.2), (a_p0, .inr (2, [.ref a_p0_rowOf, .ref a_p0_columnOf, .ref a_p0_neighbours, .ref a_p0_neighbourCount, .int (zi c_p0_size)])), (a_p0_neighbours, zI J 64 f_p0_neighbours), (a_p0_neighbourCount, zI J 16 f_p0_neighbourCount)])) args s 0 0 A) cX0_takeByOrder 5 wsX0_takeByOrder RX0 D J A (some .int) (yX0_takeByOrder.name, []) 0 0 [(a_t, .inr (0, [.ref a_t_buckets, .ref a_t_grades, .ref a_t_heights, .ref a_t_drawn, .int (zi c_t_limit), .int (zi c_t_hungSet), .int (zi v10'), .int (zi v11')])), (a_t_buckets, zI J 96 v12'), (a_t_grades, zI J 96 v13'), (a_t_heights, zI J 16 v14'), (a_t_drawn, zI J 16 v15'), (a_p0, .inr (2, [.ref a_p0_rowOf, .ref a_p0_columnOf, .ref a_p0_neighbours, .ref a_p0_neighbourCount, .int (zi c_p0_size)])), (a_p0_neighbours, zI J 64 f_p0_neighbours), (a_p0_neighbourCount, zI J 16 f_p0_neighbourCount)] [(2, .int (zi p1))] 36 []) : ∀ (N : Nat) (v9 : Int) (v10 : Int) (v11 : Int) (v12 : (Nat → Int)) (v13 : (Nat → Int)) (v14 : (Nat → Int)) (v15 : (Nat → Int)), sh_X0_takeByOrder_L2 F p1 c_t_limit c_t_hungSet c_p0_size f_p0_neighbours f_p0_neighbourCount k N v9 v10 v11 v12 v13 v14 v15 = some res → Z p l e ({ frames := 4, cells := 0, slots := 0, locals := 109 } : Room) s m args below meth c (MQ below (zQ D J A (fun rv w9 => rv = some (.int (zi res.1)) ∧ w9 = [(a_t, .inr (0, [.ref a_t_buckets, .ref a_t_grades, .ref a_t_heights, .ref a_t_drawn, .int (zi c_t_limit), .int (zi c_t_hungSet), .int (zi res.2.1), .int (zi res.2.2.1)])), (a_t_buckets, zI J 96 res.2.2.2.1), (a_t_grades, zI J 96 res.2.2.2.2.1), (a_t_heights, zI J 16 res.2.2.2.2.2.1), (a_t_drawn, zI J 16 res.2.2.2.2.2.2), (a_p0, .inr (2, [.ref a_p0_rowOf, .ref a_p0_columnOf, .ref a_p0_neighbours, .ref a_p0_neighbourCount, .int (zi c_p0_size)])), (a_p0_neighbours, zI J 64 f_p0_neighbours), (a_p0_neighbourCount, zI J 16 f_p0_neighbourCount)])) args s 0 0 A) cX0_takeByOrder 5 wsX0_takeByOrder RX0 D J A (some .int) (yX0_takeByOrder.name, []) 0 0 [(a_t, .inr (0, [.ref a_t_buckets, .ref a_t_grades, .ref a_t_heights, .ref a_t_drawn, .int (zi c_t_limit), .int (zi c_t_hungSet), .int (zi v10), .int (zi v11)])), (a_t_buckets, zI J 96 v12), (a_t_grades, zI J 96 v13), (a_t_heights, zI J 16 v14), (a_t_drawn, zI J 16 v15), (a_p0, .inr (2, [.ref a_p0_rowOf, .ref a_p0_columnOf, .ref a_p0_neighbours, .ref a_p0_neighbourCount, .int (zi c_p0_size)])), (a_p0_neighbours, zI J 64 f_p0_neighbours), (a_p0_neighbourCount, zI J 16 f_p0_neighbourCount)] [(0, .ref a_t), (1, .ref a_p0), (2, .int (zi p1)), (3, .int (zi v9))] 2 [] := by
  intro N
  induction N with
  | zero =>
    intro v9 v10 v11 v12 v13 v14 v15 hsh
    exact absurd hsh (by simp [sh_X0_takeByOrder_L2])
  | succ N ih =>
    intro v9 v10 v11 v12 v13 v14 v15 hsh
    rw [sh_X0_takeByOrder_L2] at hsh
    refine z_iload_n (pc' := 3) 3 dX0_takeByOrder_2 rfl rfl rfl ?_
    refine z_iload_n (pc' := 4) 2 dX0_takeByOrder_3 rfl rfl rfl ?_
    have g16 := zkr_p hsh
    replace hsh := zkr_k hsh
    have g17 := zkr_p hsh
    replace hsh := zkr_k hsh
    refine z_icmp_ge (pc' := 7) (tgt := 36) dX0_takeByOrder_4 (by decide) g16 g17 rfl (fun q => ?_) (fun q => ?_)
    · replace hsh := zif_f q hsh
      refine z_perm [(a_t, .inr (0, [.ref a_t_buckets, .ref a_t_grades, .ref a_t_heights, .ref a_t_drawn, .int (zi c_t_limit), .int (zi c_t_hungSet), .int (zi v10), .int (zi v11)])), (a_t_buckets, zI J 96 v12), (a_t_grades, zI J 96 v13), (a_t_heights, zI J 16 v14), (a_t_drawn, zI J 16 v15), (a_p0, .inr (2, [.ref a_p0_rowOf, .ref a_p0_columnOf, .ref a_p0_neighbours, .ref a_p0_neighbourCount, .int (zi c_p0_size)])), (a_p0_neighbours, zI J 64 f_p0_neighbours), (a_p0_neighbourCount, zI J 16 f_p0_neighbourCount)] [(2, .int (zi p1))] [0, 1, 2, 3, 4, 5, 6, 7] [2] rfl rfl rfl ?_
      exact hk _ _ _ _ _ _ _ hsh
    · replace hsh := zif_t q hsh
      refine z_aload_n (pc' := 8) 0 dX0_takeByOrder_7 rfl rfl rfl ?_
      refine z_aload_n (pc' := 9) 1 dX0_takeByOrder_8 rfl rfl rfl ?_
      obtain ⟨q18, h19, hsh⟩ := zbind hsh
      refine z_callV (pc' := 12) (C := RX0) (As := [.ref a_p0]) (rest := []) (wr := []) 1 (zc_X0_nextOf l D J F (a_t := a_t) (a_p0 := a_p0) (a_t_buckets := a_t_buckets) (a_t_grades := a_t_grades) (a_t_heights := a_t_heights) (a_t_drawn := a_t_drawn) (a_p0_rowOf := a_p0_rowOf) (a_p0_columnOf := a_p0_columnOf) (a_p0_neighbours := a_p0_neighbours) (a_p0_neighbourCount := a_p0_neighbourCount) (c_t_limit := c_t_limit) (c_t_hungSet := c_t_hungSet) (c_t_bucketSum := v10) (c_t_gradeSum := v11) (f_t_buckets := v12) (f_t_grades := v13) (f_t_heights := v14) (f_t_drawn := v15) (c_p0_size := c_p0_size) (f_p0_neighbours := f_p0_neighbours) (f_p0_neighbourCount := f_p0_neighbourCount)  q18 h19) dX0_takeByOrder_9 gX0_takeByOrder_X0_nextOf rfl rfl rfl (by decide +kernel) ⟨Nat.le_of_ble_eq_true rfl, Nat.le_of_ble_eq_true rfl⟩ ⟨Nat.le_of_ble_eq_true rfl, Nat.le_of_ble_eq_true rfl⟩ (z_spl_of [0, 1, 2, 3, 4, 5, 6, 7] rfl rfl) rfl rfl rfl rfl (Nat.le_of_ble_eq_true rfl) rfl (fun rv w9 hq => ?_)
      obtain ⟨rfl, rfl⟩ := hq
      refine z_ws [(a_t, .inr (0, [.ref a_t_buckets, .ref a_t_grades, .ref a_t_heights, .ref a_t_drawn, .int (zi c_t_limit), .int (zi c_t_hungSet), .int (zi v10), .int (zi v11)])), (a_t_buckets, zI J 96 v12), (a_t_grades, zI J 96 v13), (a_t_heights, zI J 16 v14), (a_t_drawn, zI J 16 v15), (a_p0, .inr (2, [.ref a_p0_rowOf, .ref a_p0_columnOf, .ref a_p0_neighbours, .ref a_p0_neighbourCount, .int (zi c_p0_size)])), (a_p0_neighbours, zI J 64 f_p0_neighbours), (a_p0_neighbourCount, zI J 16 f_p0_neighbourCount)] rfl ?_
      refine z_istore (pc' := 14) [(4, .int (zi q18)), (0, .ref a_t), (1, .ref a_p0), (2, .int (zi p1)), (3, .int (zi v9))] dX0_takeByOrder_12 (by decide) rfl rfl ?_
      refine z_iload (pc' := 16) 0 dX0_takeByOrder_14 rfl rfl ?_
      refine z_bipush (pc' := 18) dX0_takeByOrder_16 (by decide) rfl ?_
      have g20 := zkr_p hsh
      replace hsh := zkr_k hsh
      refine z_icmp_ne (pc' := 21) (tgt := 23) dX0_takeByOrder_18 (by decide) g20 (by decide) rfl (fun q => ?_) (fun q => ?_)
      · replace hsh := zif_f q hsh
        refine z_aload_n (pc' := 24) 1 dX0_takeByOrder_23 rfl rfl rfl ?_
        refine z_iload (pc' := 26) 0 dX0_takeByOrder_24 rfl rfl ?_
        obtain ⟨q21, h22, hsh⟩ := zbind hsh
        refine z_callV (pc' := 29) (C := RX0) (As := [.int (zi q18)]) (rest := []) (wr := [(a_p0, .inr (2, [.ref a_p0_rowOf, .ref a_p0_columnOf, .ref a_p0_neighbours, .ref a_p0_neighbourCount, .int (zi c_p0_size)])), (a_p0_neighbours, zI J 64 f_p0_neighbours), (a_p0_neighbourCount, zI J 16 f_p0_neighbourCount)]) 1 (zc_X0_take l D J F (a_t := a_t) (a_t_buckets := a_t_buckets) (a_t_grades := a_t_grades) (a_t_heights := a_t_heights) (a_t_drawn := a_t_drawn) (c_t_limit := c_t_limit) (c_t_hungSet := c_t_hungSet) (c_t_bucketSum := v10) (c_t_gradeSum := v11) (f_t_buckets := v12) (f_t_grades := v13) (f_t_heights := v14) (f_t_drawn := v15) (p0 := q18)  q21 h22) dX0_takeByOrder_26 gX0_takeByOrder_X0_take rfl rfl rfl (by decide +kernel) ⟨Nat.le_of_ble_eq_true rfl, Nat.le_of_ble_eq_true rfl⟩ ⟨Nat.le_of_ble_eq_true rfl, Nat.le_of_ble_eq_true rfl⟩ (z_spl_of [0, 1, 2, 3, 4, 5, 6, 7] rfl rfl) rfl rfl rfl rfl (Nat.le_of_ble_eq_true rfl) rfl (fun rv w9 hq => ?_)
        obtain ⟨rfl, rfl⟩ := hq
        refine z_ws [(a_p0, .inr (2, [.ref a_p0_rowOf, .ref a_p0_columnOf, .ref a_p0_neighbours, .ref a_p0_neighbourCount, .int (zi c_p0_size)])), (a_p0_neighbours, zI J 64 f_p0_neighbours), (a_p0_neighbourCount, zI J 16 f_p0_neighbourCount), (a_t, .inr (0, [.ref a_t_buckets, .ref a_t_grades, .ref a_t_heights, .ref a_t_drawn, .int (zi c_t_limit), .int (zi c_t_hungSet), .int (zi q21.2.1), .int (zi q21.2.2.1)])), (a_t_buckets, zI J 96 q21.2.2.2.1), (a_t_grades, zI J 96 q21.2.2.2.2.1), (a_t_heights, zI J 16 q21.2.2.2.2.2.1), (a_t_drawn, zI J 16 q21.2.2.2.2.2.2)] rfl ?_
        refine z_pop (pc' := 30) dX0_takeByOrder_29 rfl rfl ?_
        refine z_iinc (pc' := 33) [(3, .int (zi (v9 + (1 : Int)))), (4, .int (zi q18)), (0, .ref a_t), (1, .ref a_p0), (2, .int (zi p1))] 4 dX0_takeByOrder_30 rfl (by decide) rfl rfl ?_
        refine z_goto (tgt := 2) dX0_takeByOrder_33 (by decide) ?_
        refine z_perm [(a_t, .inr (0, [.ref a_t_buckets, .ref a_t_grades, .ref a_t_heights, .ref a_t_drawn, .int (zi c_t_limit), .int (zi c_t_hungSet), .int (zi q21.2.1), .int (zi q21.2.2.1)])), (a_t_buckets, zI J 96 q21.2.2.2.1), (a_t_grades, zI J 96 q21.2.2.2.2.1), (a_t_heights, zI J 16 q21.2.2.2.2.2.1), (a_t_drawn, zI J 16 q21.2.2.2.2.2.2), (a_p0, .inr (2, [.ref a_p0_rowOf, .ref a_p0_columnOf, .ref a_p0_neighbours, .ref a_p0_neighbourCount, .int (zi c_p0_size)])), (a_p0_neighbours, zI J 64 f_p0_neighbours), (a_p0_neighbourCount, zI J 16 f_p0_neighbourCount)] [(0, .ref a_t), (1, .ref a_p0), (2, .int (zi p1)), (3, .int (zi (v9 + (1 : Int))))] [3, 4, 5, 6, 7, 0, 1, 2] [2, 3, 4, 0] rfl rfl rfl ?_
        exact ih _ _ _ _ _ _ _ hsh
      · replace hsh := zif_t q hsh
        refine z_iload_n (pc' := 22) 4 dX0_takeByOrder_21 rfl rfl rfl ?_
        cases hsh
        exact z_iret rfl dX0_takeByOrder_22 ⟨rfl, rfl⟩
set_option maxRecDepth 100000 in
set_option maxHeartbeats 4000000 in
theorem zc_X0_takeByOrder (l : Launch) (D : va_G) (J : Nat → ClassId) (F : Nat) (a_t : Nat) (a_p0 : Nat) (a_t_buckets : Nat) (a_t_grades : Nat) (a_t_heights : Nat) (a_t_drawn : Nat) (a_p0_rowOf : Nat) (a_p0_columnOf : Nat) (a_p0_neighbours : Nat) (a_p0_neighbourCount : Nat) (c_t_limit : Int) (c_t_hungSet : Int) (c_t_bucketSum : Int) (c_t_gradeSum : Int) (f_t_buckets : Nat → Int) (f_t_grades : Nat → Int) (f_t_heights : Nat → Int) (f_t_drawn : Nat → Int) (c_p0_size : Int) (f_p0_neighbours : Nat → Int) (f_p0_neighbourCount : Nat → Int) (p1 : Int) (res : Int × Int × Int × (Nat → Int) × (Nat → Int) × (Nat → Int) × (Nat → Int)) (hsh : sh_X0_takeByOrder F c_t_limit c_t_hungSet c_t_bucketSum c_t_gradeSum f_t_buckets f_t_grades f_t_heights f_t_drawn c_p0_size f_p0_neighbours f_p0_neighbourCount p1 = some res) : ZM l D J yX0_takeByOrder wsX0_takeByOrder ({ frames := 4, cells := 0, slots := 0, locals := 109 } : Room) 0 0 [.ref a_t, .ref a_p0, .int (zi p1)] [(a_t, .inr (0, [.ref a_t_buckets, .ref a_t_grades, .ref a_t_heights, .ref a_t_drawn, .int (zi c_t_limit), .int (zi c_t_hungSet), .int (zi c_t_bucketSum), .int (zi c_t_gradeSum)])), (a_t_buckets, zI J 96 f_t_buckets), (a_t_grades, zI J 96 f_t_grades), (a_t_heights, zI J 16 f_t_heights), (a_t_drawn, zI J 16 f_t_drawn), (a_p0, .inr (2, [.ref a_p0_rowOf, .ref a_p0_columnOf, .ref a_p0_neighbours, .ref a_p0_neighbourCount, .int (zi c_p0_size)])), (a_p0_neighbours, zI J 64 f_p0_neighbours), (a_p0_neighbourCount, zI J 16 f_p0_neighbourCount)] (fun rv w9 => rv = some (.int (zi res.1)) ∧ w9 = [(a_t, .inr (0, [.ref a_t_buckets, .ref a_t_grades, .ref a_t_heights, .ref a_t_drawn, .int (zi c_t_limit), .int (zi c_t_hungSet), .int (zi res.2.1), .int (zi res.2.2.1)])), (a_t_buckets, zI J 96 res.2.2.2.1), (a_t_grades, zI J 96 res.2.2.2.2.1), (a_t_heights, zI J 16 res.2.2.2.2.2.1), (a_t_drawn, zI J 16 res.2.2.2.2.2.2), (a_p0, .inr (2, [.ref a_p0_rowOf, .ref a_p0_columnOf, .ref a_p0_neighbours, .ref a_p0_neighbourCount, .int (zi c_p0_size)])), (a_p0_neighbours, zI J 64 f_p0_neighbours), (a_p0_neighbourCount, zI J 16 f_p0_neighbourCount)]) := by
  refine z_ofZ (cc := cX0_takeByOrder) (maxL := 5) (ret := (some .int)) 0 0 (by decide) rfl (Nat.le_of_ble_eq_true rfl) [(0, .ref a_t), (1, .ref a_p0), (2, .int (zi p1))] rfl ?_
  intro p e s m args below meth c A
  unfold sh_X0_takeByOrder at hsh
  refine z_iconst (pc' := 1) dX0_takeByOrder_0 rfl ?_
  refine z_istore_n (pc' := 2) [(3, .int (zi (0 : Int))), (0, .ref a_t), (1, .ref a_p0), (2, .int (zi p1))] dX0_takeByOrder_1 rfl (by decide) rfl rfl ?_
  refine z_perm [(a_t, .inr (0, [.ref a_t_buckets, .ref a_t_grades, .ref a_t_heights, .ref a_t_drawn, .int (zi c_t_limit), .int (zi c_t_hungSet), .int (zi c_t_bucketSum), .int (zi c_t_gradeSum)])), (a_t_buckets, zI J 96 f_t_buckets), (a_t_grades, zI J 96 f_t_grades), (a_t_heights, zI J 16 f_t_heights), (a_t_drawn, zI J 16 f_t_drawn), (a_p0, .inr (2, [.ref a_p0_rowOf, .ref a_p0_columnOf, .ref a_p0_neighbours, .ref a_p0_neighbourCount, .int (zi c_p0_size)])), (a_p0_neighbours, zI J 64 f_p0_neighbours), (a_p0_neighbourCount, zI J 16 f_p0_neighbourCount)] [(0, .ref a_t), (1, .ref a_p0), (2, .int (zi p1)), (3, .int (zi (0 : Int)))] [0, 1, 2, 3, 4, 5, 6, 7] [1, 2, 3, 0] rfl rfl rfl ?_
  refine zl_X0_takeByOrder_L2 (F := F) (hk := fun v23 v24 v25 v26 v27 v28 v29 hsh => ?_) _ _ _ _ _ _ _ _ hsh
  refine z_iload_n (pc' := 37) 0 dX0_takeByOrder_36 rfl rfl rfl ?_
  cases hsh
  exact z_iret rfl dX0_takeByOrder_37 ⟨rfl, rfl⟩
def sh_X0_turnHung (F : Nat) (c_t_hungSet : Int) (p0 : Int) : Option (Int) := some ((zxor c_t_hungSet (zshl (1 : Int) p0)))
theorem mX0_turnHung_f34 : Cond.fieldLink RX0 34 (TX0 5).1 (TX0 5).2.1 (TX0 5).2.2.1 ∈ wsX0_turnHung := List.mem_of_getElem? (i := 1) rfl
theorem iX0_turnHung_X0 : ∀ w ∈ wsX00, w ∈ wsX0_turnHung := fun _ h => (List.mem_cons_of_mem _ (List.mem_append_right _ h))
set_option maxRecDepth 100000 in
set_option maxHeartbeats 4000000 in
theorem zc_X0_turnHung (l : Launch) (D : va_G) (J : Nat → ClassId) (F : Nat) (a_t : Nat) (a_t_buckets : Nat) (a_t_grades : Nat) (a_t_heights : Nat) (a_t_drawn : Nat) (c_t_limit : Int) (c_t_hungSet : Int) (c_t_bucketSum : Int) (c_t_gradeSum : Int) (p0 : Int) (res : Int) (hsh : sh_X0_turnHung F c_t_hungSet p0 = some res) : ZM l D J yX0_turnHung wsX0_turnHung ({ frames := 0, cells := 0, slots := 0, locals := 0 } : Room) 0 0 [.ref a_t, .int (zi p0)] [(a_t, .inr (0, [.ref a_t_buckets, .ref a_t_grades, .ref a_t_heights, .ref a_t_drawn, .int (zi c_t_limit), .int (zi c_t_hungSet), .int (zi c_t_bucketSum), .int (zi c_t_gradeSum)]))] (fun rv w9 => rv = none ∧ w9 = [(a_t, .inr (0, [.ref a_t_buckets, .ref a_t_grades, .ref a_t_heights, .ref a_t_drawn, .int (zi c_t_limit), .int (zi res), .int (zi c_t_bucketSum), .int (zi c_t_gradeSum)]))]) := by
  refine z_ofZ (cc := cX0_turnHung) (maxL := 2) (ret := none) 0 0 (by decide) rfl (Nat.le_of_ble_eq_true rfl) [(0, .ref a_t), (1, .int (zi p0))] rfl ?_
  intro p e s m args below meth c A
  unfold sh_X0_turnHung at hsh
  refine z_aload_n (pc' := 1) 0 dX0_turnHung_0 rfl rfl rfl ?_
  refine z_dup (pc' := 2) dX0_turnHung_1 rfl rfl ?_
  refine z_getfield (pc' := 5) (C := RX0) (T := TX0) (N := 8) 0 5 dX0_turnHung_2 iX0_turnHung_X0 rfl rfl (by decide) mX0_turnHung_f34 rfl rfl ?_
  refine z_iconst (pc' := 6) dX0_turnHung_5 rfl ?_
  refine z_iload_n (pc' := 7) 1 dX0_turnHung_6 rfl rfl rfl ?_
  refine z_ishl (pc' := 8) dX0_turnHung_7 rfl ?_
  refine z_ixor (pc' := 9) dX0_turnHung_8 rfl ?_
  refine z_putfield (pc' := 12) (C := RX0) (T := TX0) (N := 8) (ty := .int) 0 5 [(a_t, .inr (0, [.ref a_t_buckets, .ref a_t_grades, .ref a_t_heights, .ref a_t_drawn, .int (zi c_t_limit), .int (zi (zxor c_t_hungSet (zshl (1 : Int) p0))), .int (zi c_t_bucketSum), .int (zi c_t_gradeSum)]))] tyX0 tyX0_ok nmX0 dX0_turnHung_9 iX0_turnHung_X0 rfl rfl (by decide) mX0_turnHung_f34 rfl (by decide +kernel) rfl rfl (Nat.le_of_ble_eq_true rfl) rfl rfl rfl ?_
  cases hsh
  exact z_vret rfl dX0_turnHung_12 ⟨rfl, rfl⟩
def sh_X0_hungCount (F : Nat) (c_t_hungSet : Int) : Option (Int) := (sh_J6_bitCount_0f7a4 F c_t_hungSet).bind (fun (q1 : Int) => some (q1))
theorem mX0_hungCount_f34 : Cond.fieldLink RX0 34 (TX0 5).1 (TX0 5).2.1 (TX0 5).2.2.1 ∈ wsX0_hungCount := List.mem_of_getElem? (i := 1) rfl
theorem iX0_hungCount_X0 : ∀ w ∈ wsX00, w ∈ wsX0_hungCount := fun _ h => (List.mem_cons_of_mem _ (List.mem_append_right _ h))
set_option maxRecDepth 100000 in
set_option maxHeartbeats 4000000 in
theorem zc_X0_hungCount (l : Launch) (D : va_G) (J : Nat → ClassId) (F : Nat) (a_t : Nat) (a_t_buckets : Nat) (a_t_grades : Nat) (a_t_heights : Nat) (a_t_drawn : Nat) (c_t_limit : Int) (c_t_hungSet : Int) (c_t_bucketSum : Int) (c_t_gradeSum : Int) (res : Int) (hsh : sh_X0_hungCount F c_t_hungSet = some res) : ZM l D J yX0_hungCount wsX0_hungCount ({ frames := 1, cells := 0, slots := 0, locals := 20 } : Room) 0 0 [.ref a_t] [(a_t, .inr (0, [.ref a_t_buckets, .ref a_t_grades, .ref a_t_heights, .ref a_t_drawn, .int (zi c_t_limit), .int (zi c_t_hungSet), .int (zi c_t_bucketSum), .int (zi c_t_gradeSum)]))] (fun rv w9 => rv = some (.int (zi res)) ∧ w9 = [(a_t, .inr (0, [.ref a_t_buckets, .ref a_t_grades, .ref a_t_heights, .ref a_t_drawn, .int (zi c_t_limit), .int (zi c_t_hungSet), .int (zi c_t_bucketSum), .int (zi c_t_gradeSum)]))]) := by
  refine z_ofZ (cc := cX0_hungCount) (maxL := 1) (ret := (some .int)) 0 0 (by decide) rfl (Nat.le_of_ble_eq_true rfl) [(0, .ref a_t)] rfl ?_
  intro p e s m args below meth c A
  unfold sh_X0_hungCount at hsh
  refine z_aload_n (pc' := 1) 0 dX0_hungCount_0 rfl rfl rfl ?_
  refine z_getfield (pc' := 4) (C := RX0) (T := TX0) (N := 8) 0 5 dX0_hungCount_1 iX0_hungCount_X0 rfl rfl (by decide) mX0_hungCount_f34 rfl rfl ?_
  obtain ⟨q1, h2, hsh⟩ := zbind hsh
  refine z_callS (pc' := 7) (As := [.int (zi c_t_hungSet)]) (rest := []) (wr := [(a_t, .inr (0, [.ref a_t_buckets, .ref a_t_grades, .ref a_t_heights, .ref a_t_drawn, .int (zi c_t_limit), .int (zi c_t_hungSet), .int (zi c_t_bucketSum), .int (zi c_t_gradeSum)]))]) 1 (zc_J6_bitCount_0f7a4 l D J F (p0 := c_t_hungSet)  q1 h2) dX0_hungCount_4 gX0_hungCount_J6_bitCount_0f7a4 rfl rfl rfl (by decide +kernel) ⟨Nat.le_of_ble_eq_true rfl, Nat.le_of_ble_eq_true rfl⟩ ⟨Nat.le_of_ble_eq_true rfl, Nat.le_of_ble_eq_true rfl⟩ (z_spl_of [0] rfl rfl) rfl rfl (Nat.le_of_ble_eq_true rfl) rfl (fun rv w9 hq => ?_)
  obtain ⟨rfl, rfl⟩ := hq
  refine z_ws [(a_t, .inr (0, [.ref a_t_buckets, .ref a_t_grades, .ref a_t_heights, .ref a_t_drawn, .int (zi c_t_limit), .int (zi c_t_hungSet), .int (zi c_t_bucketSum), .int (zi c_t_gradeSum)]))] rfl ?_
  cases hsh
  exact z_iret rfl dX0_hungCount_7 ⟨rfl, rfl⟩
def sh_X0_fits_L2 (F : Nat) (p1 : Int) (f_t_drawn : Nat → Int) (c_p0_size : Int) (f_p0_neighbours : Nat → Int) (f_p0_neighbourCount : Nat → Int) (k : Int → Option (Int)) : Nat → Int → Option (Int)
  | 0, _ => none
  | N + 1, v2 => (sh_X2_size F c_p0_size).bind (fun (q3 : Int) => zkr v2 (zkr q3 (if v2 < q3 then (sh_X2_room F f_p0_neighbours f_p0_neighbourCount f_t_drawn 16 v2 p1).bind (fun (q7 : Int) => zkr q7 (if q7 < (0 : Int) then some ((0 : Int)) else sh_X0_fits_L2 F p1 f_t_drawn c_p0_size f_p0_neighbours f_p0_neighbourCount k N (v2 + (1 : Int)))) else k v2)))
def sh_X0_fits (F : Nat) (f_t_drawn : Nat → Int) (c_p0_size : Int) (f_p0_neighbours : Nat → Int) (f_p0_neighbourCount : Nat → Int) (p1 : Int) : Option (Int) := sh_X0_fits_L2 F p1 f_t_drawn c_p0_size f_p0_neighbours f_p0_neighbourCount (fun (v10 : Int) => some ((1 : Int))) F (0 : Int)
theorem mX0_fits_f21 : Cond.fieldLink RX0 21 (TX0 3).1 (TX0 3).2.1 (TX0 3).2.2.1 ∈ wsX0_fits := List.mem_of_getElem? (i := 1) rfl
theorem iX0_fits_X0 : ∀ w ∈ wsX00, w ∈ wsX0_fits := fun _ h => (List.mem_cons_of_mem _ (List.mem_append_left _ (List.mem_append_right _ h)))
set_option maxRecDepth 100000 in
set_option maxHeartbeats 4000000 in
theorem zl_X0_fits_L2 {p : Program} {l : Launch} {e : Env} {s : State} {m : MethodId} {args : Array Value} {below : List Frame} {meth : Method} {c : Code} {A : Nat → Prop} {D : va_G} {J : Nat → ClassId} {F : Nat} {p1 : Int} {f_t_drawn : Nat → Int} {c_p0_size : Int} {f_p0_neighbours : Nat → Int} {f_p0_neighbourCount : Nat → Int} {a_t : Nat} {a_t_buckets : Nat} {a_t_grades : Nat} {a_t_heights : Nat} {a_t_drawn : Nat} {c_t_limit : Int} {c_t_hungSet : Int} {c_t_bucketSum : Int} {c_t_gradeSum : Int} {a_p0 : Nat} {a_p0_rowOf : Nat} {a_p0_columnOf : Nat} {a_p0_neighbours : Nat} {a_p0_neighbourCount : Nat} {res : Int} {k : Int → Option (Int)} (hk : ∀ (v2' : Int), k v2' = some res → Z p l e ({ frames := 2, cells := 0, slots := 0, locals := 47 } : Room) s m args below meth c (MQ below (zQ D J A (fun rv w9 => rv = some (.int (zi res)) ∧ w9 = [(a_t, .inr (0, [.ref a_t_buckets, .ref a_t_grades, .ref a_t_heights, .ref a_t_drawn, .int (zi c_t_limit), .int (zi c_t_hungSet), .int (zi c_t_bucketSum), .int (zi c_t_gradeSum)])), (a_t_drawn, zI J 16 f_t_drawn), (a_p0, .inr (2, [.ref a_p0_rowOf, .ref a_p0_columnOf, .ref a_p0_neighbours, .ref a_p0_neighbourCount, .int (zi c_p0_size)])), (a_p0_neighbours, zI J 64 f_p0_neighbours), (a_p0_neighbourCount, zI J 16 f_p0_neighbourCount)])) args s 0 0 A) cX0_fits 4 wsX0_fits RX0 D J A (some .boolean) (yX0_fits.name, []) 0 0 [(a_t, .inr (0, [.ref a_t_buckets, .ref a_t_grades, .ref a_t_heights, .ref a_t_drawn, .int (zi c_t_limit), .int (zi c_t_hungSet), .int (zi c_t_bucketSum), .int (zi c_t_gradeSum)])), (a_t_drawn, zI J 16 f_t_drawn), (a_p0, .inr (2, [.ref a_p0_rowOf, .ref a_p0_columnOf, .ref a_p0_neighbours, .ref a_p0_neighbourCount, .int (zi c_p0_size)])), (a_p0_neighbours, zI J 64 f_p0_neighbours), (a_p0_neighbourCount, zI J 16 f_p0_neighbourCount)] [] 31 []) : ∀ (N : Nat) (v2 : Int), sh_X0_fits_L2 F p1 f_t_drawn c_p0_size f_p0_neighbours f_p0_neighbourCount k N v2 = some res → Z p l e ({ frames := 2, cells := 0, slots := 0, locals := 47 } : Room) s m args below meth c (MQ below (zQ D J A (fun rv w9 => rv = some (.int (zi res)) ∧ w9 = [(a_t, .inr (0, [.ref a_t_buckets, .ref a_t_grades, .ref a_t_heights, .ref a_t_drawn, .int (zi c_t_limit), .int (zi c_t_hungSet), .int (zi c_t_bucketSum), .int (zi c_t_gradeSum)])), (a_t_drawn, zI J 16 f_t_drawn), (a_p0, .inr (2, [.ref a_p0_rowOf, .ref a_p0_columnOf, .ref a_p0_neighbours, .ref a_p0_neighbourCount, .int (zi c_p0_size)])), (a_p0_neighbours, zI J 64 f_p0_neighbours), (a_p0_neighbourCount, zI J 16 f_p0_neighbourCount)])) args s 0 0 A) cX0_fits 4 wsX0_fits RX0 D J A (some .boolean) (yX0_fits.name, []) 0 0 [(a_t, .inr (0, [.ref a_t_buckets, .ref a_t_grades, .ref a_t_heights, .ref a_t_drawn, .int (zi c_t_limit), .int (zi c_t_hungSet), .int (zi c_t_bucketSum), .int (zi c_t_gradeSum)])), (a_t_drawn, zI J 16 f_t_drawn), (a_p0, .inr (2, [.ref a_p0_rowOf, .ref a_p0_columnOf, .ref a_p0_neighbours, .ref a_p0_neighbourCount, .int (zi c_p0_size)])), (a_p0_neighbours, zI J 64 f_p0_neighbours), (a_p0_neighbourCount, zI J 16 f_p0_neighbourCount)] [(0, .ref a_t), (1, .ref a_p0), (2, .int (zi p1)), (3, .int (zi v2))] 2 [] := by
  intro N
  induction N with
  | zero =>
    intro v2 hsh
    exact absurd hsh (by simp [sh_X0_fits_L2])
  | succ N ih =>
    intro v2 hsh
    rw [sh_X0_fits_L2] at hsh
    refine z_iload_n (pc' := 3) 3 dX0_fits_2 rfl rfl rfl ?_
    refine z_aload_n (pc' := 4) 1 dX0_fits_3 rfl rfl rfl ?_
    obtain ⟨q3, h4, hsh⟩ := zbind hsh
    refine z_callV (pc' := 7) (C := RX2) (As := []) (rest := [.int (zi v2)]) (wr := [(a_t, .inr (0, [.ref a_t_buckets, .ref a_t_grades, .ref a_t_heights, .ref a_t_drawn, .int (zi c_t_limit), .int (zi c_t_hungSet), .int (zi c_t_bucketSum), .int (zi c_t_gradeSum)])), (a_t_drawn, zI J 16 f_t_drawn), (a_p0_neighbours, zI J 64 f_p0_neighbours), (a_p0_neighbourCount, zI J 16 f_p0_neighbourCount)]) 0 (zc_X2_size l D J F (a_t := a_p0) (a_t_rowOf := a_p0_rowOf) (a_t_columnOf := a_p0_columnOf) (a_t_neighbours := a_p0_neighbours) (a_t_neighbourCount := a_p0_neighbourCount) (c_t_size := c_p0_size)  q3 h4) dX0_fits_4 gX0_fits_X2_size rfl rfl rfl (by decide +kernel) ⟨Nat.le_of_ble_eq_true rfl, Nat.le_of_ble_eq_true rfl⟩ ⟨Nat.le_of_ble_eq_true rfl, Nat.le_of_ble_eq_true rfl⟩ (z_spl_of [2, 0, 1, 3, 4] rfl rfl) rfl rfl rfl rfl (Nat.le_of_ble_eq_true rfl) rfl (fun rv w9 hq => ?_)
    obtain ⟨rfl, rfl⟩ := hq
    refine z_ws [(a_t, .inr (0, [.ref a_t_buckets, .ref a_t_grades, .ref a_t_heights, .ref a_t_drawn, .int (zi c_t_limit), .int (zi c_t_hungSet), .int (zi c_t_bucketSum), .int (zi c_t_gradeSum)])), (a_t_drawn, zI J 16 f_t_drawn), (a_p0_neighbours, zI J 64 f_p0_neighbours), (a_p0_neighbourCount, zI J 16 f_p0_neighbourCount), (a_p0, .inr (2, [.ref a_p0_rowOf, .ref a_p0_columnOf, .ref a_p0_neighbours, .ref a_p0_neighbourCount, .int (zi c_p0_size)]))] rfl ?_
    have g5 := zkr_p hsh
    replace hsh := zkr_k hsh
    have g6 := zkr_p hsh
    replace hsh := zkr_k hsh
    refine z_icmp_ge (pc' := 10) (tgt := 31) dX0_fits_7 (by decide) g5 g6 rfl (fun q => ?_) (fun q => ?_)
    · replace hsh := zif_f q hsh
      refine z_perm [(a_t, .inr (0, [.ref a_t_buckets, .ref a_t_grades, .ref a_t_heights, .ref a_t_drawn, .int (zi c_t_limit), .int (zi c_t_hungSet), .int (zi c_t_bucketSum), .int (zi c_t_gradeSum)])), (a_t_drawn, zI J 16 f_t_drawn), (a_p0, .inr (2, [.ref a_p0_rowOf, .ref a_p0_columnOf, .ref a_p0_neighbours, .ref a_p0_neighbourCount, .int (zi c_p0_size)])), (a_p0_neighbours, zI J 64 f_p0_neighbours), (a_p0_neighbourCount, zI J 16 f_p0_neighbourCount)] [] [0, 1, 4, 2, 3] [] rfl rfl rfl ?_
      exact hk _ hsh
    · replace hsh := zif_t q hsh
      refine z_aload_n (pc' := 11) 1 dX0_fits_10 rfl rfl rfl ?_
      refine z_iload_n (pc' := 12) 3 dX0_fits_11 rfl rfl rfl ?_
      refine z_aload_n (pc' := 13) 0 dX0_fits_12 rfl rfl rfl ?_
      refine z_getfield (pc' := 16) (C := RX0) (T := TX0) (N := 8) 0 3 dX0_fits_13 iX0_fits_X0 rfl rfl (by decide) mX0_fits_f21 rfl rfl ?_
      refine z_iload_n (pc' := 17) 2 dX0_fits_16 rfl rfl rfl ?_
      obtain ⟨q7, h8, hsh⟩ := zbind hsh
      refine z_callV (pc' := 20) (C := RX2) (As := [.int (zi v2), .ref a_t_drawn, .int (zi p1)]) (rest := []) (wr := [(a_t, .inr (0, [.ref a_t_buckets, .ref a_t_grades, .ref a_t_heights, .ref a_t_drawn, .int (zi c_t_limit), .int (zi c_t_hungSet), .int (zi c_t_bucketSum), .int (zi c_t_gradeSum)]))]) 3 (zc_X2_room l D J F (a_t := a_p0) (a_p1 := a_t_drawn) (a_t_rowOf := a_p0_rowOf) (a_t_columnOf := a_p0_columnOf) (a_t_neighbours := a_p0_neighbours) (a_t_neighbourCount := a_p0_neighbourCount) (c_t_size := c_p0_size) (f_t_neighbours := f_p0_neighbours) (f_t_neighbourCount := f_p0_neighbourCount) (f_p1 := f_t_drawn) (n_p1 := 16) (p0 := v2) (p2 := p1) (hn_p1 := (by decide)) q7 h8) dX0_fits_17 gX0_fits_X2_room rfl rfl rfl (by decide +kernel) ⟨Nat.le_of_ble_eq_true rfl, Nat.le_of_ble_eq_true rfl⟩ ⟨Nat.le_of_ble_eq_true rfl, Nat.le_of_ble_eq_true rfl⟩ (z_spl_of [4, 2, 3, 1, 0] rfl rfl) rfl rfl rfl rfl (Nat.le_of_ble_eq_true rfl) rfl (fun rv w9 hq => ?_)
      obtain ⟨rfl, rfl⟩ := hq
      refine z_ws [(a_t, .inr (0, [.ref a_t_buckets, .ref a_t_grades, .ref a_t_heights, .ref a_t_drawn, .int (zi c_t_limit), .int (zi c_t_hungSet), .int (zi c_t_bucketSum), .int (zi c_t_gradeSum)])), (a_p0, .inr (2, [.ref a_p0_rowOf, .ref a_p0_columnOf, .ref a_p0_neighbours, .ref a_p0_neighbourCount, .int (zi c_p0_size)])), (a_p0_neighbours, zI J 64 f_p0_neighbours), (a_p0_neighbourCount, zI J 16 f_p0_neighbourCount), (a_t_drawn, zI J 16 f_t_drawn)] rfl ?_
      have g9 := zkr_p hsh
      replace hsh := zkr_k hsh
      refine z_if_ge (pc' := 23) (tgt := 25) dX0_fits_20 (by decide) g9 rfl (fun q => ?_) (fun q => ?_)
      · replace hsh := zif_f q hsh
        refine z_iinc (pc' := 28) [(3, .int (zi (v2 + (1 : Int)))), (0, .ref a_t), (1, .ref a_p0), (2, .int (zi p1))] 3 dX0_fits_25 rfl (by decide) rfl rfl ?_
        refine z_goto (tgt := 2) dX0_fits_28 (by decide) ?_
        refine z_perm [(a_t, .inr (0, [.ref a_t_buckets, .ref a_t_grades, .ref a_t_heights, .ref a_t_drawn, .int (zi c_t_limit), .int (zi c_t_hungSet), .int (zi c_t_bucketSum), .int (zi c_t_gradeSum)])), (a_t_drawn, zI J 16 f_t_drawn), (a_p0, .inr (2, [.ref a_p0_rowOf, .ref a_p0_columnOf, .ref a_p0_neighbours, .ref a_p0_neighbourCount, .int (zi c_p0_size)])), (a_p0_neighbours, zI J 64 f_p0_neighbours), (a_p0_neighbourCount, zI J 16 f_p0_neighbourCount)] [(0, .ref a_t), (1, .ref a_p0), (2, .int (zi p1)), (3, .int (zi (v2 + (1 : Int))))] [0, 4, 1, 2, 3] [1, 2, 3, 0] rfl rfl rfl ?_
        exact ih _ hsh
      · replace hsh := zif_t q hsh
        refine z_iconst (pc' := 24) dX0_fits_23 rfl ?_
        refine z_perm [(a_t, .inr (0, [.ref a_t_buckets, .ref a_t_grades, .ref a_t_heights, .ref a_t_drawn, .int (zi c_t_limit), .int (zi c_t_hungSet), .int (zi c_t_bucketSum), .int (zi c_t_gradeSum)])), (a_t_drawn, zI J 16 f_t_drawn), (a_p0, .inr (2, [.ref a_p0_rowOf, .ref a_p0_columnOf, .ref a_p0_neighbours, .ref a_p0_neighbourCount, .int (zi c_p0_size)])), (a_p0_neighbours, zI J 64 f_p0_neighbours), (a_p0_neighbourCount, zI J 16 f_p0_neighbourCount)] [(0, .ref a_t), (1, .ref a_p0), (2, .int (zi p1)), (3, .int (zi v2))] [0, 4, 1, 2, 3] [0, 1, 2, 3] rfl rfl rfl ?_
        cases hsh
        exact z_zret rfl (by decide) dX0_fits_24 ⟨rfl, rfl⟩
set_option maxRecDepth 100000 in
set_option maxHeartbeats 4000000 in
theorem zc_X0_fits (l : Launch) (D : va_G) (J : Nat → ClassId) (F : Nat) (a_t : Nat) (a_p0 : Nat) (a_t_buckets : Nat) (a_t_grades : Nat) (a_t_heights : Nat) (a_t_drawn : Nat) (a_p0_rowOf : Nat) (a_p0_columnOf : Nat) (a_p0_neighbours : Nat) (a_p0_neighbourCount : Nat) (c_t_limit : Int) (c_t_hungSet : Int) (c_t_bucketSum : Int) (c_t_gradeSum : Int) (f_t_drawn : Nat → Int) (c_p0_size : Int) (f_p0_neighbours : Nat → Int) (f_p0_neighbourCount : Nat → Int) (p1 : Int) (res : Int) (hsh : sh_X0_fits F f_t_drawn c_p0_size f_p0_neighbours f_p0_neighbourCount p1 = some res) : ZM l D J yX0_fits wsX0_fits ({ frames := 2, cells := 0, slots := 0, locals := 47 } : Room) 0 0 [.ref a_t, .ref a_p0, .int (zi p1)] [(a_t, .inr (0, [.ref a_t_buckets, .ref a_t_grades, .ref a_t_heights, .ref a_t_drawn, .int (zi c_t_limit), .int (zi c_t_hungSet), .int (zi c_t_bucketSum), .int (zi c_t_gradeSum)])), (a_t_drawn, zI J 16 f_t_drawn), (a_p0, .inr (2, [.ref a_p0_rowOf, .ref a_p0_columnOf, .ref a_p0_neighbours, .ref a_p0_neighbourCount, .int (zi c_p0_size)])), (a_p0_neighbours, zI J 64 f_p0_neighbours), (a_p0_neighbourCount, zI J 16 f_p0_neighbourCount)] (fun rv w9 => rv = some (.int (zi res)) ∧ w9 = [(a_t, .inr (0, [.ref a_t_buckets, .ref a_t_grades, .ref a_t_heights, .ref a_t_drawn, .int (zi c_t_limit), .int (zi c_t_hungSet), .int (zi c_t_bucketSum), .int (zi c_t_gradeSum)])), (a_t_drawn, zI J 16 f_t_drawn), (a_p0, .inr (2, [.ref a_p0_rowOf, .ref a_p0_columnOf, .ref a_p0_neighbours, .ref a_p0_neighbourCount, .int (zi c_p0_size)])), (a_p0_neighbours, zI J 64 f_p0_neighbours), (a_p0_neighbourCount, zI J 16 f_p0_neighbourCount)]) := by
  refine z_ofZ (cc := cX0_fits) (maxL := 4) (ret := (some .boolean)) 0 0 (by decide) rfl (Nat.le_of_ble_eq_true rfl) [(0, .ref a_t), (1, .ref a_p0), (2, .int (zi p1))] rfl ?_
  intro p e s m args below meth c A
  unfold sh_X0_fits at hsh
  refine z_iconst (pc' := 1) dX0_fits_0 rfl ?_
  refine z_istore_n (pc' := 2) [(3, .int (zi (0 : Int))), (0, .ref a_t), (1, .ref a_p0), (2, .int (zi p1))] dX0_fits_1 rfl (by decide) rfl rfl ?_
  refine z_perm [(a_t, .inr (0, [.ref a_t_buckets, .ref a_t_grades, .ref a_t_heights, .ref a_t_drawn, .int (zi c_t_limit), .int (zi c_t_hungSet), .int (zi c_t_bucketSum), .int (zi c_t_gradeSum)])), (a_t_drawn, zI J 16 f_t_drawn), (a_p0, .inr (2, [.ref a_p0_rowOf, .ref a_p0_columnOf, .ref a_p0_neighbours, .ref a_p0_neighbourCount, .int (zi c_p0_size)])), (a_p0_neighbours, zI J 64 f_p0_neighbours), (a_p0_neighbourCount, zI J 16 f_p0_neighbourCount)] [(0, .ref a_t), (1, .ref a_p0), (2, .int (zi p1)), (3, .int (zi (0 : Int)))] [0, 1, 2, 3, 4] [1, 2, 3, 0] rfl rfl rfl ?_
  refine zl_X0_fits_L2 (F := F) (hk := fun v10 hsh => ?_) _ _ hsh
  refine z_iconst (pc' := 32) dX0_fits_31 rfl ?_
  cases hsh
  exact z_zret rfl (by decide) dX0_fits_32 ⟨rfl, rfl⟩
def sh_X0_limit (F : Nat) (c_t_limit : Int) : Option (Int) := some (c_t_limit)
theorem mX0_limit_f30 : Cond.fieldLink RX0 30 (TX0 4).1 (TX0 4).2.1 (TX0 4).2.2.1 ∈ wsX0_limit := List.mem_of_getElem? (i := 1) rfl
theorem iX0_limit_X0 : ∀ w ∈ wsX00, w ∈ wsX0_limit := fun _ h => (List.mem_cons_of_mem _ (List.mem_append_right _ h))
set_option maxRecDepth 100000 in
set_option maxHeartbeats 4000000 in
theorem zc_X0_limit (l : Launch) (D : va_G) (J : Nat → ClassId) (F : Nat) (a_t : Nat) (a_t_buckets : Nat) (a_t_grades : Nat) (a_t_heights : Nat) (a_t_drawn : Nat) (c_t_limit : Int) (c_t_hungSet : Int) (c_t_bucketSum : Int) (c_t_gradeSum : Int) (res : Int) (hsh : sh_X0_limit F c_t_limit = some res) : ZM l D J yX0_limit wsX0_limit ({ frames := 0, cells := 0, slots := 0, locals := 0 } : Room) 0 0 [.ref a_t] [(a_t, .inr (0, [.ref a_t_buckets, .ref a_t_grades, .ref a_t_heights, .ref a_t_drawn, .int (zi c_t_limit), .int (zi c_t_hungSet), .int (zi c_t_bucketSum), .int (zi c_t_gradeSum)]))] (fun rv w9 => rv = some (.int (zi res)) ∧ w9 = [(a_t, .inr (0, [.ref a_t_buckets, .ref a_t_grades, .ref a_t_heights, .ref a_t_drawn, .int (zi c_t_limit), .int (zi c_t_hungSet), .int (zi c_t_bucketSum), .int (zi c_t_gradeSum)]))]) := by
  refine z_ofZ (cc := cX0_limit) (maxL := 1) (ret := (some .int)) 0 0 (by decide) rfl (Nat.le_of_ble_eq_true rfl) [(0, .ref a_t)] rfl ?_
  intro p e s m args below meth c A
  unfold sh_X0_limit at hsh
  refine z_aload_n (pc' := 1) 0 dX0_limit_0 rfl rfl rfl ?_
  refine z_getfield (pc' := 4) (C := RX0) (T := TX0) (N := 8) 0 4 dX0_limit_1 iX0_limit_X0 rfl rfl (by decide) mX0_limit_f30 rfl rfl ?_
  cases hsh
  exact z_iret rfl dX0_limit_4 ⟨rfl, rfl⟩
def sh_X0_changeLimit (F : Nat) (p0 : Int) : Option (Int) := some (p0)
theorem mX0_changeLimit_f30 : Cond.fieldLink RX0 30 (TX0 4).1 (TX0 4).2.1 (TX0 4).2.2.1 ∈ wsX0_changeLimit := List.mem_of_getElem? (i := 1) rfl
theorem iX0_changeLimit_X0 : ∀ w ∈ wsX00, w ∈ wsX0_changeLimit := fun _ h => (List.mem_cons_of_mem _ (List.mem_append_right _ h))
set_option maxRecDepth 100000 in
set_option maxHeartbeats 4000000 in
theorem zc_X0_changeLimit (l : Launch) (D : va_G) (J : Nat → ClassId) (F : Nat) (a_t : Nat) (a_t_buckets : Nat) (a_t_grades : Nat) (a_t_heights : Nat) (a_t_drawn : Nat) (c_t_limit : Int) (c_t_hungSet : Int) (c_t_bucketSum : Int) (c_t_gradeSum : Int) (p0 : Int) (res : Int) (hsh : sh_X0_changeLimit F p0 = some res) : ZM l D J yX0_changeLimit wsX0_changeLimit ({ frames := 0, cells := 0, slots := 0, locals := 0 } : Room) 0 0 [.ref a_t, .int (zi p0)] [(a_t, .inr (0, [.ref a_t_buckets, .ref a_t_grades, .ref a_t_heights, .ref a_t_drawn, .int (zi c_t_limit), .int (zi c_t_hungSet), .int (zi c_t_bucketSum), .int (zi c_t_gradeSum)]))] (fun rv w9 => rv = none ∧ w9 = [(a_t, .inr (0, [.ref a_t_buckets, .ref a_t_grades, .ref a_t_heights, .ref a_t_drawn, .int (zi res), .int (zi c_t_hungSet), .int (zi c_t_bucketSum), .int (zi c_t_gradeSum)]))]) := by
  refine z_ofZ (cc := cX0_changeLimit) (maxL := 2) (ret := none) 0 0 (by decide) rfl (Nat.le_of_ble_eq_true rfl) [(0, .ref a_t), (1, .int (zi p0))] rfl ?_
  intro p e s m args below meth c A
  unfold sh_X0_changeLimit at hsh
  refine z_aload_n (pc' := 1) 0 dX0_changeLimit_0 rfl rfl rfl ?_
  refine z_iload_n (pc' := 2) 1 dX0_changeLimit_1 rfl rfl rfl ?_
  refine z_putfield (pc' := 5) (C := RX0) (T := TX0) (N := 8) (ty := .int) 0 4 [(a_t, .inr (0, [.ref a_t_buckets, .ref a_t_grades, .ref a_t_heights, .ref a_t_drawn, .int (zi p0), .int (zi c_t_hungSet), .int (zi c_t_bucketSum), .int (zi c_t_gradeSum)]))] tyX0 tyX0_ok nmX0 dX0_changeLimit_2 iX0_changeLimit_X0 rfl rfl (by decide) mX0_changeLimit_f30 rfl (by decide +kernel) rfl rfl (Nat.le_of_ble_eq_true rfl) rfl rfl rfl ?_
  cases hsh
  exact z_vret rfl dX0_changeLimit_5 ⟨rfl, rfl⟩
def sh_X0_blockersOf_L5 (F : Nat) (p1 : Int) (c_t_limit : Int) (f_t_drawn : Nat → Int) (f_p0_neighbours : Nat → Int) (f_p0_neighbourCount : Nat → Int) (k : Int → Int → Option (Int)) : Nat → Int → Int → Option (Int)
  | 0, _, _ => none
  | N + 1, v3, v4 => (sh_X2_degree F f_p0_neighbourCount p1).bind (fun (q5 : Int) => zkr v4 (zkr q5 (if v4 < q5 then (sh_X2_neighbour F f_p0_neighbours p1 v4).bind (fun (q9 : Int) => zkx p1 16 (zkx q9 16 (zkr (((f_t_drawn (p1).toNat) + (1 : Int)) - (f_t_drawn (q9).toNat)) (zkr c_t_limit (if c_t_limit < (((f_t_drawn (p1).toNat) + (1 : Int)) - (f_t_drawn (q9).toNat)) then sh_X0_blockersOf_L5 F p1 c_t_limit f_t_drawn f_p0_neighbours f_p0_neighbourCount k N (zor v3 (zshl (1 : Int) q9)) (v4 + (1 : Int)) else sh_X0_blockersOf_L5 F p1 c_t_limit f_t_drawn f_p0_neighbours f_p0_neighbourCount k N v3 (v4 + (1 : Int))))))) else k v3 v4)))
def sh_X0_blockersOf (F : Nat) (c_t_limit : Int) (f_t_drawn : Nat → Int) (f_p0_neighbours : Nat → Int) (f_p0_neighbourCount : Nat → Int) (p1 : Int) : Option (Int) := sh_X0_blockersOf_L5 F p1 c_t_limit f_t_drawn f_p0_neighbours f_p0_neighbourCount (fun (v15 : Int) (v16 : Int) => some (v15)) F (0 : Int) (0 : Int)
theorem mX0_blockersOf_f21 : Cond.fieldLink RX0 21 (TX0 3).1 (TX0 3).2.1 (TX0 3).2.2.1 ∈ wsX0_blockersOf := List.mem_of_getElem? (i := 1) rfl
theorem iX0_blockersOf_X0 : ∀ w ∈ wsX00, w ∈ wsX0_blockersOf := fun _ h => (List.mem_cons_of_mem _ (List.mem_append_left _ (List.mem_append_right _ h)))
theorem mX0_blockersOf_f30 : Cond.fieldLink RX0 30 (TX0 4).1 (TX0 4).2.1 (TX0 4).2.2.1 ∈ wsX0_blockersOf := List.mem_of_getElem? (i := 2) rfl
set_option maxRecDepth 100000 in
set_option maxHeartbeats 4000000 in
theorem zl_X0_blockersOf_L5 {p : Program} {l : Launch} {e : Env} {s : State} {m : MethodId} {args : Array Value} {below : List Frame} {meth : Method} {c : Code} {A : Nat → Prop} {D : va_G} {J : Nat → ClassId} {F : Nat} {p1 : Int} {c_t_limit : Int} {f_t_drawn : Nat → Int} {f_p0_neighbours : Nat → Int} {f_p0_neighbourCount : Nat → Int} {a_t : Nat} {a_t_buckets : Nat} {a_t_grades : Nat} {a_t_heights : Nat} {a_t_drawn : Nat} {c_t_hungSet : Int} {c_t_bucketSum : Int} {c_t_gradeSum : Int} {a_p0 : Nat} {a_p0_rowOf : Nat} {a_p0_columnOf : Nat} {a_p0_neighbours : Nat} {a_p0_neighbourCount : Nat} {c_p0_size : Int} {res : Int} {k : Int → Int → Option (Int)} (hk : ∀ (v3' : Int) (v4' : Int), k v3' v4' = some res → Z p l e ({ frames := 1, cells := 0, slots := 0, locals := 22 } : Room) s m args below meth c (MQ below (zQ D J A (fun rv w9 => rv = some (.int (zi res)) ∧ w9 = [(a_t, .inr (0, [.ref a_t_buckets, .ref a_t_grades, .ref a_t_heights, .ref a_t_drawn, .int (zi c_t_limit), .int (zi c_t_hungSet), .int (zi c_t_bucketSum), .int (zi c_t_gradeSum)])), (a_t_drawn, zI J 16 f_t_drawn), (a_p0, .inr (2, [.ref a_p0_rowOf, .ref a_p0_columnOf, .ref a_p0_neighbours, .ref a_p0_neighbourCount, .int (zi c_p0_size)])), (a_p0_neighbours, zI J 64 f_p0_neighbours), (a_p0_neighbourCount, zI J 16 f_p0_neighbourCount)])) args s 0 0 A) cX0_blockersOf 6 wsX0_blockersOf RX0 D J A (some .int) (yX0_blockersOf.name, []) 0 0 [(a_t, .inr (0, [.ref a_t_buckets, .ref a_t_grades, .ref a_t_heights, .ref a_t_drawn, .int (zi c_t_limit), .int (zi c_t_hungSet), .int (zi c_t_bucketSum), .int (zi c_t_gradeSum)])), (a_t_drawn, zI J 16 f_t_drawn), (a_p0, .inr (2, [.ref a_p0_rowOf, .ref a_p0_columnOf, .ref a_p0_neighbours, .ref a_p0_neighbourCount, .int (zi c_p0_size)])), (a_p0_neighbours, zI J 64 f_p0_neighbours), (a_p0_neighbourCount, zI J 16 f_p0_neighbourCount)] [(3, .int (zi v3'))] 60 []) : ∀ (N : Nat) (v3 : Int) (v4 : Int), sh_X0_blockersOf_L5 F p1 c_t_limit f_t_drawn f_p0_neighbours f_p0_neighbourCount k N v3 v4 = some res → Z p l e ({ frames := 1, cells := 0, slots := 0, locals := 22 } : Room) s m args below meth c (MQ below (zQ D J A (fun rv w9 => rv = some (.int (zi res)) ∧ w9 = [(a_t, .inr (0, [.ref a_t_buckets, .ref a_t_grades, .ref a_t_heights, .ref a_t_drawn, .int (zi c_t_limit), .int (zi c_t_hungSet), .int (zi c_t_bucketSum), .int (zi c_t_gradeSum)])), (a_t_drawn, zI J 16 f_t_drawn), (a_p0, .inr (2, [.ref a_p0_rowOf, .ref a_p0_columnOf, .ref a_p0_neighbours, .ref a_p0_neighbourCount, .int (zi c_p0_size)])), (a_p0_neighbours, zI J 64 f_p0_neighbours), (a_p0_neighbourCount, zI J 16 f_p0_neighbourCount)])) args s 0 0 A) cX0_blockersOf 6 wsX0_blockersOf RX0 D J A (some .int) (yX0_blockersOf.name, []) 0 0 [(a_t, .inr (0, [.ref a_t_buckets, .ref a_t_grades, .ref a_t_heights, .ref a_t_drawn, .int (zi c_t_limit), .int (zi c_t_hungSet), .int (zi c_t_bucketSum), .int (zi c_t_gradeSum)])), (a_t_drawn, zI J 16 f_t_drawn), (a_p0, .inr (2, [.ref a_p0_rowOf, .ref a_p0_columnOf, .ref a_p0_neighbours, .ref a_p0_neighbourCount, .int (zi c_p0_size)])), (a_p0_neighbours, zI J 64 f_p0_neighbours), (a_p0_neighbourCount, zI J 16 f_p0_neighbourCount)] [(0, .ref a_t), (1, .ref a_p0), (2, .int (zi p1)), (3, .int (zi v3)), (4, .int (zi v4))] 5 [] := by
  intro N
  induction N with
  | zero =>
    intro v3 v4 hsh
    exact absurd hsh (by simp [sh_X0_blockersOf_L5])
  | succ N ih =>
    intro v3 v4 hsh
    rw [sh_X0_blockersOf_L5] at hsh
    refine z_iload (pc' := 7) 4 dX0_blockersOf_5 rfl rfl ?_
    refine z_aload_n (pc' := 8) 1 dX0_blockersOf_7 rfl rfl rfl ?_
    refine z_iload_n (pc' := 9) 2 dX0_blockersOf_8 rfl rfl rfl ?_
    obtain ⟨q5, h6, hsh⟩ := zbind hsh
    refine z_callV (pc' := 12) (C := RX2) (As := [.int (zi p1)]) (rest := [.int (zi v4)]) (wr := [(a_t, .inr (0, [.ref a_t_buckets, .ref a_t_grades, .ref a_t_heights, .ref a_t_drawn, .int (zi c_t_limit), .int (zi c_t_hungSet), .int (zi c_t_bucketSum), .int (zi c_t_gradeSum)])), (a_t_drawn, zI J 16 f_t_drawn), (a_p0_neighbours, zI J 64 f_p0_neighbours)]) 1 (zc_X2_degree l D J F (a_t := a_p0) (a_t_rowOf := a_p0_rowOf) (a_t_columnOf := a_p0_columnOf) (a_t_neighbours := a_p0_neighbours) (a_t_neighbourCount := a_p0_neighbourCount) (c_t_size := c_p0_size) (f_t_neighbourCount := f_p0_neighbourCount) (p0 := p1)  q5 h6) dX0_blockersOf_9 gX0_blockersOf_X2_degree rfl rfl rfl (by decide +kernel) ⟨Nat.le_of_ble_eq_true rfl, Nat.le_of_ble_eq_true rfl⟩ ⟨Nat.le_of_ble_eq_true rfl, Nat.le_of_ble_eq_true rfl⟩ (z_spl_of [2, 4, 0, 1, 3] rfl rfl) rfl rfl rfl rfl (Nat.le_of_ble_eq_true rfl) rfl (fun rv w9 hq => ?_)
    obtain ⟨rfl, rfl⟩ := hq
    refine z_ws [(a_t, .inr (0, [.ref a_t_buckets, .ref a_t_grades, .ref a_t_heights, .ref a_t_drawn, .int (zi c_t_limit), .int (zi c_t_hungSet), .int (zi c_t_bucketSum), .int (zi c_t_gradeSum)])), (a_t_drawn, zI J 16 f_t_drawn), (a_p0_neighbours, zI J 64 f_p0_neighbours), (a_p0, .inr (2, [.ref a_p0_rowOf, .ref a_p0_columnOf, .ref a_p0_neighbours, .ref a_p0_neighbourCount, .int (zi c_p0_size)])), (a_p0_neighbourCount, zI J 16 f_p0_neighbourCount)] rfl ?_
    have g7 := zkr_p hsh
    replace hsh := zkr_k hsh
    have g8 := zkr_p hsh
    replace hsh := zkr_k hsh
    refine z_icmp_ge (pc' := 15) (tgt := 60) dX0_blockersOf_12 (by decide) g7 g8 rfl (fun q => ?_) (fun q => ?_)
    · replace hsh := zif_f q hsh
      refine z_perm [(a_t, .inr (0, [.ref a_t_buckets, .ref a_t_grades, .ref a_t_heights, .ref a_t_drawn, .int (zi c_t_limit), .int (zi c_t_hungSet), .int (zi c_t_bucketSum), .int (zi c_t_gradeSum)])), (a_t_drawn, zI J 16 f_t_drawn), (a_p0, .inr (2, [.ref a_p0_rowOf, .ref a_p0_columnOf, .ref a_p0_neighbours, .ref a_p0_neighbourCount, .int (zi c_p0_size)])), (a_p0_neighbours, zI J 64 f_p0_neighbours), (a_p0_neighbourCount, zI J 16 f_p0_neighbourCount)] [(3, .int (zi v3))] [0, 1, 3, 2, 4] [3] rfl rfl rfl ?_
      exact hk _ _ hsh
    · replace hsh := zif_t q hsh
      refine z_aload_n (pc' := 16) 1 dX0_blockersOf_15 rfl rfl rfl ?_
      refine z_iload_n (pc' := 17) 2 dX0_blockersOf_16 rfl rfl rfl ?_
      refine z_iload (pc' := 19) 4 dX0_blockersOf_17 rfl rfl ?_
      obtain ⟨q9, h10, hsh⟩ := zbind hsh
      refine z_callV (pc' := 22) (C := RX2) (As := [.int (zi p1), .int (zi v4)]) (rest := []) (wr := [(a_t, .inr (0, [.ref a_t_buckets, .ref a_t_grades, .ref a_t_heights, .ref a_t_drawn, .int (zi c_t_limit), .int (zi c_t_hungSet), .int (zi c_t_bucketSum), .int (zi c_t_gradeSum)])), (a_t_drawn, zI J 16 f_t_drawn), (a_p0_neighbourCount, zI J 16 f_p0_neighbourCount)]) 2 (zc_X2_neighbour l D J F (a_t := a_p0) (a_t_rowOf := a_p0_rowOf) (a_t_columnOf := a_p0_columnOf) (a_t_neighbours := a_p0_neighbours) (a_t_neighbourCount := a_p0_neighbourCount) (c_t_size := c_p0_size) (f_t_neighbours := f_p0_neighbours) (p0 := p1) (p1 := v4)  q9 h10) dX0_blockersOf_19 gX0_blockersOf_X2_neighbour rfl rfl rfl (by decide +kernel) ⟨Nat.le_of_ble_eq_true rfl, Nat.le_of_ble_eq_true rfl⟩ ⟨Nat.le_of_ble_eq_true rfl, Nat.le_of_ble_eq_true rfl⟩ (z_spl_of [3, 2, 0, 1, 4] rfl rfl) rfl rfl rfl rfl (Nat.le_of_ble_eq_true rfl) rfl (fun rv w9 hq => ?_)
      obtain ⟨rfl, rfl⟩ := hq
      refine z_ws [(a_t, .inr (0, [.ref a_t_buckets, .ref a_t_grades, .ref a_t_heights, .ref a_t_drawn, .int (zi c_t_limit), .int (zi c_t_hungSet), .int (zi c_t_bucketSum), .int (zi c_t_gradeSum)])), (a_t_drawn, zI J 16 f_t_drawn), (a_p0_neighbourCount, zI J 16 f_p0_neighbourCount), (a_p0, .inr (2, [.ref a_p0_rowOf, .ref a_p0_columnOf, .ref a_p0_neighbours, .ref a_p0_neighbourCount, .int (zi c_p0_size)])), (a_p0_neighbours, zI J 64 f_p0_neighbours)] rfl ?_
      refine z_istore (pc' := 24) [(5, .int (zi q9)), (0, .ref a_t), (1, .ref a_p0), (2, .int (zi p1)), (3, .int (zi v3)), (4, .int (zi v4))] dX0_blockersOf_22 (by decide) rfl rfl ?_
      refine z_aload_n (pc' := 25) 1 dX0_blockersOf_24 rfl rfl rfl ?_
      refine z_getfield (pc' := 28) (C := RX0) (T := TX0) (N := 8) 0 3 dX0_blockersOf_25 iX0_blockersOf_X0 rfl rfl (by decide) mX0_blockersOf_f21 rfl rfl ?_
      refine z_iload_n (pc' := 29) 3 dX0_blockersOf_28 rfl rfl rfl ?_
      have g11 := zkx_p hsh
      replace hsh := zkx_k hsh
      refine z_iaload (pc' := 30) 1 dX0_blockersOf_29 rfl (by decide) g11 rfl ?_
      refine z_iconst (pc' := 31) dX0_blockersOf_30 rfl ?_
      refine z_iadd (pc' := 32) dX0_blockersOf_31 rfl ?_
      refine z_aload_n (pc' := 33) 1 dX0_blockersOf_32 rfl rfl rfl ?_
      refine z_getfield (pc' := 36) (C := RX0) (T := TX0) (N := 8) 0 3 dX0_blockersOf_33 iX0_blockersOf_X0 rfl rfl (by decide) mX0_blockersOf_f21 rfl rfl ?_
      refine z_iload (pc' := 38) 0 dX0_blockersOf_36 rfl rfl ?_
      have g12 := zkx_p hsh
      replace hsh := zkx_k hsh
      refine z_iaload (pc' := 39) 1 dX0_blockersOf_38 rfl (by decide) g12 rfl ?_
      refine z_isub (pc' := 40) dX0_blockersOf_39 rfl ?_
      refine z_aload_n (pc' := 41) 1 dX0_blockersOf_40 rfl rfl rfl ?_
      refine z_getfield (pc' := 44) (C := RX0) (T := TX0) (N := 8) 0 4 dX0_blockersOf_41 iX0_blockersOf_X0 rfl rfl (by decide) mX0_blockersOf_f30 rfl rfl ?_
      have g13 := zkr_p hsh
      replace hsh := zkr_k hsh
      have g14 := zkr_p hsh
      replace hsh := zkr_k hsh
      refine z_icmp_le (pc' := 47) (tgt := 54) dX0_blockersOf_44 (by decide) g13 g14 rfl (fun q => ?_) (fun q => ?_)
      · replace hsh := zif_f q hsh
        refine z_iinc (pc' := 57) [(4, .int (zi (v4 + (1 : Int)))), (5, .int (zi q9)), (0, .ref a_t), (1, .ref a_p0), (2, .int (zi p1)), (3, .int (zi v3))] 5 dX0_blockersOf_54 rfl (by decide) rfl rfl ?_
        refine z_goto (tgt := 5) dX0_blockersOf_57 (by decide) ?_
        refine z_perm [(a_t, .inr (0, [.ref a_t_buckets, .ref a_t_grades, .ref a_t_heights, .ref a_t_drawn, .int (zi c_t_limit), .int (zi c_t_hungSet), .int (zi c_t_bucketSum), .int (zi c_t_gradeSum)])), (a_t_drawn, zI J 16 f_t_drawn), (a_p0, .inr (2, [.ref a_p0_rowOf, .ref a_p0_columnOf, .ref a_p0_neighbours, .ref a_p0_neighbourCount, .int (zi c_p0_size)])), (a_p0_neighbours, zI J 64 f_p0_neighbours), (a_p0_neighbourCount, zI J 16 f_p0_neighbourCount)] [(0, .ref a_t), (1, .ref a_p0), (2, .int (zi p1)), (3, .int (zi v3)), (4, .int (zi (v4 + (1 : Int))))] [0, 1, 3, 4, 2] [2, 3, 4, 5, 0] rfl rfl rfl ?_
        exact ih _ _ hsh
      · replace hsh := zif_t q hsh
        refine z_iload_n (pc' := 48) 4 dX0_blockersOf_47 rfl rfl rfl ?_
        refine z_iconst (pc' := 49) dX0_blockersOf_48 rfl ?_
        refine z_iload (pc' := 51) 0 dX0_blockersOf_49 rfl rfl ?_
        refine z_ishl (pc' := 52) dX0_blockersOf_51 rfl ?_
        refine z_ior (pc' := 53) dX0_blockersOf_52 rfl ?_
        refine z_istore_n (pc' := 54) [(3, .int (zi (zor v3 (zshl (1 : Int) q9)))), (5, .int (zi q9)), (0, .ref a_t), (1, .ref a_p0), (2, .int (zi p1)), (4, .int (zi v4))] dX0_blockersOf_53 rfl (by decide) rfl rfl ?_
        refine z_iinc (pc' := 57) [(4, .int (zi (v4 + (1 : Int)))), (3, .int (zi (zor v3 (zshl (1 : Int) q9)))), (5, .int (zi q9)), (0, .ref a_t), (1, .ref a_p0), (2, .int (zi p1))] 5 dX0_blockersOf_54 rfl (by decide) rfl rfl ?_
        refine z_goto (tgt := 5) dX0_blockersOf_57 (by decide) ?_
        refine z_perm [(a_t, .inr (0, [.ref a_t_buckets, .ref a_t_grades, .ref a_t_heights, .ref a_t_drawn, .int (zi c_t_limit), .int (zi c_t_hungSet), .int (zi c_t_bucketSum), .int (zi c_t_gradeSum)])), (a_t_drawn, zI J 16 f_t_drawn), (a_p0, .inr (2, [.ref a_p0_rowOf, .ref a_p0_columnOf, .ref a_p0_neighbours, .ref a_p0_neighbourCount, .int (zi c_p0_size)])), (a_p0_neighbours, zI J 64 f_p0_neighbours), (a_p0_neighbourCount, zI J 16 f_p0_neighbourCount)] [(0, .ref a_t), (1, .ref a_p0), (2, .int (zi p1)), (3, .int (zi (zor v3 (zshl (1 : Int) q9)))), (4, .int (zi (v4 + (1 : Int))))] [0, 1, 3, 4, 2] [3, 4, 5, 1, 0] rfl rfl rfl ?_
        exact ih _ _ hsh
set_option maxRecDepth 100000 in
set_option maxHeartbeats 4000000 in
theorem zc_X0_blockersOf (l : Launch) (D : va_G) (J : Nat → ClassId) (F : Nat) (a_t : Nat) (a_p0 : Nat) (a_t_buckets : Nat) (a_t_grades : Nat) (a_t_heights : Nat) (a_t_drawn : Nat) (a_p0_rowOf : Nat) (a_p0_columnOf : Nat) (a_p0_neighbours : Nat) (a_p0_neighbourCount : Nat) (c_t_limit : Int) (c_t_hungSet : Int) (c_t_bucketSum : Int) (c_t_gradeSum : Int) (f_t_drawn : Nat → Int) (c_p0_size : Int) (f_p0_neighbours : Nat → Int) (f_p0_neighbourCount : Nat → Int) (p1 : Int) (res : Int) (hsh : sh_X0_blockersOf F c_t_limit f_t_drawn f_p0_neighbours f_p0_neighbourCount p1 = some res) : ZM l D J yX0_blockersOf wsX0_blockersOf ({ frames := 1, cells := 0, slots := 0, locals := 22 } : Room) 0 0 [.ref a_t, .ref a_p0, .int (zi p1)] [(a_t, .inr (0, [.ref a_t_buckets, .ref a_t_grades, .ref a_t_heights, .ref a_t_drawn, .int (zi c_t_limit), .int (zi c_t_hungSet), .int (zi c_t_bucketSum), .int (zi c_t_gradeSum)])), (a_t_drawn, zI J 16 f_t_drawn), (a_p0, .inr (2, [.ref a_p0_rowOf, .ref a_p0_columnOf, .ref a_p0_neighbours, .ref a_p0_neighbourCount, .int (zi c_p0_size)])), (a_p0_neighbours, zI J 64 f_p0_neighbours), (a_p0_neighbourCount, zI J 16 f_p0_neighbourCount)] (fun rv w9 => rv = some (.int (zi res)) ∧ w9 = [(a_t, .inr (0, [.ref a_t_buckets, .ref a_t_grades, .ref a_t_heights, .ref a_t_drawn, .int (zi c_t_limit), .int (zi c_t_hungSet), .int (zi c_t_bucketSum), .int (zi c_t_gradeSum)])), (a_t_drawn, zI J 16 f_t_drawn), (a_p0, .inr (2, [.ref a_p0_rowOf, .ref a_p0_columnOf, .ref a_p0_neighbours, .ref a_p0_neighbourCount, .int (zi c_p0_size)])), (a_p0_neighbours, zI J 64 f_p0_neighbours), (a_p0_neighbourCount, zI J 16 f_p0_neighbourCount)]) := by
  refine z_ofZ (cc := cX0_blockersOf) (maxL := 6) (ret := (some .int)) 0 0 (by decide) rfl (Nat.le_of_ble_eq_true rfl) [(0, .ref a_t), (1, .ref a_p0), (2, .int (zi p1))] rfl ?_
  intro p e s m args below meth c A
  unfold sh_X0_blockersOf at hsh
  refine z_iconst (pc' := 1) dX0_blockersOf_0 rfl ?_
  refine z_istore_n (pc' := 2) [(3, .int (zi (0 : Int))), (0, .ref a_t), (1, .ref a_p0), (2, .int (zi p1))] dX0_blockersOf_1 rfl (by decide) rfl rfl ?_
  refine z_iconst (pc' := 3) dX0_blockersOf_2 rfl ?_
  refine z_istore (pc' := 5) [(4, .int (zi (0 : Int))), (3, .int (zi (0 : Int))), (0, .ref a_t), (1, .ref a_p0), (2, .int (zi p1))] dX0_blockersOf_3 (by decide) rfl rfl ?_
  refine z_perm [(a_t, .inr (0, [.ref a_t_buckets, .ref a_t_grades, .ref a_t_heights, .ref a_t_drawn, .int (zi c_t_limit), .int (zi c_t_hungSet), .int (zi c_t_bucketSum), .int (zi c_t_gradeSum)])), (a_t_drawn, zI J 16 f_t_drawn), (a_p0, .inr (2, [.ref a_p0_rowOf, .ref a_p0_columnOf, .ref a_p0_neighbours, .ref a_p0_neighbourCount, .int (zi c_p0_size)])), (a_p0_neighbours, zI J 64 f_p0_neighbours), (a_p0_neighbourCount, zI J 16 f_p0_neighbourCount)] [(0, .ref a_t), (1, .ref a_p0), (2, .int (zi p1)), (3, .int (zi (0 : Int))), (4, .int (zi (0 : Int)))] [0, 1, 2, 3, 4] [2, 3, 4, 1, 0] rfl rfl rfl ?_
  refine zl_X0_blockersOf_L5 (F := F) (hk := fun v15 v16 hsh => ?_) _ _ _ hsh
  refine z_iload_n (pc' := 61) 0 dX0_blockersOf_60 rfl rfl rfl ?_
  cases hsh
  exact z_iret rfl dX0_blockersOf_61 ⟨rfl, rfl⟩
def sh_X0_bucketsAboveWaste_L5 (F : Nat) (p0 : Int) (p1 : Int) (f_t_buckets : Nat → Int) (f_t_grades : Nat → Int) (f_t_heights : Nat → Int) (k : Int → Int → Option (Int)) : Nat → Int → Int → Option (Int)
  | 0, _, _ => none
  | N + 1, v3, v4 => zkx p0 16 (zkr v4 (zkr (f_t_heights (p0).toNat) (if v4 < (f_t_heights (p0).toNat) then zkx ((p0 * (6 : Int)) + v4) 96 (zkr (f_t_grades (((p0 * (6 : Int)) + v4)).toNat) (zkr p1 (if (f_t_grades (((p0 * (6 : Int)) + v4)).toNat) < p1 then some (v3) else sh_X0_bucketsAboveWaste_L5 F p0 p1 f_t_buckets f_t_grades f_t_heights k N (v3 + (f_t_buckets (((p0 * (6 : Int)) + v4)).toNat)) (v4 + (1 : Int))))) else k v3 v4)))
def sh_X0_bucketsAboveWaste (F : Nat) (f_t_buckets : Nat → Int) (f_t_grades : Nat → Int) (f_t_heights : Nat → Int) (p0 : Int) (p1 : Int) : Option (Int) := sh_X0_bucketsAboveWaste_L5 F p0 p1 f_t_buckets f_t_grades f_t_heights (fun (v11 : Int) (v12 : Int) => some ((-9 : Int))) F (0 : Int) (0 : Int)
theorem mX0_bucketsAboveWaste_f18 : Cond.fieldLink RX0 18 (TX0 2).1 (TX0 2).2.1 (TX0 2).2.2.1 ∈ wsX0_bucketsAboveWaste := List.mem_of_getElem? (i := 1) rfl
theorem iX0_bucketsAboveWaste_X0 : ∀ w ∈ wsX00, w ∈ wsX0_bucketsAboveWaste := fun _ h => (List.mem_cons_of_mem _ (List.mem_append_right _ h))
theorem mX0_bucketsAboveWaste_f15 : Cond.fieldLink RX0 15 (TX0 1).1 (TX0 1).2.1 (TX0 1).2.2.1 ∈ wsX0_bucketsAboveWaste := List.mem_of_getElem? (i := 2) rfl
theorem mX0_bucketsAboveWaste_f9 : Cond.fieldLink RX0 9 (TX0 0).1 (TX0 0).2.1 (TX0 0).2.2.1 ∈ wsX0_bucketsAboveWaste := List.mem_of_getElem? (i := 3) rfl
set_option maxRecDepth 100000 in
set_option maxHeartbeats 4000000 in
theorem zl_X0_bucketsAboveWaste_L5 {p : Program} {l : Launch} {e : Env} {s : State} {m : MethodId} {args : Array Value} {below : List Frame} {meth : Method} {c : Code} {A : Nat → Prop} {D : va_G} {J : Nat → ClassId} {F : Nat} {p0 : Int} {p1 : Int} {f_t_buckets : Nat → Int} {f_t_grades : Nat → Int} {f_t_heights : Nat → Int} {a_t : Nat} {a_t_buckets : Nat} {a_t_grades : Nat} {a_t_heights : Nat} {a_t_drawn : Nat} {c_t_limit : Int} {c_t_hungSet : Int} {c_t_bucketSum : Int} {c_t_gradeSum : Int} {res : Int} {k : Int → Int → Option (Int)} (hk : ∀ (v3' : Int) (v4' : Int), k v3' v4' = some res → Z p l e ({ frames := 0, cells := 0, slots := 0, locals := 0 } : Room) s m args below meth c (MQ below (zQ D J A (fun rv w9 => rv = some (.int (zi res)) ∧ w9 = [(a_t, .inr (0, [.ref a_t_buckets, .ref a_t_grades, .ref a_t_heights, .ref a_t_drawn, .int (zi c_t_limit), .int (zi c_t_hungSet), .int (zi c_t_bucketSum), .int (zi c_t_gradeSum)])), (a_t_buckets, zI J 96 f_t_buckets), (a_t_grades, zI J 96 f_t_grades), (a_t_heights, zI J 16 f_t_heights)])) args s 0 0 A) cX0_bucketsAboveWaste 5 wsX0_bucketsAboveWaste RX0 D J A (some .int) (yX0_bucketsAboveWaste.name, []) 0 0 [(a_t, .inr (0, [.ref a_t_buckets, .ref a_t_grades, .ref a_t_heights, .ref a_t_drawn, .int (zi c_t_limit), .int (zi c_t_hungSet), .int (zi c_t_bucketSum), .int (zi c_t_gradeSum)])), (a_t_buckets, zI J 96 f_t_buckets), (a_t_grades, zI J 96 f_t_grades), (a_t_heights, zI J 16 f_t_heights)] [] 55 []) : ∀ (N : Nat) (v3 : Int) (v4 : Int), sh_X0_bucketsAboveWaste_L5 F p0 p1 f_t_buckets f_t_grades f_t_heights k N v3 v4 = some res → Z p l e ({ frames := 0, cells := 0, slots := 0, locals := 0 } : Room) s m args below meth c (MQ below (zQ D J A (fun rv w9 => rv = some (.int (zi res)) ∧ w9 = [(a_t, .inr (0, [.ref a_t_buckets, .ref a_t_grades, .ref a_t_heights, .ref a_t_drawn, .int (zi c_t_limit), .int (zi c_t_hungSet), .int (zi c_t_bucketSum), .int (zi c_t_gradeSum)])), (a_t_buckets, zI J 96 f_t_buckets), (a_t_grades, zI J 96 f_t_grades), (a_t_heights, zI J 16 f_t_heights)])) args s 0 0 A) cX0_bucketsAboveWaste 5 wsX0_bucketsAboveWaste RX0 D J A (some .int) (yX0_bucketsAboveWaste.name, []) 0 0 [(a_t, .inr (0, [.ref a_t_buckets, .ref a_t_grades, .ref a_t_heights, .ref a_t_drawn, .int (zi c_t_limit), .int (zi c_t_hungSet), .int (zi c_t_bucketSum), .int (zi c_t_gradeSum)])), (a_t_buckets, zI J 96 f_t_buckets), (a_t_grades, zI J 96 f_t_grades), (a_t_heights, zI J 16 f_t_heights)] [(0, .ref a_t), (1, .int (zi p0)), (2, .int (zi p1)), (3, .int (zi v3)), (4, .int (zi v4))] 5 [] := by
  intro N
  induction N with
  | zero =>
    intro v3 v4 hsh
    exact absurd hsh (by simp [sh_X0_bucketsAboveWaste_L5])
  | succ N ih =>
    intro v3 v4 hsh
    rw [sh_X0_bucketsAboveWaste_L5] at hsh
    refine z_iload (pc' := 7) 4 dX0_bucketsAboveWaste_5 rfl rfl ?_
    refine z_aload_n (pc' := 8) 0 dX0_bucketsAboveWaste_7 rfl rfl rfl ?_
    refine z_getfield (pc' := 11) (C := RX0) (T := TX0) (N := 8) 0 2 dX0_bucketsAboveWaste_8 iX0_bucketsAboveWaste_X0 rfl rfl (by decide) mX0_bucketsAboveWaste_f18 rfl rfl ?_
    refine z_iload_n (pc' := 12) 1 dX0_bucketsAboveWaste_11 rfl rfl rfl ?_
    have g5 := zkx_p hsh
    replace hsh := zkx_k hsh
    refine z_iaload (pc' := 13) 3 dX0_bucketsAboveWaste_12 rfl (by decide) g5 rfl ?_
    have g6 := zkr_p hsh
    replace hsh := zkr_k hsh
    have g7 := zkr_p hsh
    replace hsh := zkr_k hsh
    refine z_icmp_ge (pc' := 16) (tgt := 55) dX0_bucketsAboveWaste_13 (by decide) g6 g7 rfl (fun q => ?_) (fun q => ?_)
    · replace hsh := zif_f q hsh
      refine z_perm [(a_t, .inr (0, [.ref a_t_buckets, .ref a_t_grades, .ref a_t_heights, .ref a_t_drawn, .int (zi c_t_limit), .int (zi c_t_hungSet), .int (zi c_t_bucketSum), .int (zi c_t_gradeSum)])), (a_t_buckets, zI J 96 f_t_buckets), (a_t_grades, zI J 96 f_t_grades), (a_t_heights, zI J 16 f_t_heights)] [] [0, 1, 2, 3] [] rfl rfl rfl ?_
      exact hk _ _ hsh
    · replace hsh := zif_t q hsh
      refine z_aload_n (pc' := 17) 0 dX0_bucketsAboveWaste_16 rfl rfl rfl ?_
      refine z_getfield (pc' := 20) (C := RX0) (T := TX0) (N := 8) 0 1 dX0_bucketsAboveWaste_17 iX0_bucketsAboveWaste_X0 rfl rfl (by decide) mX0_bucketsAboveWaste_f15 rfl rfl ?_
      refine z_iload_n (pc' := 21) 1 dX0_bucketsAboveWaste_20 rfl rfl rfl ?_
      refine z_bipush (pc' := 23) dX0_bucketsAboveWaste_21 (by decide) rfl ?_
      refine z_imul (pc' := 24) dX0_bucketsAboveWaste_23 rfl ?_
      refine z_iload (pc' := 26) 4 dX0_bucketsAboveWaste_24 rfl rfl ?_
      refine z_iadd (pc' := 27) dX0_bucketsAboveWaste_26 rfl ?_
      have g8 := zkx_p hsh
      replace hsh := zkx_k hsh
      refine z_iaload (pc' := 28) 2 dX0_bucketsAboveWaste_27 rfl (by decide) g8 rfl ?_
      refine z_iload_n (pc' := 29) 2 dX0_bucketsAboveWaste_28 rfl rfl rfl ?_
      have g9 := zkr_p hsh
      replace hsh := zkr_k hsh
      have g10 := zkr_p hsh
      replace hsh := zkr_k hsh
      refine z_icmp_ge (pc' := 32) (tgt := 34) dX0_bucketsAboveWaste_29 (by decide) g9 g10 rfl (fun q => ?_) (fun q => ?_)
      · replace hsh := zif_f q hsh
        refine z_iload_n (pc' := 35) 3 dX0_bucketsAboveWaste_34 rfl rfl rfl ?_
        refine z_aload_n (pc' := 36) 0 dX0_bucketsAboveWaste_35 rfl rfl rfl ?_
        refine z_getfield (pc' := 39) (C := RX0) (T := TX0) (N := 8) 0 0 dX0_bucketsAboveWaste_36 iX0_bucketsAboveWaste_X0 rfl rfl (by decide) mX0_bucketsAboveWaste_f9 rfl rfl ?_
        refine z_iload_n (pc' := 40) 1 dX0_bucketsAboveWaste_39 rfl rfl rfl ?_
        refine z_bipush (pc' := 42) dX0_bucketsAboveWaste_40 (by decide) rfl ?_
        refine z_imul (pc' := 43) dX0_bucketsAboveWaste_42 rfl ?_
        refine z_iload (pc' := 45) 4 dX0_bucketsAboveWaste_43 rfl rfl ?_
        refine z_iadd (pc' := 46) dX0_bucketsAboveWaste_45 rfl ?_
        refine z_iaload (pc' := 47) 1 dX0_bucketsAboveWaste_46 rfl (by decide) g8 rfl ?_
        refine z_iadd (pc' := 48) dX0_bucketsAboveWaste_47 rfl ?_
        refine z_istore_n (pc' := 49) [(3, .int (zi (v3 + (f_t_buckets (((p0 * (6 : Int)) + v4)).toNat)))), (0, .ref a_t), (1, .int (zi p0)), (2, .int (zi p1)), (4, .int (zi v4))] dX0_bucketsAboveWaste_48 rfl (by decide) rfl rfl ?_
        refine z_iinc (pc' := 52) [(4, .int (zi (v4 + (1 : Int)))), (3, .int (zi (v3 + (f_t_buckets (((p0 * (6 : Int)) + v4)).toNat)))), (0, .ref a_t), (1, .int (zi p0)), (2, .int (zi p1))] 4 dX0_bucketsAboveWaste_49 rfl (by decide) rfl rfl ?_
        refine z_goto (tgt := 5) dX0_bucketsAboveWaste_52 (by decide) ?_
        refine z_perm [(a_t, .inr (0, [.ref a_t_buckets, .ref a_t_grades, .ref a_t_heights, .ref a_t_drawn, .int (zi c_t_limit), .int (zi c_t_hungSet), .int (zi c_t_bucketSum), .int (zi c_t_gradeSum)])), (a_t_buckets, zI J 96 f_t_buckets), (a_t_grades, zI J 96 f_t_grades), (a_t_heights, zI J 16 f_t_heights)] [(0, .ref a_t), (1, .int (zi p0)), (2, .int (zi p1)), (3, .int (zi (v3 + (f_t_buckets (((p0 * (6 : Int)) + v4)).toNat)))), (4, .int (zi (v4 + (1 : Int))))] [0, 1, 2, 3] [2, 3, 4, 1, 0] rfl rfl rfl ?_
        exact ih _ _ hsh
      · replace hsh := zif_t q hsh
        refine z_iload_n (pc' := 33) 3 dX0_bucketsAboveWaste_32 rfl rfl rfl ?_
        cases hsh
        exact z_iret rfl dX0_bucketsAboveWaste_33 ⟨rfl, rfl⟩
set_option maxRecDepth 100000 in
set_option maxHeartbeats 4000000 in
theorem zc_X0_bucketsAboveWaste (l : Launch) (D : va_G) (J : Nat → ClassId) (F : Nat) (a_t : Nat) (a_t_buckets : Nat) (a_t_grades : Nat) (a_t_heights : Nat) (a_t_drawn : Nat) (c_t_limit : Int) (c_t_hungSet : Int) (c_t_bucketSum : Int) (c_t_gradeSum : Int) (f_t_buckets : Nat → Int) (f_t_grades : Nat → Int) (f_t_heights : Nat → Int) (p0 : Int) (p1 : Int) (res : Int) (hsh : sh_X0_bucketsAboveWaste F f_t_buckets f_t_grades f_t_heights p0 p1 = some res) : ZM l D J yX0_bucketsAboveWaste wsX0_bucketsAboveWaste ({ frames := 0, cells := 0, slots := 0, locals := 0 } : Room) 0 0 [.ref a_t, .int (zi p0), .int (zi p1)] [(a_t, .inr (0, [.ref a_t_buckets, .ref a_t_grades, .ref a_t_heights, .ref a_t_drawn, .int (zi c_t_limit), .int (zi c_t_hungSet), .int (zi c_t_bucketSum), .int (zi c_t_gradeSum)])), (a_t_buckets, zI J 96 f_t_buckets), (a_t_grades, zI J 96 f_t_grades), (a_t_heights, zI J 16 f_t_heights)] (fun rv w9 => rv = some (.int (zi res)) ∧ w9 = [(a_t, .inr (0, [.ref a_t_buckets, .ref a_t_grades, .ref a_t_heights, .ref a_t_drawn, .int (zi c_t_limit), .int (zi c_t_hungSet), .int (zi c_t_bucketSum), .int (zi c_t_gradeSum)])), (a_t_buckets, zI J 96 f_t_buckets), (a_t_grades, zI J 96 f_t_grades), (a_t_heights, zI J 16 f_t_heights)]) := by
  refine z_ofZ (cc := cX0_bucketsAboveWaste) (maxL := 5) (ret := (some .int)) 0 0 (by decide) rfl (Nat.le_of_ble_eq_true rfl) [(0, .ref a_t), (1, .int (zi p0)), (2, .int (zi p1))] rfl ?_
  intro p e s m args below meth c A
  unfold sh_X0_bucketsAboveWaste at hsh
  refine z_iconst (pc' := 1) dX0_bucketsAboveWaste_0 rfl ?_
  refine z_istore_n (pc' := 2) [(3, .int (zi (0 : Int))), (0, .ref a_t), (1, .int (zi p0)), (2, .int (zi p1))] dX0_bucketsAboveWaste_1 rfl (by decide) rfl rfl ?_
  refine z_iconst (pc' := 3) dX0_bucketsAboveWaste_2 rfl ?_
  refine z_istore (pc' := 5) [(4, .int (zi (0 : Int))), (3, .int (zi (0 : Int))), (0, .ref a_t), (1, .int (zi p0)), (2, .int (zi p1))] dX0_bucketsAboveWaste_3 (by decide) rfl rfl ?_
  refine z_perm [(a_t, .inr (0, [.ref a_t_buckets, .ref a_t_grades, .ref a_t_heights, .ref a_t_drawn, .int (zi c_t_limit), .int (zi c_t_hungSet), .int (zi c_t_bucketSum), .int (zi c_t_gradeSum)])), (a_t_buckets, zI J 96 f_t_buckets), (a_t_grades, zI J 96 f_t_grades), (a_t_heights, zI J 16 f_t_heights)] [(0, .ref a_t), (1, .int (zi p0)), (2, .int (zi p1)), (3, .int (zi (0 : Int))), (4, .int (zi (0 : Int)))] [0, 1, 2, 3] [2, 3, 4, 1, 0] rfl rfl rfl ?_
  refine zl_X0_bucketsAboveWaste_L5 (F := F) (hk := fun v11 v12 hsh => ?_) _ _ _ hsh
  refine z_bipush (pc' := 57) dX0_bucketsAboveWaste_55 (by decide) rfl ?_
  cases hsh
  exact z_iret rfl dX0_bucketsAboveWaste_57 ⟨rfl, rfl⟩
