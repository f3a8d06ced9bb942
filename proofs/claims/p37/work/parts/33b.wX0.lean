def sh_X0_fewestFor_L6 (F : Nat) (p1 : Int) (p2 : Int) (c_t_limit : Int) (c_t_hungSet : Int) (f_t_buckets : Nat → Int) (f_t_heights : Nat → Int) (f_t_drawn : Nat → Int) (c_p0_size : Int) (f_p0_rowOf : Nat → Int) (f_p0_columnOf : Nat → Int) (k : Int → Int → Option (Int)) : Nat → Int → Int → Option (Int)
  | 0, _, _ => none
  | N + 1, v3, v4 => (sh_X2_size F c_p0_size).bind (fun (q5 : Int) => zkr v4 (zkr q5 (if v4 < q5 then zkx p1 16 ((sh_X2_distance F f_p0_rowOf f_p0_columnOf p1 v4).bind (fun (q10 : Int) => zkx v4 16 (zkr ((((f_t_drawn (p1).toNat) + p2) - (c_t_limit * q10)) - (f_t_drawn (v4).toNat)) (if (0 : Int) < ((((f_t_drawn (p1).toNat) + p2) - (c_t_limit * q10)) - (f_t_drawn (v4).toNat)) then (sh_X0_hangs F c_t_hungSet v4).bind (fun (q14 : Int) => zkr q14 (if q14 = (0 : Int) then (sh_X0_leftIn F f_t_buckets f_t_heights v4).bind (fun (q17 : Int) => zkr q17 (if q17 < ((((f_t_drawn (p1).toNat) + p2) - (c_t_limit * q10)) - (f_t_drawn (v4).toNat)) then some ((-9 : Int)) else sh_X0_fewestFor_L6 F p1 p2 c_t_limit c_t_hungSet f_t_buckets f_t_heights f_t_drawn c_p0_size f_p0_rowOf f_p0_columnOf k N (v3 + ((((f_t_drawn (p1).toNat) + p2) - (c_t_limit * q10)) - (f_t_drawn (v4).toNat))) (v4 + (1 : Int)))) else some ((-9 : Int)))) else sh_X0_fewestFor_L6 F p1 p2 c_t_limit c_t_hungSet f_t_buckets f_t_heights f_t_drawn c_p0_size f_p0_rowOf f_p0_columnOf k N v3 (v4 + (1 : Int)))))) else k v3 v4)))
def sh_X0_fewestFor (F : Nat) (c_t_limit : Int) (c_t_hungSet : Int) (f_t_buckets : Nat → Int) (f_t_heights : Nat → Int) (f_t_drawn : Nat → Int) (c_p0_size : Int) (f_p0_rowOf : Nat → Int) (f_p0_columnOf : Nat → Int) (p1 : Int) (p2 : Int) : Option (Int) := sh_X0_fewestFor_L6 F p1 p2 c_t_limit c_t_hungSet f_t_buckets f_t_heights f_t_drawn c_p0_size f_p0_rowOf f_p0_columnOf (fun (v20 : Int) (v21 : Int) => some (v20)) F (0 : Int) (0 : Int)
theorem mX0_fewestFor_f21 : Cond.fieldLink RX0 21 (TX0 3).1 (TX0 3).2.1 (TX0 3).2.2.1 ∈ wsX0_fewestFor := List.mem_of_getElem? (i := 1) rfl
theorem iX0_fewestFor_X0 : ∀ w ∈ wsX00, w ∈ wsX0_fewestFor := fun _ h => (List.mem_cons_of_mem _ (List.mem_append_left _ (List.mem_append_right _ h)))
theorem mX0_fewestFor_f30 : Cond.fieldLink RX0 30 (TX0 4).1 (TX0 4).2.1 (TX0 4).2.2.1 ∈ wsX0_fewestFor := List.mem_of_getElem? (i := 2) rfl
set_option maxRecDepth 100000 in
set_option maxHeartbeats 4000000 in
theorem zl_X0_fewestFor_L6 {p : Program} {l : Launch} {e : Env} {s : State} {m : MethodId} {args : Array Value} {below : List Frame} {meth : Method} {c : Code} {A : Nat → Prop} {D : va_G} {J : Nat → ClassId} {F : Nat} {p1 : Int} {p2 : Int} {c_t_limit : Int} {c_t_hungSet : Int} {f_t_buckets : Nat → Int} {f_t_heights : Nat → Int} {f_t_drawn : Nat → Int} {c_p0_size : Int} {f_p0_rowOf : Nat → Int} {f_p0_columnOf : Nat → Int} {a_t : Nat} {a_t_buckets : Nat} {a_t_grades : Nat} {a_t_heights : Nat} {a_t_drawn : Nat} {c_t_bucketSum : Int} {c_t_gradeSum : Int} {a_p0 : Nat} {a_p0_rowOf : Nat} {a_p0_columnOf : Nat} {a_p0_neighbours : Nat} {a_p0_neighbourCount : Nat} {res : Int} {k : Int → Int → Option (Int)} (hk : ∀ (v3' : Int) (v4' : Int), k v3' v4' = some res → Z p l e ({ frames := 2, cells := 0, slots := 0, locals := 43 } : Room) s m args below meth c (MQ below (zQ D J A (fun rv w9 => rv = some (.int (zi res)) ∧ w9 = [(a_t, .inr (0, [.ref a_t_buckets, .ref a_t_grades, .ref a_t_heights, .ref a_t_drawn, .int (zi c_t_limit), .int (zi c_t_hungSet), .int (zi c_t_bucketSum), .int (zi c_t_gradeSum)])), (a_t_buckets, zI J 96 f_t_buckets), (a_t_heights, zI J 16 f_t_heights), (a_t_drawn, zI J 16 f_t_drawn), (a_p0, .inr (2, [.ref a_p0_rowOf, .ref a_p0_columnOf, .ref a_p0_neighbours, .ref a_p0_neighbourCount, .int (zi c_p0_size)])), (a_p0_rowOf, zI J 16 f_p0_rowOf), (a_p0_columnOf, zI J 16 f_p0_columnOf)])) args s 0 0 A) cX0_fewestFor 7 wsX0_fewestFor RX0 D J A (some .int) (yX0_fewestFor.name, []) 0 0 [(a_t, .inr (0, [.ref a_t_buckets, .ref a_t_grades, .ref a_t_heights, .ref a_t_drawn, .int (zi c_t_limit), .int (zi c_t_hungSet), .int (zi c_t_bucketSum), .int (zi c_t_gradeSum)])), (a_t_buckets, zI J 96 f_t_buckets), (a_t_heights, zI J 16 f_t_heights), (a_t_drawn, zI J 16 f_t_drawn), (a_p0, .inr (2, [.ref a_p0_rowOf, .ref a_p0_columnOf, .ref a_p0_neighbours, .ref a_p0_neighbourCount, .int (zi c_p0_size)])), (a_p0_rowOf, zI J 16 f_p0_rowOf), (a_p0_columnOf, zI J 16 f_p0_columnOf)] [(4, .int (zi v3'))] 87 []) : ∀ (N : Nat) (v3 : Int) (v4 : Int), sh_X0_fewestFor_L6 F p1 p2 c_t_limit c_t_hungSet f_t_buckets f_t_heights f_t_drawn c_p0_size f_p0_rowOf f_p0_columnOf k N v3 v4 = some res → Z p l e ({ frames := 2, cells := 0, slots := 0, locals := 43 } : Room) s m args below meth c (MQ below (zQ D J A (fun rv w9 => rv = some (.int (zi res)) ∧ w9 = [(a_t, .inr (0, [.ref a_t_buckets, .ref a_t_grades, .ref a_t_heights, .ref a_t_drawn, .int (zi c_t_limit), .int (zi c_t_hungSet), .int (zi c_t_bucketSum), .int (zi c_t_gradeSum)])), (a_t_buckets, zI J 96 f_t_buckets), (a_t_heights, zI J 16 f_t_heights), (a_t_drawn, zI J 16 f_t_drawn), (a_p0, .inr (2, [.ref a_p0_rowOf, .ref a_p0_columnOf, .ref a_p0_neighbours, .ref a_p0_neighbourCount, .int (zi c_p0_size)])), (a_p0_rowOf, zI J 16 f_p0_rowOf), (a_p0_columnOf, zI J 16 f_p0_columnOf)])) args s 0 0 A) cX0_fewestFor 7 wsX0_fewestFor RX0 D J A (some .int) (yX0_fewestFor.name, []) 0 0 [(a_t, .inr (0, [.ref a_t_buckets, .ref a_t_grades, .ref a_t_heights, .ref a_t_drawn, .int (zi c_t_limit), .int (zi c_t_hungSet), .int (zi c_t_bucketSum), .int (zi c_t_gradeSum)])), (a_t_buckets, zI J 96 f_t_buckets), (a_t_heights, zI J 16 f_t_heights), (a_t_drawn, zI J 16 f_t_drawn), (a_p0, .inr (2, [.ref a_p0_rowOf, .ref a_p0_columnOf, .ref a_p0_neighbours, .ref a_p0_neighbourCount, .int (zi c_p0_size)])), (a_p0_rowOf, zI J 16 f_p0_rowOf), (a_p0_columnOf, zI J 16 f_p0_columnOf)] [(0, .ref a_t), (1, .ref a_p0), (2, .int (zi p1)), (3, .int (zi p2)), (4, .int (zi v3)), (5, .int (zi v4))] 6 [] := by
  intro N
  induction N with
  | zero =>
    intro v3 v4 hsh
    exact absurd hsh (by simp [sh_X0_fewestFor_L6])
  | succ N ih =>
    intro v3 v4 hsh
    rw [sh_X0_fewestFor_L6] at hsh
    refine z_iload (pc' := 8) 5 dX0_fewestFor_6 rfl rfl ?_
    refine z_aload_n (pc' := 9) 1 dX0_fewestFor_8 rfl rfl rfl ?_
    obtain ⟨q5, h6, hsh⟩ := zbind hsh
    refine z_callV (pc' := 12) (C := RX2) (As := []) (rest := [.int (zi v4)]) (wr := [(a_t, .inr (0, [.ref a_t_buckets, .ref a_t_grades, .ref a_t_heights, .ref a_t_drawn, .int (zi c_t_limit), .int (zi c_t_hungSet), .int (zi c_t_bucketSum), .int (zi c_t_gradeSum)])), (a_t_buckets, zI J 96 f_t_buckets), (a_t_heights, zI J 16 f_t_heights), (a_t_drawn, zI J 16 f_t_drawn), (a_p0_rowOf, zI J 16 f_p0_rowOf), (a_p0_columnOf, zI J 16 f_p0_columnOf)]) 0 (zc_X2_size l D J F (a_t := a_p0) (a_t_rowOf := a_p0_rowOf) (a_t_columnOf := a_p0_columnOf) (a_t_neighbours := a_p0_neighbours) (a_t_neighbourCount := a_p0_neighbourCount) (c_t_size := c_p0_size)  q5 h6) dX0_fewestFor_9 gX0_fewestFor_X2_size rfl rfl rfl (by decide +kernel) ⟨Nat.le_of_ble_eq_true rfl, Nat.le_of_ble_eq_true rfl⟩ ⟨Nat.le_of_ble_eq_true rfl, Nat.le_of_ble_eq_true rfl⟩ (z_spl_of [4, 0, 1, 2, 3, 5, 6] rfl rfl) rfl rfl rfl rfl (Nat.le_of_ble_eq_true rfl) rfl (fun rv w9 hq => ?_)
    obtain ⟨rfl, rfl⟩ := hq
    refine z_ws [(a_t, .inr (0, [.ref a_t_buckets, .ref a_t_grades, .ref a_t_heights, .ref a_t_drawn, .int (zi c_t_limit), .int (zi c_t_hungSet), .int (zi c_t_bucketSum), .int (zi c_t_gradeSum)])), (a_t_buckets, zI J 96 f_t_buckets), (a_t_heights, zI J 16 f_t_heights), (a_t_drawn, zI J 16 f_t_drawn), (a_p0_rowOf, zI J 16 f_p0_rowOf), (a_p0_columnOf, zI J 16 f_p0_columnOf), (a_p0, .inr (2, [.ref a_p0_rowOf, .ref a_p0_columnOf, .ref a_p0_neighbours, .ref a_p0_neighbourCount, .int (zi c_p0_size)]))] rfl ?_
    have g7 := zkr_p hsh
    replace hsh := zkr_k hsh
    have g8 := zkr_p hsh
    replace hsh := zkr_k hsh
    refine z_icmp_ge (pc' := 15) (tgt := 87) dX0_fewestFor_12 (by decide) g7 g8 rfl (fun q => ?_) (fun q => ?_)
    · replace hsh := zif_f q hsh
      refine z_perm [(a_t, .inr (0, [.ref a_t_buckets, .ref a_t_grades, .ref a_t_heights, .ref a_t_drawn, .int (zi c_t_limit), .int (zi c_t_hungSet), .int (zi c_t_bucketSum), .int (zi c_t_gradeSum)])), (a_t_buckets, zI J 96 f_t_buckets), (a_t_heights, zI J 16 f_t_heights), (a_t_drawn, zI J 16 f_t_drawn), (a_p0, .inr (2, [.ref a_p0_rowOf, .ref a_p0_columnOf, .ref a_p0_neighbours, .ref a_p0_neighbourCount, .int (zi c_p0_size)])), (a_p0_rowOf, zI J 16 f_p0_rowOf), (a_p0_columnOf, zI J 16 f_p0_columnOf)] [(4, .int (zi v3))] [0, 1, 2, 3, 6, 4, 5] [4] rfl rfl rfl ?_
      exact hk _ _ hsh
    · replace hsh := zif_t q hsh
      refine z_aload_n (pc' := 16) 0 dX0_fewestFor_15 rfl rfl rfl ?_
      refine z_getfield (pc' := 19) (C := RX0) (T := TX0) (N := 8) 0 3 dX0_fewestFor_16 iX0_fewestFor_X0 rfl rfl (by decide) mX0_fewestFor_f21 rfl rfl ?_
      refine z_iload_n (pc' := 20) 2 dX0_fewestFor_19 rfl rfl rfl ?_
      have g9 := zkx_p hsh
      replace hsh := zkx_k hsh
      refine z_iaload (pc' := 21) 3 dX0_fewestFor_20 rfl (by decide) g9 rfl ?_
      refine z_iload_n (pc' := 22) 3 dX0_fewestFor_21 rfl rfl rfl ?_
      refine z_iadd (pc' := 23) dX0_fewestFor_22 rfl ?_
      refine z_aload_n (pc' := 24) 0 dX0_fewestFor_23 rfl rfl rfl ?_
      refine z_getfield (pc' := 27) (C := RX0) (T := TX0) (N := 8) 0 4 dX0_fewestFor_24 iX0_fewestFor_X0 rfl rfl (by decide) mX0_fewestFor_f30 rfl rfl ?_
      refine z_aload_n (pc' := 28) 1 dX0_fewestFor_27 rfl rfl rfl ?_
      refine z_iload_n (pc' := 29) 2 dX0_fewestFor_28 rfl rfl rfl ?_
      refine z_iload (pc' := 31) 5 dX0_fewestFor_29 rfl rfl ?_
      obtain ⟨q10, h11, hsh⟩ := zbind hsh
      refine z_callV (pc' := 34) (C := RX2) (As := [.int (zi p1), .int (zi v4)]) (rest := [.int (zi c_t_limit), .int (zi ((f_t_drawn (p1).toNat) + p2))]) (wr := [(a_t, .inr (0, [.ref a_t_buckets, .ref a_t_grades, .ref a_t_heights, .ref a_t_drawn, .int (zi c_t_limit), .int (zi c_t_hungSet), .int (zi c_t_bucketSum), .int (zi c_t_gradeSum)])), (a_t_buckets, zI J 96 f_t_buckets), (a_t_heights, zI J 16 f_t_heights), (a_t_drawn, zI J 16 f_t_drawn)]) 2 (zc_X2_distance l D J F (a_t := a_p0) (a_t_rowOf := a_p0_rowOf) (a_t_columnOf := a_p0_columnOf) (a_t_neighbours := a_p0_neighbours) (a_t_neighbourCount := a_p0_neighbourCount) (c_t_size := c_p0_size) (f_t_rowOf := f_p0_rowOf) (f_t_columnOf := f_p0_columnOf) (p0 := p1) (p1 := v4)  q10 h11) dX0_fewestFor_31 gX0_fewestFor_X2_distance rfl rfl rfl (by decide +kernel) ⟨Nat.le_of_ble_eq_true rfl, Nat.le_of_ble_eq_true rfl⟩ ⟨Nat.le_of_ble_eq_true rfl, Nat.le_of_ble_eq_true rfl⟩ (z_spl_of [6, 4, 5, 0, 1, 2, 3] rfl rfl) rfl rfl rfl rfl (Nat.le_of_ble_eq_true rfl) rfl (fun rv w9 hq => ?_)
      obtain ⟨rfl, rfl⟩ := hq
      refine z_ws [(a_t, .inr (0, [.ref a_t_buckets, .ref a_t_grades, .ref a_t_heights, .ref a_t_drawn, .int (zi c_t_limit), .int (zi c_t_hungSet), .int (zi c_t_bucketSum), .int (zi c_t_gradeSum)])), (a_t_buckets, zI J 96 f_t_buckets), (a_t_heights, zI J 16 f_t_heights), (a_t_drawn, zI J 16 f_t_drawn), (a_p0, .inr (2, [.ref a_p0_rowOf, .ref a_p0_columnOf, .ref a_p0_neighbours, .ref a_p0_neighbourCount, .int (zi c_p0_size)])), (a_p0_rowOf, zI J 16 f_p0_rowOf), (a_p0_columnOf, zI J 16 f_p0_columnOf)] rfl ?_
      refine z_imul (pc' := 35) dX0_fewestFor_34 rfl ?_
      refine z_isub (pc' := 36) dX0_fewestFor_35 rfl ?_
      refine z_aload_n (pc' := 37) 0 dX0_fewestFor_36 rfl rfl rfl ?_
      refine z_getfield (pc' := 40) (C := RX0) (T := TX0) (N := 8) 0 3 dX0_fewestFor_37 iX0_fewestFor_X0 rfl rfl (by decide) mX0_fewestFor_f21 rfl rfl ?_
      refine z_iload (pc' := 42) 5 dX0_fewestFor_40 rfl rfl ?_
      have g12 := zkx_p hsh
      replace hsh := zkx_k hsh
      refine z_iaload (pc' := 43) 3 dX0_fewestFor_42 rfl (by decide) g12 rfl ?_
      refine z_isub (pc' := 44) dX0_fewestFor_43 rfl ?_
      refine z_istore (pc' := 46) [(6, .int (zi ((((f_t_drawn (p1).toNat) + p2) - (c_t_limit * q10)) - (f_t_drawn (v4).toNat)))), (0, .ref a_t), (1, .ref a_p0), (2, .int (zi p1)), (3, .int (zi p2)), (4, .int (zi v3)), (5, .int (zi v4))] dX0_fewestFor_44 (by decide) rfl rfl ?_
      refine z_iload (pc' := 48) 0 dX0_fewestFor_46 rfl rfl ?_
      have g13 := zkr_p hsh
      replace hsh := zkr_k hsh
      refine z_if_le (pc' := 51) (tgt := 81) dX0_fewestFor_48 (by decide) g13 rfl (fun q => ?_) (fun q => ?_)
      · replace hsh := zif_f q hsh
        refine z_iinc (pc' := 84) [(5, .int (zi (v4 + (1 : Int)))), (6, .int (zi ((((f_t_drawn (p1).toNat) + p2) - (c_t_limit * q10)) - (f_t_drawn (v4).toNat)))), (0, .ref a_t), (1, .ref a_p0), (2, .int (zi p1)), (3, .int (zi p2)), (4, .int (zi v3))] 6 dX0_fewestFor_81 rfl (by decide) rfl rfl ?_
        refine z_goto (tgt := 6) dX0_fewestFor_84 (by decide) ?_
        refine z_perm [(a_t, .inr (0, [.ref a_t_buckets, .ref a_t_grades, .ref a_t_heights, .ref a_t_drawn, .int (zi c_t_limit), .int (zi c_t_hungSet), .int (zi c_t_bucketSum), .int (zi c_t_gradeSum)])), (a_t_buckets, zI J 96 f_t_buckets), (a_t_heights, zI J 16 f_t_heights), (a_t_drawn, zI J 16 f_t_drawn), (a_p0, .inr (2, [.ref a_p0_rowOf, .ref a_p0_columnOf, .ref a_p0_neighbours, .ref a_p0_neighbourCount, .int (zi c_p0_size)])), (a_p0_rowOf, zI J 16 f_p0_rowOf), (a_p0_columnOf, zI J 16 f_p0_columnOf)] [(0, .ref a_t), (1, .ref a_p0), (2, .int (zi p1)), (3, .int (zi p2)), (4, .int (zi v3)), (5, .int (zi (v4 + (1 : Int))))] [0, 1, 2, 3, 4, 5, 6] [2, 3, 4, 5, 6, 0] rfl rfl rfl ?_
        exact ih _ _ hsh
      · replace hsh := zif_t q hsh
        refine z_aload_n (pc' := 52) 1 dX0_fewestFor_51 rfl rfl rfl ?_
        refine z_iload (pc' := 54) 6 dX0_fewestFor_52 rfl rfl ?_
        obtain ⟨q14, h15, hsh⟩ := zbind hsh
        refine z_callV (pc' := 57) (C := RX0) (As := [.int (zi v4)]) (rest := []) (wr := [(a_t_buckets, zI J 96 f_t_buckets), (a_t_heights, zI J 16 f_t_heights), (a_t_drawn, zI J 16 f_t_drawn), (a_p0, .inr (2, [.ref a_p0_rowOf, .ref a_p0_columnOf, .ref a_p0_neighbours, .ref a_p0_neighbourCount, .int (zi c_p0_size)])), (a_p0_rowOf, zI J 16 f_p0_rowOf), (a_p0_columnOf, zI J 16 f_p0_columnOf)]) 1 (zc_X0_hangs l D J F (a_t := a_t) (a_t_buckets := a_t_buckets) (a_t_grades := a_t_grades) (a_t_heights := a_t_heights) (a_t_drawn := a_t_drawn) (c_t_limit := c_t_limit) (c_t_hungSet := c_t_hungSet) (c_t_bucketSum := c_t_bucketSum) (c_t_gradeSum := c_t_gradeSum) (p0 := v4)  q14 h15) dX0_fewestFor_54 gX0_fewestFor_X0_hangs rfl rfl rfl (by decide +kernel) ⟨Nat.le_of_ble_eq_true rfl, Nat.le_of_ble_eq_true rfl⟩ ⟨Nat.le_of_ble_eq_true rfl, Nat.le_of_ble_eq_true rfl⟩ (z_spl_of [0, 1, 2, 3, 4, 5, 6] rfl rfl) rfl rfl rfl rfl (Nat.le_of_ble_eq_true rfl) rfl (fun rv w9 hq => ?_)
        obtain ⟨rfl, rfl⟩ := hq
        refine z_ws [(a_t_buckets, zI J 96 f_t_buckets), (a_t_heights, zI J 16 f_t_heights), (a_t_drawn, zI J 16 f_t_drawn), (a_p0, .inr (2, [.ref a_p0_rowOf, .ref a_p0_columnOf, .ref a_p0_neighbours, .ref a_p0_neighbourCount, .int (zi c_p0_size)])), (a_p0_rowOf, zI J 16 f_p0_rowOf), (a_p0_columnOf, zI J 16 f_p0_columnOf), (a_t, .inr (0, [.ref a_t_buckets, .ref a_t_grades, .ref a_t_heights, .ref a_t_drawn, .int (zi c_t_limit), .int (zi c_t_hungSet), .int (zi c_t_bucketSum), .int (zi c_t_gradeSum)]))] rfl ?_
        have g16 := zkr_p hsh
        replace hsh := zkr_k hsh
        refine z_if_ne (pc' := 60) (tgt := 71) dX0_fewestFor_57 (by decide) g16 rfl (fun q => ?_) (fun q => ?_)
        · replace hsh := zif_f q hsh
          refine z_bipush (pc' := 73) dX0_fewestFor_71 (by decide) rfl ?_
          refine z_perm [(a_t, .inr (0, [.ref a_t_buckets, .ref a_t_grades, .ref a_t_heights, .ref a_t_drawn, .int (zi c_t_limit), .int (zi c_t_hungSet), .int (zi c_t_bucketSum), .int (zi c_t_gradeSum)])), (a_t_buckets, zI J 96 f_t_buckets), (a_t_heights, zI J 16 f_t_heights), (a_t_drawn, zI J 16 f_t_drawn), (a_p0, .inr (2, [.ref a_p0_rowOf, .ref a_p0_columnOf, .ref a_p0_neighbours, .ref a_p0_neighbourCount, .int (zi c_p0_size)])), (a_p0_rowOf, zI J 16 f_p0_rowOf), (a_p0_columnOf, zI J 16 f_p0_columnOf)] [(6, .int (zi ((((f_t_drawn (p1).toNat) + p2) - (c_t_limit * q10)) - (f_t_drawn (v4).toNat)))), (0, .ref a_t), (1, .ref a_p0), (2, .int (zi p1)), (3, .int (zi p2)), (4, .int (zi v3)), (5, .int (zi v4))] [6, 0, 1, 2, 3, 4, 5] [0, 1, 2, 3, 4, 5, 6] rfl rfl rfl ?_
          cases hsh
          exact z_iret rfl dX0_fewestFor_73 ⟨rfl, rfl⟩
        · replace hsh := zif_t q hsh
          refine z_aload_n (pc' := 61) 1 dX0_fewestFor_60 rfl rfl rfl ?_
          refine z_iload (pc' := 63) 6 dX0_fewestFor_61 rfl rfl ?_
          obtain ⟨q17, h18, hsh⟩ := zbind hsh
          refine z_callV (pc' := 66) (C := RX0) (As := [.int (zi v4)]) (rest := []) (wr := [(a_t_drawn, zI J 16 f_t_drawn), (a_p0, .inr (2, [.ref a_p0_rowOf, .ref a_p0_columnOf, .ref a_p0_neighbours, .ref a_p0_neighbourCount, .int (zi c_p0_size)])), (a_p0_rowOf, zI J 16 f_p0_rowOf), (a_p0_columnOf, zI J 16 f_p0_columnOf)]) 1 (zc_X0_leftIn l D J F (a_t := a_t) (a_t_buckets := a_t_buckets) (a_t_grades := a_t_grades) (a_t_heights := a_t_heights) (a_t_drawn := a_t_drawn) (c_t_limit := c_t_limit) (c_t_hungSet := c_t_hungSet) (c_t_bucketSum := c_t_bucketSum) (c_t_gradeSum := c_t_gradeSum) (f_t_buckets := f_t_buckets) (f_t_heights := f_t_heights) (p0 := v4)  q17 h18) dX0_fewestFor_63 gX0_fewestFor_X0_leftIn rfl rfl rfl (by decide +kernel) ⟨Nat.le_of_ble_eq_true rfl, Nat.le_of_ble_eq_true rfl⟩ ⟨Nat.le_of_ble_eq_true rfl, Nat.le_of_ble_eq_true rfl⟩ (z_spl_of [6, 0, 1, 2, 3, 4, 5] rfl rfl) rfl rfl rfl rfl (Nat.le_of_ble_eq_true rfl) rfl (fun rv w9 hq => ?_)
          obtain ⟨rfl, rfl⟩ := hq
          refine z_ws [(a_t_drawn, zI J 16 f_t_drawn), (a_p0, .inr (2, [.ref a_p0_rowOf, .ref a_p0_columnOf, .ref a_p0_neighbours, .ref a_p0_neighbourCount, .int (zi c_p0_size)])), (a_p0_rowOf, zI J 16 f_p0_rowOf), (a_p0_columnOf, zI J 16 f_p0_columnOf), (a_t, .inr (0, [.ref a_t_buckets, .ref a_t_grades, .ref a_t_heights, .ref a_t_drawn, .int (zi c_t_limit), .int (zi c_t_hungSet), .int (zi c_t_bucketSum), .int (zi c_t_gradeSum)])), (a_t_buckets, zI J 96 f_t_buckets), (a_t_heights, zI J 16 f_t_heights)] rfl ?_
          refine z_iload (pc' := 68) 0 dX0_fewestFor_66 rfl rfl ?_
          have g19 := zkr_p hsh
          replace hsh := zkr_k hsh
          refine z_icmp_ge (pc' := 71) (tgt := 74) dX0_fewestFor_68 (by decide) g19 g13 rfl (fun q => ?_) (fun q => ?_)
          · replace hsh := zif_f q hsh
            refine z_iload (pc' := 76) 5 dX0_fewestFor_74 rfl rfl ?_
            refine z_iload (pc' := 78) 0 dX0_fewestFor_76 rfl rfl ?_
            refine z_iadd (pc' := 79) dX0_fewestFor_78 rfl ?_
            refine z_istore (pc' := 81) [(4, .int (zi (v3 + ((((f_t_drawn (p1).toNat) + p2) - (c_t_limit * q10)) - (f_t_drawn (v4).toNat))))), (6, .int (zi ((((f_t_drawn (p1).toNat) + p2) - (c_t_limit * q10)) - (f_t_drawn (v4).toNat)))), (0, .ref a_t), (1, .ref a_p0), (2, .int (zi p1)), (3, .int (zi p2)), (5, .int (zi v4))] dX0_fewestFor_79 (by decide) rfl rfl ?_
            refine z_iinc (pc' := 84) [(5, .int (zi (v4 + (1 : Int)))), (4, .int (zi (v3 + ((((f_t_drawn (p1).toNat) + p2) - (c_t_limit * q10)) - (f_t_drawn (v4).toNat))))), (6, .int (zi ((((f_t_drawn (p1).toNat) + p2) - (c_t_limit * q10)) - (f_t_drawn (v4).toNat)))), (0, .ref a_t), (1, .ref a_p0), (2, .int (zi p1)), (3, .int (zi p2))] 6 dX0_fewestFor_81 rfl (by decide) rfl rfl ?_
            refine z_goto (tgt := 6) dX0_fewestFor_84 (by decide) ?_
            refine z_perm [(a_t, .inr (0, [.ref a_t_buckets, .ref a_t_grades, .ref a_t_heights, .ref a_t_drawn, .int (zi c_t_limit), .int (zi c_t_hungSet), .int (zi c_t_bucketSum), .int (zi c_t_gradeSum)])), (a_t_buckets, zI J 96 f_t_buckets), (a_t_heights, zI J 16 f_t_heights), (a_t_drawn, zI J 16 f_t_drawn), (a_p0, .inr (2, [.ref a_p0_rowOf, .ref a_p0_columnOf, .ref a_p0_neighbours, .ref a_p0_neighbourCount, .int (zi c_p0_size)])), (a_p0_rowOf, zI J 16 f_p0_rowOf), (a_p0_columnOf, zI J 16 f_p0_columnOf)] [(0, .ref a_t), (1, .ref a_p0), (2, .int (zi p1)), (3, .int (zi p2)), (4, .int (zi (v3 + ((((f_t_drawn (p1).toNat) + p2) - (c_t_limit * q10)) - (f_t_drawn (v4).toNat))))), (5, .int (zi (v4 + (1 : Int))))] [4, 5, 6, 0, 1, 2, 3] [3, 4, 5, 6, 1, 0] rfl rfl rfl ?_
            exact ih _ _ hsh
          · replace hsh := zif_t q hsh
            refine z_bipush (pc' := 73) dX0_fewestFor_71 (by decide) rfl ?_
            refine z_perm [(a_t, .inr (0, [.ref a_t_buckets, .ref a_t_grades, .ref a_t_heights, .ref a_t_drawn, .int (zi c_t_limit), .int (zi c_t_hungSet), .int (zi c_t_bucketSum), .int (zi c_t_gradeSum)])), (a_t_buckets, zI J 96 f_t_buckets), (a_t_heights, zI J 16 f_t_heights), (a_t_drawn, zI J 16 f_t_drawn), (a_p0, .inr (2, [.ref a_p0_rowOf, .ref a_p0_columnOf, .ref a_p0_neighbours, .ref a_p0_neighbourCount, .int (zi c_p0_size)])), (a_p0_rowOf, zI J 16 f_p0_rowOf), (a_p0_columnOf, zI J 16 f_p0_columnOf)] [(6, .int (zi ((((f_t_drawn (p1).toNat) + p2) - (c_t_limit * q10)) - (f_t_drawn (v4).toNat)))), (0, .ref a_t), (1, .ref a_p0), (2, .int (zi p1)), (3, .int (zi p2)), (4, .int (zi v3)), (5, .int (zi v4))] [4, 5, 6, 0, 1, 2, 3] [0, 1, 2, 3, 4, 5, 6] rfl rfl rfl ?_
            cases hsh
            exact z_iret rfl dX0_fewestFor_73 ⟨rfl, rfl⟩
set_option maxRecDepth 100000 in
set_option maxHeartbeats 4000000 in
theorem zc_X0_fewestFor (l : Launch) (D : va_G) (J : Nat → ClassId) (F : Nat) (a_t : Nat) (a_p0 : Nat) (a_t_buckets : Nat) (a_t_grades : Nat) (a_t_heights : Nat) (a_t_drawn : Nat) (a_p0_rowOf : Nat) (a_p0_columnOf : Nat) (a_p0_neighbours : Nat) (a_p0_neighbourCount : Nat) (c_t_limit : Int) (c_t_hungSet : Int) (c_t_bucketSum : Int) (c_t_gradeSum : Int) (f_t_buckets : Nat → Int) (f_t_heights : Nat → Int) (f_t_drawn : Nat → Int) (c_p0_size : Int) (f_p0_rowOf : Nat → Int) (f_p0_columnOf : Nat → Int) (p1 : Int) (p2 : Int) (res : Int) (hsh : sh_X0_fewestFor F c_t_limit c_t_hungSet f_t_buckets f_t_heights f_t_drawn c_p0_size f_p0_rowOf f_p0_columnOf p1 p2 = some res) : ZM l D J yX0_fewestFor wsX0_fewestFor ({ frames := 2, cells := 0, slots := 0, locals := 43 } : Room) 0 0 [.ref a_t, .ref a_p0, .int (zi p1), .int (zi p2)] [(a_t, .inr (0, [.ref a_t_buckets, .ref a_t_grades, .ref a_t_heights, .ref a_t_drawn, .int (zi c_t_limit), .int (zi c_t_hungSet), .int (zi c_t_bucketSum), .int (zi c_t_gradeSum)])), (a_t_buckets, zI J 96 f_t_buckets), (a_t_heights, zI J 16 f_t_heights), (a_t_drawn, zI J 16 f_t_drawn), (a_p0, .inr (2, [.ref a_p0_rowOf, .ref a_p0_columnOf, .ref a_p0_neighbours, .ref a_p0_neighbourCount, .int (zi c_p0_size)])), (a_p0_rowOf, zI J 16 f_p0_rowOf), (a_p0_columnOf, zI J 16 f_p0_columnOf)] (fun rv w9 => rv = some (.int (zi res)) ∧ w9 = [(a_t, .inr (0, [.ref a_t_buckets, .ref a_t_grades, .ref a_t_heights, .ref a_t_drawn, .int (zi c_t_limit), .int (zi c_t_hungSet), .int (zi c_t_bucketSum), .int (zi c_t_gradeSum)])), (a_t_buckets, zI J 96 f_t_buckets), (a_t_heights, zI J 16 f_t_heights), (a_t_drawn, zI J 16 f_t_drawn), (a_p0, .inr (2, [.ref a_p0_rowOf, .ref a_p0_columnOf, .ref a_p0_neighbours, .ref a_p0_neighbourCount, .int (zi c_p0_size)])), (a_p0_rowOf, zI J 16 f_p0_rowOf), (a_p0_columnOf, zI J 16 f_p0_columnOf)]) := by
  refine z_ofZ (cc := cX0_fewestFor) (maxL := 7) (ret := (some .int)) 0 0 (by decide) rfl (Nat.le_of_ble_eq_true rfl) [(0, .ref a_t), (1, .ref a_p0), (2, .int (zi p1)), (3, .int (zi p2))] rfl ?_
  intro p e s m args below meth c A
  unfold sh_X0_fewestFor at hsh
  refine z_iconst (pc' := 1) dX0_fewestFor_0 rfl ?_
  refine z_istore (pc' := 3) [(4, .int (zi (0 : Int))), (0, .ref a_t), (1, .ref a_p0), (2, .int (zi p1)), (3, .int (zi p2))] dX0_fewestFor_1 (by decide) rfl rfl ?_
  refine z_iconst (pc' := 4) dX0_fewestFor_3 rfl ?_
  refine z_istore (pc' := 6) [(5, .int (zi (0 : Int))), (4, .int (zi (0 : Int))), (0, .ref a_t), (1, .ref a_p0), (2, .int (zi p1)), (3, .int (zi p2))] dX0_fewestFor_4 (by decide) rfl rfl ?_
  refine z_perm [(a_t, .inr (0, [.ref a_t_buckets, .ref a_t_grades, .ref a_t_heights, .ref a_t_drawn, .int (zi c_t_limit), .int (zi c_t_hungSet), .int (zi c_t_bucketSum), .int (zi c_t_gradeSum)])), (a_t_buckets, zI J 96 f_t_buckets), (a_t_heights, zI J 16 f_t_heights), (a_t_drawn, zI J 16 f_t_drawn), (a_p0, .inr (2, [.ref a_p0_rowOf, .ref a_p0_columnOf, .ref a_p0_neighbours, .ref a_p0_neighbourCount, .int (zi c_p0_size)])), (a_p0_rowOf, zI J 16 f_p0_rowOf), (a_p0_columnOf, zI J 16 f_p0_columnOf)] [(0, .ref a_t), (1, .ref a_p0), (2, .int (zi p1)), (3, .int (zi p2)), (4, .int (zi (0 : Int))), (5, .int (zi (0 : Int)))] [0, 1, 2, 3, 4, 5, 6] [2, 3, 4, 5, 1, 0] rfl rfl rfl ?_
  refine zl_X0_fewestFor_L6 (F := F) (hk := fun v20 v21 hsh => ?_) _ _ _ hsh
  refine z_iload (pc' := 89) 0 dX0_fewestFor_87 rfl rfl ?_
  cases hsh
  exact z_iret rfl dX0_fewestFor_89 ⟨rfl, rfl⟩
def sh_X0_mostFeasible_L2 (F : Nat) (p1 : Int) (c_t_limit : Int) (c_t_hungSet : Int) (f_t_buckets : Nat → Int) (f_t_heights : Nat → Int) (f_t_drawn : Nat → Int) (c_p0_size : Int) (f_p0_rowOf : Nat → Int) (f_p0_columnOf : Nat → Int) (k : Int → Option (Int)) : Nat → Int → Option (Int)
  | 0, _ => none
  | N + 1, v2 => zkr v2 (if (54 : Int) < v2 then k v2 else (sh_X0_fewestFor F c_t_limit c_t_hungSet f_t_buckets f_t_heights f_t_drawn c_p0_size f_p0_rowOf f_p0_columnOf p1 v2).bind (fun (q4 : Int) => zkr q4 (if q4 = (-9 : Int) then some ((v2 - (1 : Int))) else sh_X0_mostFeasible_L2 F p1 c_t_limit c_t_hungSet f_t_buckets f_t_heights f_t_drawn c_p0_size f_p0_rowOf f_p0_columnOf k N (v2 + (1 : Int)))))
def sh_X0_mostFeasible (F : Nat) (c_t_limit : Int) (c_t_hungSet : Int) (f_t_buckets : Nat → Int) (f_t_heights : Nat → Int) (f_t_drawn : Nat → Int) (c_p0_size : Int) (f_p0_rowOf : Nat → Int) (f_p0_columnOf : Nat → Int) (p1 : Int) : Option (Int) := sh_X0_mostFeasible_L2 F p1 c_t_limit c_t_hungSet f_t_buckets f_t_heights f_t_drawn c_p0_size f_p0_rowOf f_p0_columnOf (fun (v7 : Int) => some ((54 : Int))) F (1 : Int)
set_option maxRecDepth 100000 in
set_option maxHeartbeats 4000000 in
theorem zl_X0_mostFeasible_L2 {p : Program} {l : Launch} {e : Env} {s : State} {m : MethodId} {args : Array Value} {below : List Frame} {meth : Method} {c : Code} {A : Nat → Prop} {D : va_G} {J : Nat → ClassId} {F : Nat} {p1 : Int} {c_t_limit : Int} {c_t_hungSet : Int} {f_t_buckets : Nat → Int} {f_t_heights : Nat → Int} {f_t_drawn : Nat → Int} {c_p0_size : Int} {f_p0_rowOf : Nat → Int} {f_p0_columnOf : Nat → Int} {a_t : Nat} {a_t_buckets : Nat} {a_t_grades : Nat} {a_t_heights : Nat} {a_t_drawn : Nat} {c_t_bucketSum : Int} {c_t_gradeSum : Int} {a_p0 : Nat} {a_p0_rowOf : Nat} {a_p0_columnOf : Nat} {a_p0_neighbours : Nat} {a_p0_neighbourCount : Nat} {res : Int} {k : Int → Option (Int)} (hk : ∀ (v2' : Int), k v2' = some res → Z p l e ({ frames := 3, cells := 0, slots := 0, locals := 69 } : Room) s m args below meth c (MQ below (zQ D J A (fun rv w9 => rv = some (.int (zi res)) ∧ w9 = [(a_t, .inr (0, [.ref a_t_buckets, .ref a_t_grades, .ref a_t_heights, .ref a_t_drawn, .int (zi c_t_limit), .int (zi c_t_hungSet), .int (zi c_t_bucketSum), .int (zi c_t_gradeSum)])), (a_t_buckets, zI J 96 f_t_buckets), (a_t_heights, zI J 16 f_t_heights), (a_t_drawn, zI J 16 f_t_drawn), (a_p0, .inr (2, [.ref a_p0_rowOf, .ref a_p0_columnOf, .ref a_p0_neighbours, .ref a_p0_neighbourCount, .int (zi c_p0_size)])), (a_p0_rowOf, zI J 16 f_p0_rowOf), (a_p0_columnOf, zI J 16 f_p0_columnOf)])) args s 0 0 A) cX0_mostFeasible 4 wsX0_mostFeasible RX0 D J A (some .int) (yX0_mostFeasible.name, []) 0 0 [(a_t, .inr (0, [.ref a_t_buckets, .ref a_t_grades, .ref a_t_heights, .ref a_t_drawn, .int (zi c_t_limit), .int (zi c_t_hungSet), .int (zi c_t_bucketSum), .int (zi c_t_gradeSum)])), (a_t_buckets, zI J 96 f_t_buckets), (a_t_heights, zI J 16 f_t_heights), (a_t_drawn, zI J 16 f_t_drawn), (a_p0, .inr (2, [.ref a_p0_rowOf, .ref a_p0_columnOf, .ref a_p0_neighbours, .ref a_p0_neighbourCount, .int (zi c_p0_size)])), (a_p0_rowOf, zI J 16 f_p0_rowOf), (a_p0_columnOf, zI J 16 f_p0_columnOf)] [] 30 []) : ∀ (N : Nat) (v2 : Int), sh_X0_mostFeasible_L2 F p1 c_t_limit c_t_hungSet f_t_buckets f_t_heights f_t_drawn c_p0_size f_p0_rowOf f_p0_columnOf k N v2 = some res → Z p l e ({ frames := 3, cells := 0, slots := 0, locals := 69 } : Room) s m args below meth c (MQ below (zQ D J A (fun rv w9 => rv = some (.int (zi res)) ∧ w9 = [(a_t, .inr (0, [.ref a_t_buckets, .ref a_t_grades, .ref a_t_heights, .ref a_t_drawn, .int (zi c_t_limit), .int (zi c_t_hungSet), .int (zi c_t_bucketSum), .int (zi c_t_gradeSum)])), (a_t_buckets, zI J 96 f_t_buckets), (a_t_heights, zI J 16 f_t_heights), (a_t_drawn, zI J 16 f_t_drawn), (a_p0, .inr (2, [.ref a_p0_rowOf, .ref a_p0_columnOf, .ref a_p0_neighbours, .ref a_p0_neighbourCount, .int (zi c_p0_size)])), (a_p0_rowOf, zI J 16 f_p0_rowOf), (a_p0_columnOf, zI J 16 f_p0_columnOf)])) args s 0 0 A) cX0_mostFeasible 4 wsX0_mostFeasible RX0 D J A (some .int) (yX0_mostFeasible.name, []) 0 0 [(a_t, .inr (0, [.ref a_t_buckets, .ref a_t_grades, .ref a_t_heights, .ref a_t_drawn, .int (zi c_t_limit), .int (zi c_t_hungSet), .int (zi c_t_bucketSum), .int (zi c_t_gradeSum)])), (a_t_buckets, zI J 96 f_t_buckets), (a_t_heights, zI J 16 f_t_heights), (a_t_drawn, zI J 16 f_t_drawn), (a_p0, .inr (2, [.ref a_p0_rowOf, .ref a_p0_columnOf, .ref a_p0_neighbours, .ref a_p0_neighbourCount, .int (zi c_p0_size)])), (a_p0_rowOf, zI J 16 f_p0_rowOf), (a_p0_columnOf, zI J 16 f_p0_columnOf)] [(0, .ref a_t), (1, .ref a_p0), (2, .int (zi p1)), (3, .int (zi v2))] 2 [] := by
  intro N
  induction N with
  | zero =>
    intro v2 hsh
    exact absurd hsh (by simp [sh_X0_mostFeasible_L2])
  | succ N ih =>
    intro v2 hsh
    rw [sh_X0_mostFeasible_L2] at hsh
    refine z_iload_n (pc' := 3) 3 dX0_mostFeasible_2 rfl rfl rfl ?_
    refine z_bipush (pc' := 5) dX0_mostFeasible_3 (by decide) rfl ?_
    have g3 := zkr_p hsh
    replace hsh := zkr_k hsh
    refine z_icmp_gt (pc' := 8) (tgt := 30) dX0_mostFeasible_5 (by decide) g3 (by decide) rfl (fun q => ?_) (fun q => ?_)
    · replace hsh := zif_t q hsh
      refine z_perm [(a_t, .inr (0, [.ref a_t_buckets, .ref a_t_grades, .ref a_t_heights, .ref a_t_drawn, .int (zi c_t_limit), .int (zi c_t_hungSet), .int (zi c_t_bucketSum), .int (zi c_t_gradeSum)])), (a_t_buckets, zI J 96 f_t_buckets), (a_t_heights, zI J 16 f_t_heights), (a_t_drawn, zI J 16 f_t_drawn), (a_p0, .inr (2, [.ref a_p0_rowOf, .ref a_p0_columnOf, .ref a_p0_neighbours, .ref a_p0_neighbourCount, .int (zi c_p0_size)])), (a_p0_rowOf, zI J 16 f_p0_rowOf), (a_p0_columnOf, zI J 16 f_p0_columnOf)] [] [0, 1, 2, 3, 4, 5, 6] [] rfl rfl rfl ?_
      exact hk _ hsh
    · replace hsh := zif_f q hsh
      refine z_aload_n (pc' := 9) 0 dX0_mostFeasible_8 rfl rfl rfl ?_
      refine z_aload_n (pc' := 10) 1 dX0_mostFeasible_9 rfl rfl rfl ?_
      refine z_iload_n (pc' := 11) 2 dX0_mostFeasible_10 rfl rfl rfl ?_
      refine z_iload_n (pc' := 12) 3 dX0_mostFeasible_11 rfl rfl rfl ?_
      obtain ⟨q4, h5, hsh⟩ := zbind hsh
      refine z_callV (pc' := 15) (C := RX0) (As := [.ref a_p0, .int (zi p1), .int (zi v2)]) (rest := []) (wr := []) 3 (zc_X0_fewestFor l D J F (a_t := a_t) (a_p0 := a_p0) (a_t_buckets := a_t_buckets) (a_t_grades := a_t_grades) (a_t_heights := a_t_heights) (a_t_drawn := a_t_drawn) (a_p0_rowOf := a_p0_rowOf) (a_p0_columnOf := a_p0_columnOf) (a_p0_neighbours := a_p0_neighbours) (a_p0_neighbourCount := a_p0_neighbourCount) (c_t_limit := c_t_limit) (c_t_hungSet := c_t_hungSet) (c_t_bucketSum := c_t_bucketSum) (c_t_gradeSum := c_t_gradeSum) (f_t_buckets := f_t_buckets) (f_t_heights := f_t_heights) (f_t_drawn := f_t_drawn) (c_p0_size := c_p0_size) (f_p0_rowOf := f_p0_rowOf) (f_p0_columnOf := f_p0_columnOf) (p1 := p1) (p2 := v2)  q4 h5) dX0_mostFeasible_12 gX0_mostFeasible_X0_fewestFor rfl rfl rfl (by decide +kernel) ⟨Nat.le_of_ble_eq_true rfl, Nat.le_of_ble_eq_true rfl⟩ ⟨Nat.le_of_ble_eq_true rfl, Nat.le_of_ble_eq_true rfl⟩ (z_spl_of [0, 1, 2, 3, 4, 5, 6] rfl rfl) rfl rfl rfl rfl (Nat.le_of_ble_eq_true rfl) rfl (fun rv w9 hq => ?_)
      obtain ⟨rfl, rfl⟩ := hq
      refine z_ws [(a_t, .inr (0, [.ref a_t_buckets, .ref a_t_grades, .ref a_t_heights, .ref a_t_drawn, .int (zi c_t_limit), .int (zi c_t_hungSet), .int (zi c_t_bucketSum), .int (zi c_t_gradeSum)])), (a_t_buckets, zI J 96 f_t_buckets), (a_t_heights, zI J 16 f_t_heights), (a_t_drawn, zI J 16 f_t_drawn), (a_p0, .inr (2, [.ref a_p0_rowOf, .ref a_p0_columnOf, .ref a_p0_neighbours, .ref a_p0_neighbourCount, .int (zi c_p0_size)])), (a_p0_rowOf, zI J 16 f_p0_rowOf), (a_p0_columnOf, zI J 16 f_p0_columnOf)] rfl ?_
      refine z_bipush (pc' := 17) dX0_mostFeasible_15 (by decide) rfl ?_
      have g6 := zkr_p hsh
      replace hsh := zkr_k hsh
      refine z_icmp_ne (pc' := 20) (tgt := 24) dX0_mostFeasible_17 (by decide) g6 (by decide) rfl (fun q => ?_) (fun q => ?_)
      · replace hsh := zif_f q hsh
        refine z_iinc (pc' := 27) [(3, .int (zi (v2 + (1 : Int)))), (0, .ref a_t), (1, .ref a_p0), (2, .int (zi p1))] 3 dX0_mostFeasible_24 rfl (by decide) rfl rfl ?_
        refine z_goto (tgt := 2) dX0_mostFeasible_27 (by decide) ?_
        refine z_perm [(a_t, .inr (0, [.ref a_t_buckets, .ref a_t_grades, .ref a_t_heights, .ref a_t_drawn, .int (zi c_t_limit), .int (zi c_t_hungSet), .int (zi c_t_bucketSum), .int (zi c_t_gradeSum)])), (a_t_buckets, zI J 96 f_t_buckets), (a_t_heights, zI J 16 f_t_heights), (a_t_drawn, zI J 16 f_t_drawn), (a_p0, .inr (2, [.ref a_p0_rowOf, .ref a_p0_columnOf, .ref a_p0_neighbours, .ref a_p0_neighbourCount, .int (zi c_p0_size)])), (a_p0_rowOf, zI J 16 f_p0_rowOf), (a_p0_columnOf, zI J 16 f_p0_columnOf)] [(0, .ref a_t), (1, .ref a_p0), (2, .int (zi p1)), (3, .int (zi (v2 + (1 : Int))))] [0, 1, 2, 3, 4, 5, 6] [1, 2, 3, 0] rfl rfl rfl ?_
        exact ih _ hsh
      · replace hsh := zif_t q hsh
        refine z_iload_n (pc' := 21) 3 dX0_mostFeasible_20 rfl rfl rfl ?_
        refine z_iconst (pc' := 22) dX0_mostFeasible_21 rfl ?_
        refine z_isub (pc' := 23) dX0_mostFeasible_22 rfl ?_
        cases hsh
        exact z_iret rfl dX0_mostFeasible_23 ⟨rfl, rfl⟩
set_option maxRecDepth 100000 in
set_option maxHeartbeats 4000000 in
theorem zc_X0_mostFeasible (l : Launch) (D : va_G) (J : Nat → ClassId) (F : Nat) (a_t : Nat) (a_p0 : Nat) (a_t_buckets : Nat) (a_t_grades : Nat) (a_t_heights : Nat) (a_t_drawn : Nat) (a_p0_rowOf : Nat) (a_p0_columnOf : Nat) (a_p0_neighbours : Nat) (a_p0_neighbourCount : Nat) (c_t_limit : Int) (c_t_hungSet : Int) (c_t_bucketSum : Int) (c_t_gradeSum : Int) (f_t_buckets : Nat → Int) (f_t_heights : Nat → Int) (f_t_drawn : Nat → Int) (c_p0_size : Int) (f_p0_rowOf : Nat → Int) (f_p0_columnOf : Nat → Int) (p1 : Int) (res : Int) (hsh : sh_X0_mostFeasible F c_t_limit c_t_hungSet f_t_buckets f_t_heights f_t_drawn c_p0_size f_p0_rowOf f_p0_columnOf p1 = some res) : ZM l D J yX0_mostFeasible wsX0_mostFeasible ({ frames := 3, cells := 0, slots := 0, locals := 69 } : Room) 0 0 [.ref a_t, .ref a_p0, .int (zi p1)] [(a_t, .inr (0, [.ref a_t_buckets, .ref a_t_grades, .ref a_t_heights, .ref a_t_drawn, .int (zi c_t_limit), .int (zi c_t_hungSet), .int (zi c_t_bucketSum), .int (zi c_t_gradeSum)])), (a_t_buckets, zI J 96 f_t_buckets), (a_t_heights, zI J 16 f_t_heights), (a_t_drawn, zI J 16 f_t_drawn), (a_p0, .inr (2, [.ref a_p0_rowOf, .ref a_p0_columnOf, .ref a_p0_neighbours, .ref a_p0_neighbourCount, .int (zi c_p0_size)])), (a_p0_rowOf, zI J 16 f_p0_rowOf), (a_p0_columnOf, zI J 16 f_p0_columnOf)] (fun rv w9 => rv = some (.int (zi res)) ∧ w9 = [(a_t, .inr (0, [.ref a_t_buckets, .ref a_t_grades, .ref a_t_heights, .ref a_t_drawn, .int (zi c_t_limit), .int (zi c_t_hungSet), .int (zi c_t_bucketSum), .int (zi c_t_gradeSum)])), (a_t_buckets, zI J 96 f_t_buckets), (a_t_heights, zI J 16 f_t_heights), (a_t_drawn, zI J 16 f_t_drawn), (a_p0, .inr (2, [.ref a_p0_rowOf, .ref a_p0_columnOf, .ref a_p0_neighbours, .ref a_p0_neighbourCount, .int (zi c_p0_size)])), (a_p0_rowOf, zI J 16 f_p0_rowOf), (a_p0_columnOf, zI J 16 f_p0_columnOf)]) := by
  refine z_ofZ (cc := cX0_mostFeasible) (maxL := 4) (ret := (some .int)) 0 0 (by decide) rfl (Nat.le_of_ble_eq_true rfl) [(0, .ref a_t), (1, .ref a_p0), (2, .int (zi p1))] rfl ?_
  intro p e s m args below meth c A
  unfold sh_X0_mostFeasible at hsh
  refine z_iconst (pc' := 1) dX0_mostFeasible_0 rfl ?_
  refine z_istore_n (pc' := 2) [(3, .int (zi (1 : Int))), (0, .ref a_t), (1, .ref a_p0), (2, .int (zi p1))] dX0_mostFeasible_1 rfl (by decide) rfl rfl ?_
  refine z_perm [(a_t, .inr (0, [.ref a_t_buckets, .ref a_t_grades, .ref a_t_heights, .ref a_t_drawn, .int (zi c_t_limit), .int (zi c_t_hungSet), .int (zi c_t_bucketSum), .int (zi c_t_gradeSum)])), (a_t_buckets, zI J 96 f_t_buckets), (a_t_heights, zI J 16 f_t_heights), (a_t_drawn, zI J 16 f_t_drawn), (a_p0, .inr (2, [.ref a_p0_rowOf, .ref a_p0_columnOf, .ref a_p0_neighbours, .ref a_p0_neighbourCount, .int (zi c_p0_size)])), (a_p0_rowOf, zI J 16 f_p0_rowOf), (a_p0_columnOf, zI J 16 f_p0_columnOf)] [(0, .ref a_t), (1, .ref a_p0), (2, .int (zi p1)), (3, .int (zi (1 : Int)))] [0, 1, 2, 3, 4, 5, 6] [1, 2, 3, 0] rfl rfl rfl ?_
  refine zl_X0_mostFeasible_L2 (F := F) (hk := fun v7 hsh => ?_) _ _ hsh
  refine z_bipush (pc' := 32) dX0_mostFeasible_30 (by decide) rfl ?_
  cases hsh
  exact z_iret rfl dX0_mostFeasible_32 ⟨rfl, rfl⟩
def sh_X0_begins_L2 (F : Nat) (p0 : Int) (f_t_buckets : Nat → Int) (f_t_grades : Nat → Int) (f_t_heights : Nat → Int) (c_p1_count : Int) (f_p1_values : Nat → Int) (k : Int → Option (Int)) : Nat → Int → Option (Int)
  | 0, _ => none
  | N + 1, v2 => (sh_X3_count F c_p1_count).bind (fun (q3 : Int) => zkr v2 (zkr q3 (if v2 < q3 then (sh_X0_gradeOf F f_t_buckets f_t_grades f_t_heights p0 v2).bind (fun (q7 : Int) => (sh_X3_get F c_p1_count f_p1_values v2).bind (fun (q9 : Int) => zkr q7 (zkr q9 (if q7 = q9 then sh_X0_begins_L2 F p0 f_t_buckets f_t_grades f_t_heights c_p1_count f_p1_values k N (v2 + (1 : Int)) else some ((0 : Int)))))) else k v2)))
def sh_X0_begins (F : Nat) (f_t_buckets : Nat → Int) (f_t_grades : Nat → Int) (f_t_heights : Nat → Int) (c_p1_count : Int) (f_p1_values : Nat → Int) (p0 : Int) : Option (Int) := sh_X0_begins_L2 F p0 f_t_buckets f_t_grades f_t_heights c_p1_count f_p1_values (fun (v13 : Int) => some ((1 : Int))) F (0 : Int)
set_option maxRecDepth 100000 in
set_option maxHeartbeats 4000000 in
theorem zl_X0_begins_L2 {p : Program} {l : Launch} {e : Env} {s : State} {m : MethodId} {args : Array Value} {below : List Frame} {meth : Method} {c : Code} {A : Nat → Prop} {D : va_G} {J : Nat → ClassId} {F : Nat} {p0 : Int} {f_t_buckets : Nat → Int} {f_t_grades : Nat → Int} {f_t_heights : Nat → Int} {c_p1_count : Int} {f_p1_values : Nat → Int} {a_t : Nat} {a_t_buckets : Nat} {a_t_grades : Nat} {a_t_heights : Nat} {a_t_drawn : Nat} {c_t_limit : Int} {c_t_hungSet : Int} {c_t_bucketSum : Int} {c_t_gradeSum : Int} {a_p1 : Nat} {a_p1_values : Nat} {res : Int} {k : Int → Option (Int)} (hk : ∀ (v2' : Int), k v2' = some res → Z p l e ({ frames := 1, cells := 0, slots := 0, locals := 24 } : Room) s m args below meth c (MQ below (zQ D J A (fun rv w9 => rv = some (.int (zi res)) ∧ w9 = [(a_t, .inr (0, [.ref a_t_buckets, .ref a_t_grades, .ref a_t_heights, .ref a_t_drawn, .int (zi c_t_limit), .int (zi c_t_hungSet), .int (zi c_t_bucketSum), .int (zi c_t_gradeSum)])), (a_t_buckets, zI J 96 f_t_buckets), (a_t_grades, zI J 96 f_t_grades), (a_t_heights, zI J 16 f_t_heights), (a_p1, .inr (3, [.ref a_p1_values, .int (zi c_p1_count)])), (a_p1_values, zI J 9 f_p1_values)])) args s 0 0 A) cX0_begins 4 wsX0_begins RX0 D J A (some .boolean) (yX0_begins.name, []) 0 0 [(a_t, .inr (0, [.ref a_t_buckets, .ref a_t_grades, .ref a_t_heights, .ref a_t_drawn, .int (zi c_t_limit), .int (zi c_t_hungSet), .int (zi c_t_bucketSum), .int (zi c_t_gradeSum)])), (a_t_buckets, zI J 96 f_t_buckets), (a_t_grades, zI J 96 f_t_grades), (a_t_heights, zI J 16 f_t_heights), (a_p1, .inr (3, [.ref a_p1_values, .int (zi c_p1_count)])), (a_p1_values, zI J 9 f_p1_values)] [] 32 []) : ∀ (N : Nat) (v2 : Int), sh_X0_begins_L2 F p0 f_t_buckets f_t_grades f_t_heights c_p1_count f_p1_values k N v2 = some res → Z p l e ({ frames := 1, cells := 0, slots := 0, locals := 24 } : Room) s m args below meth c (MQ below (zQ D J A (fun rv w9 => rv = some (.int (zi res)) ∧ w9 = [(a_t, .inr (0, [.ref a_t_buckets, .ref a_t_grades, .ref a_t_heights, .ref a_t_drawn, .int (zi c_t_limit), .int (zi c_t_hungSet), .int (zi c_t_bucketSum), .int (zi c_t_gradeSum)])), (a_t_buckets, zI J 96 f_t_buckets), (a_t_grades, zI J 96 f_t_grades), (a_t_heights, zI J 16 f_t_heights), (a_p1, .inr (3, [.ref a_p1_values, .int (zi c_p1_count)])), (a_p1_values, zI J 9 f_p1_values)])) args s 0 0 A) cX0_begins 4 wsX0_begins RX0 D J A (some .boolean) (yX0_begins.name, []) 0 0 [(a_t, .inr (0, [.ref a_t_buckets, .ref a_t_grades, .ref a_t_heights, .ref a_t_drawn, .int (zi c_t_limit), .int (zi c_t_hungSet), .int (zi c_t_bucketSum), .int (zi c_t_gradeSum)])), (a_t_buckets, zI J 96 f_t_buckets), (a_t_grades, zI J 96 f_t_grades), (a_t_heights, zI J 16 f_t_heights), (a_p1, .inr (3, [.ref a_p1_values, .int (zi c_p1_count)])), (a_p1_values, zI J 9 f_p1_values)] [(0, .ref a_t), (1, .int (zi p0)), (2, .ref a_p1), (3, .int (zi v2))] 2 [] := by
  intro N
  induction N with
  | zero =>
    intro v2 hsh
    exact absurd hsh (by simp [sh_X0_begins_L2])
  | succ N ih =>
    intro v2 hsh
    rw [sh_X0_begins_L2] at hsh
    refine z_iload_n (pc' := 3) 3 dX0_begins_2 rfl rfl rfl ?_
    refine z_aload_n (pc' := 4) 2 dX0_begins_3 rfl rfl rfl ?_
    obtain ⟨q3, h4, hsh⟩ := zbind hsh
    refine z_callV (pc' := 7) (C := RX3) (As := []) (rest := [.int (zi v2)]) (wr := [(a_t, .inr (0, [.ref a_t_buckets, .ref a_t_grades, .ref a_t_heights, .ref a_t_drawn, .int (zi c_t_limit), .int (zi c_t_hungSet), .int (zi c_t_bucketSum), .int (zi c_t_gradeSum)])), (a_t_buckets, zI J 96 f_t_buckets), (a_t_grades, zI J 96 f_t_grades), (a_t_heights, zI J 16 f_t_heights), (a_p1_values, zI J 9 f_p1_values)]) 0 (zc_X3_count l D J F (a_t := a_p1) (a_t_values := a_p1_values) (c_t_count := c_p1_count)  q3 h4) dX0_begins_4 gX0_begins_X3_count rfl rfl rfl (by decide +kernel) ⟨Nat.le_of_ble_eq_true rfl, Nat.le_of_ble_eq_true rfl⟩ ⟨Nat.le_of_ble_eq_true rfl, Nat.le_of_ble_eq_true rfl⟩ (z_spl_of [4, 0, 1, 2, 3, 5] rfl rfl) rfl rfl rfl rfl (Nat.le_of_ble_eq_true rfl) rfl (fun rv w9 hq => ?_)
    obtain ⟨rfl, rfl⟩ := hq
    refine z_ws [(a_t, .inr (0, [.ref a_t_buckets, .ref a_t_grades, .ref a_t_heights, .ref a_t_drawn, .int (zi c_t_limit), .int (zi c_t_hungSet), .int (zi c_t_bucketSum), .int (zi c_t_gradeSum)])), (a_t_buckets, zI J 96 f_t_buckets), (a_t_grades, zI J 96 f_t_grades), (a_t_heights, zI J 16 f_t_heights), (a_p1_values, zI J 9 f_p1_values), (a_p1, .inr (3, [.ref a_p1_values, .int (zi c_p1_count)]))] rfl ?_
    have g5 := zkr_p hsh
    replace hsh := zkr_k hsh
    have g6 := zkr_p hsh
    replace hsh := zkr_k hsh
    refine z_icmp_ge (pc' := 10) (tgt := 32) dX0_begins_7 (by decide) g5 g6 rfl (fun q => ?_) (fun q => ?_)
    · replace hsh := zif_f q hsh
      refine z_perm [(a_t, .inr (0, [.ref a_t_buckets, .ref a_t_grades, .ref a_t_heights, .ref a_t_drawn, .int (zi c_t_limit), .int (zi c_t_hungSet), .int (zi c_t_bucketSum), .int (zi c_t_gradeSum)])), (a_t_buckets, zI J 96 f_t_buckets), (a_t_grades, zI J 96 f_t_grades), (a_t_heights, zI J 16 f_t_heights), (a_p1, .inr (3, [.ref a_p1_values, .int (zi c_p1_count)])), (a_p1_values, zI J 9 f_p1_values)] [] [0, 1, 2, 3, 5, 4] [] rfl rfl rfl ?_
      exact hk _ hsh
    · replace hsh := zif_t q hsh
      refine z_aload_n (pc' := 11) 0 dX0_begins_10 rfl rfl rfl ?_
      refine z_iload_n (pc' := 12) 1 dX0_begins_11 rfl rfl rfl ?_
      refine z_iload_n (pc' := 13) 3 dX0_begins_12 rfl rfl rfl ?_
      obtain ⟨q7, h8, hsh⟩ := zbind hsh
      refine z_callV (pc' := 16) (C := RX0) (As := [.int (zi p0), .int (zi v2)]) (rest := []) (wr := [(a_p1_values, zI J 9 f_p1_values), (a_p1, .inr (3, [.ref a_p1_values, .int (zi c_p1_count)]))]) 2 (zc_X0_gradeOf l D J F (a_t := a_t) (a_t_buckets := a_t_buckets) (a_t_grades := a_t_grades) (a_t_heights := a_t_heights) (a_t_drawn := a_t_drawn) (c_t_limit := c_t_limit) (c_t_hungSet := c_t_hungSet) (c_t_bucketSum := c_t_bucketSum) (c_t_gradeSum := c_t_gradeSum) (f_t_buckets := f_t_buckets) (f_t_grades := f_t_grades) (f_t_heights := f_t_heights) (p0 := p0) (p1 := v2)  q7 h8) dX0_begins_13 gX0_begins_X0_gradeOf rfl rfl rfl (by decide +kernel) ⟨Nat.le_of_ble_eq_true rfl, Nat.le_of_ble_eq_true rfl⟩ ⟨Nat.le_of_ble_eq_true rfl, Nat.le_of_ble_eq_true rfl⟩ (z_spl_of [0, 1, 2, 3, 4, 5] rfl rfl) rfl rfl rfl rfl (Nat.le_of_ble_eq_true rfl) rfl (fun rv w9 hq => ?_)
      obtain ⟨rfl, rfl⟩ := hq
      refine z_ws [(a_p1_values, zI J 9 f_p1_values), (a_p1, .inr (3, [.ref a_p1_values, .int (zi c_p1_count)])), (a_t, .inr (0, [.ref a_t_buckets, .ref a_t_grades, .ref a_t_heights, .ref a_t_drawn, .int (zi c_t_limit), .int (zi c_t_hungSet), .int (zi c_t_bucketSum), .int (zi c_t_gradeSum)])), (a_t_buckets, zI J 96 f_t_buckets), (a_t_grades, zI J 96 f_t_grades), (a_t_heights, zI J 16 f_t_heights)] rfl ?_
      refine z_aload_n (pc' := 17) 2 dX0_begins_16 rfl rfl rfl ?_
      refine z_iload_n (pc' := 18) 3 dX0_begins_17 rfl rfl rfl ?_
      obtain ⟨q9, h10, hsh⟩ := zbind hsh
      refine z_callV (pc' := 21) (C := RX3) (As := [.int (zi v2)]) (rest := [.int (zi q7)]) (wr := [(a_t, .inr (0, [.ref a_t_buckets, .ref a_t_grades, .ref a_t_heights, .ref a_t_drawn, .int (zi c_t_limit), .int (zi c_t_hungSet), .int (zi c_t_bucketSum), .int (zi c_t_gradeSum)])), (a_t_buckets, zI J 96 f_t_buckets), (a_t_grades, zI J 96 f_t_grades), (a_t_heights, zI J 16 f_t_heights)]) 1 (zc_X3_get l D J F (a_t := a_p1) (a_t_values := a_p1_values) (c_t_count := c_p1_count) (f_t_values := f_p1_values) (p0 := v2)  q9 h10) dX0_begins_18 gX0_begins_X3_get rfl rfl rfl (by decide +kernel) ⟨Nat.le_of_ble_eq_true rfl, Nat.le_of_ble_eq_true rfl⟩ ⟨Nat.le_of_ble_eq_true rfl, Nat.le_of_ble_eq_true rfl⟩ (z_spl_of [1, 0, 2, 3, 4, 5] rfl rfl) rfl rfl rfl rfl (Nat.le_of_ble_eq_true rfl) rfl (fun rv w9 hq => ?_)
      obtain ⟨rfl, rfl⟩ := hq
      refine z_ws [(a_t, .inr (0, [.ref a_t_buckets, .ref a_t_grades, .ref a_t_heights, .ref a_t_drawn, .int (zi c_t_limit), .int (zi c_t_hungSet), .int (zi c_t_bucketSum), .int (zi c_t_gradeSum)])), (a_t_buckets, zI J 96 f_t_buckets), (a_t_grades, zI J 96 f_t_grades), (a_t_heights, zI J 16 f_t_heights), (a_p1, .inr (3, [.ref a_p1_values, .int (zi c_p1_count)])), (a_p1_values, zI J 9 f_p1_values)] rfl ?_
      have g11 := zkr_p hsh
      replace hsh := zkr_k hsh
      have g12 := zkr_p hsh
      replace hsh := zkr_k hsh
      refine z_icmp_eq (pc' := 24) (tgt := 26) dX0_begins_21 (by decide) g11 g12 rfl (fun q => ?_) (fun q => ?_)
      · replace hsh := zif_t q hsh
        refine z_iinc (pc' := 29) [(3, .int (zi (v2 + (1 : Int)))), (0, .ref a_t), (1, .int (zi p0)), (2, .ref a_p1)] 3 dX0_begins_26 rfl (by decide) rfl rfl ?_
        refine z_goto (tgt := 2) dX0_begins_29 (by decide) ?_
        refine z_perm [(a_t, .inr (0, [.ref a_t_buckets, .ref a_t_grades, .ref a_t_heights, .ref a_t_drawn, .int (zi c_t_limit), .int (zi c_t_hungSet), .int (zi c_t_bucketSum), .int (zi c_t_gradeSum)])), (a_t_buckets, zI J 96 f_t_buckets), (a_t_grades, zI J 96 f_t_grades), (a_t_heights, zI J 16 f_t_heights), (a_p1, .inr (3, [.ref a_p1_values, .int (zi c_p1_count)])), (a_p1_values, zI J 9 f_p1_values)] [(0, .ref a_t), (1, .int (zi p0)), (2, .ref a_p1), (3, .int (zi (v2 + (1 : Int))))] [0, 1, 2, 3, 4, 5] [1, 2, 3, 0] rfl rfl rfl ?_
        exact ih _ hsh
      · replace hsh := zif_f q hsh
        refine z_iconst (pc' := 25) dX0_begins_24 rfl ?_
        cases hsh
        exact z_zret rfl (by decide) dX0_begins_25 ⟨rfl, rfl⟩
set_option maxRecDepth 100000 in
set_option maxHeartbeats 4000000 in
theorem zc_X0_begins (l : Launch) (D : va_G) (J : Nat → ClassId) (F : Nat) (a_t : Nat) (a_p1 : Nat) (a_t_buckets : Nat) (a_t_grades : Nat) (a_t_heights : Nat) (a_t_drawn : Nat) (a_p1_values : Nat) (c_t_limit : Int) (c_t_hungSet : Int) (c_t_bucketSum : Int) (c_t_gradeSum : Int) (f_t_buckets : Nat → Int) (f_t_grades : Nat → Int) (f_t_heights : Nat → Int) (c_p1_count : Int) (f_p1_values : Nat → Int) (p0 : Int) (res : Int) (hsh : sh_X0_begins F f_t_buckets f_t_grades f_t_heights c_p1_count f_p1_values p0 = some res) : ZM l D J yX0_begins wsX0_begins ({ frames := 1, cells := 0, slots := 0, locals := 24 } : Room) 0 0 [.ref a_t, .int (zi p0), .ref a_p1] [(a_t, .inr (0, [.ref a_t_buckets, .ref a_t_grades, .ref a_t_heights, .ref a_t_drawn, .int (zi c_t_limit), .int (zi c_t_hungSet), .int (zi c_t_bucketSum), .int (zi c_t_gradeSum)])), (a_t_buckets, zI J 96 f_t_buckets), (a_t_grades, zI J 96 f_t_grades), (a_t_heights, zI J 16 f_t_heights), (a_p1, .inr (3, [.ref a_p1_values, .int (zi c_p1_count)])), (a_p1_values, zI J 9 f_p1_values)] (fun rv w9 => rv = some (.int (zi res)) ∧ w9 = [(a_t, .inr (0, [.ref a_t_buckets, .ref a_t_grades, .ref a_t_heights, .ref a_t_drawn, .int (zi c_t_limit), .int (zi c_t_hungSet), .int (zi c_t_bucketSum), .int (zi c_t_gradeSum)])), (a_t_buckets, zI J 96 f_t_buckets), (a_t_grades, zI J 96 f_t_grades), (a_t_heights, zI J 16 f_t_heights), (a_p1, .inr (3, [.ref a_p1_values, .int (zi c_p1_count)])), (a_p1_values, zI J 9 f_p1_values)]) := by
  refine z_ofZ (cc := cX0_begins) (maxL := 4) (ret := (some .boolean)) 0 0 (by decide) rfl (Nat.le_of_ble_eq_true rfl) [(0, .ref a_t), (1, .int (zi p0)), (2, .ref a_p1)] rfl ?_
  intro p e s m args below meth c A
  unfold sh_X0_begins at hsh
  refine z_iconst (pc' := 1) dX0_begins_0 rfl ?_
  refine z_istore_n (pc' := 2) [(3, .int (zi (0 : Int))), (0, .ref a_t), (1, .int (zi p0)), (2, .ref a_p1)] dX0_begins_1 rfl (by decide) rfl rfl ?_
  refine z_perm [(a_t, .inr (0, [.ref a_t_buckets, .ref a_t_grades, .ref a_t_heights, .ref a_t_drawn, .int (zi c_t_limit), .int (zi c_t_hungSet), .int (zi c_t_bucketSum), .int (zi c_t_gradeSum)])), (a_t_buckets, zI J 96 f_t_buckets), (a_t_grades, zI J 96 f_t_grades), (a_t_heights, zI J 16 f_t_heights), (a_p1, .inr (3, [.ref a_p1_values, .int (zi c_p1_count)])), (a_p1_values, zI J 9 f_p1_values)] [(0, .ref a_t), (1, .int (zi p0)), (2, .ref a_p1), (3, .int (zi (0 : Int)))] [0, 1, 2, 3, 4, 5] [1, 2, 3, 0] rfl rfl rfl ?_
  refine zl_X0_begins_L2 (F := F) (hk := fun v13 hsh => ?_) _ _ hsh
  refine z_iconst (pc' := 33) dX0_begins_32 rfl ?_
  cases hsh
  exact z_zret rfl (by decide) dX0_begins_33 ⟨rfl, rfl⟩
def sh_X0_pointsThatBegin_L5 (F : Nat) (f_t_buckets : Nat → Int) (f_t_grades : Nat → Int) (f_t_heights : Nat → Int) (c_p0_size : Int) (c_p1_count : Int) (f_p1_values : Nat → Int) (k : Int → Int → Option (Int)) : Nat → Int → Int → Option (Int)
  | 0, _, _ => none
  | N + 1, v3, v4 => (sh_X2_size F c_p0_size).bind (fun (q5 : Int) => zkr v4 (zkr q5 (if v4 < q5 then (sh_X0_begins F f_t_buckets f_t_grades f_t_heights c_p1_count f_p1_values v4).bind (fun (q9 : Int) => zkr q9 (if q9 = (0 : Int) then sh_X0_pointsThatBegin_L5 F f_t_buckets f_t_grades f_t_heights c_p0_size c_p1_count f_p1_values k N v3 (v4 + (1 : Int)) else sh_X0_pointsThatBegin_L5 F f_t_buckets f_t_grades f_t_heights c_p0_size c_p1_count f_p1_values k N (zor v3 (zshl (1 : Int) v4)) (v4 + (1 : Int)))) else k v3 v4)))
def sh_X0_pointsThatBegin (F : Nat) (f_t_buckets : Nat → Int) (f_t_grades : Nat → Int) (f_t_heights : Nat → Int) (c_p0_size : Int) (c_p1_count : Int) (f_p1_values : Nat → Int) : Option (Int) := sh_X0_pointsThatBegin_L5 F f_t_buckets f_t_grades f_t_heights c_p0_size c_p1_count f_p1_values (fun (v12 : Int) (v13 : Int) => some (v12)) F (0 : Int) (0 : Int)
set_option maxRecDepth 100000 in
set_option maxHeartbeats 4000000 in
theorem zl_X0_pointsThatBegin_L5 {p : Program} {l : Launch} {e : Env} {s : State} {m : MethodId} {args : Array Value} {below : List Frame} {meth : Method} {c : Code} {A : Nat → Prop} {D : va_G} {J : Nat → ClassId} {F : Nat} {f_t_buckets : Nat → Int} {f_t_grades : Nat → Int} {f_t_heights : Nat → Int} {c_p0_size : Int} {c_p1_count : Int} {f_p1_values : Nat → Int} {a_t : Nat} {a_t_buckets : Nat} {a_t_grades : Nat} {a_t_heights : Nat} {a_t_drawn : Nat} {c_t_limit : Int} {c_t_hungSet : Int} {c_t_bucketSum : Int} {c_t_gradeSum : Int} {a_p0 : Nat} {a_p0_rowOf : Nat} {a_p0_columnOf : Nat} {a_p0_neighbours : Nat} {a_p0_neighbourCount : Nat} {a_p1 : Nat} {a_p1_values : Nat} {res : Int} {k : Int → Int → Option (Int)} (hk : ∀ (v3' : Int) (v4' : Int), k v3' v4' = some res → Z p l e ({ frames := 2, cells := 0, slots := 0, locals := 47 } : Room) s m args below meth c (MQ below (zQ D J A (fun rv w9 => rv = some (.int (zi res)) ∧ w9 = [(a_t, .inr (0, [.ref a_t_buckets, .ref a_t_grades, .ref a_t_heights, .ref a_t_drawn, .int (zi c_t_limit), .int (zi c_t_hungSet), .int (zi c_t_bucketSum), .int (zi c_t_gradeSum)])), (a_t_buckets, zI J 96 f_t_buckets), (a_t_grades, zI J 96 f_t_grades), (a_t_heights, zI J 16 f_t_heights), (a_p0, .inr (2, [.ref a_p0_rowOf, .ref a_p0_columnOf, .ref a_p0_neighbours, .ref a_p0_neighbourCount, .int (zi c_p0_size)])), (a_p1, .inr (3, [.ref a_p1_values, .int (zi c_p1_count)])), (a_p1_values, zI J 9 f_p1_values)])) args s 0 0 A) cX0_pointsThatBegin 5 wsX0_pointsThatBegin RX0 D J A (some .int) (yX0_pointsThatBegin.name, []) 0 0 [(a_t, .inr (0, [.ref a_t_buckets, .ref a_t_grades, .ref a_t_heights, .ref a_t_drawn, .int (zi c_t_limit), .int (zi c_t_hungSet), .int (zi c_t_bucketSum), .int (zi c_t_gradeSum)])), (a_t_buckets, zI J 96 f_t_buckets), (a_t_grades, zI J 96 f_t_grades), (a_t_heights, zI J 16 f_t_heights), (a_p0, .inr (2, [.ref a_p0_rowOf, .ref a_p0_columnOf, .ref a_p0_neighbours, .ref a_p0_neighbourCount, .int (zi c_p0_size)])), (a_p1, .inr (3, [.ref a_p1_values, .int (zi c_p1_count)])), (a_p1_values, zI J 9 f_p1_values)] [(3, .int (zi v3'))] 37 []) : ∀ (N : Nat) (v3 : Int) (v4 : Int), sh_X0_pointsThatBegin_L5 F f_t_buckets f_t_grades f_t_heights c_p0_size c_p1_count f_p1_values k N v3 v4 = some res → Z p l e ({ frames := 2, cells := 0, slots := 0, locals := 47 } : Room) s m args below meth c (MQ below (zQ D J A (fun rv w9 => rv = some (.int (zi res)) ∧ w9 = [(a_t, .inr (0, [.ref a_t_buckets, .ref a_t_grades, .ref a_t_heights, .ref a_t_drawn, .int (zi c_t_limit), .int (zi c_t_hungSet), .int (zi c_t_bucketSum), .int (zi c_t_gradeSum)])), (a_t_buckets, zI J 96 f_t_buckets), (a_t_grades, zI J 96 f_t_grades), (a_t_heights, zI J 16 f_t_heights), (a_p0, .inr (2, [.ref a_p0_rowOf, .ref a_p0_columnOf, .ref a_p0_neighbours, .ref a_p0_neighbourCount, .int (zi c_p0_size)])), (a_p1, .inr (3, [.ref a_p1_values, .int (zi c_p1_count)])), (a_p1_values, zI J 9 f_p1_values)])) args s 0 0 A) cX0_pointsThatBegin 5 wsX0_pointsThatBegin RX0 D J A (some .int) (yX0_pointsThatBegin.name, []) 0 0 [(a_t, .inr (0, [.ref a_t_buckets, .ref a_t_grades, .ref a_t_heights, .ref a_t_drawn, .int (zi c_t_limit), .int (zi c_t_hungSet), .int (zi c_t_bucketSum), .int (zi c_t_gradeSum)])), (a_t_buckets, zI J 96 f_t_buckets), (a_t_grades, zI J 96 f_t_grades), (a_t_heights, zI J 16 f_t_heights), (a_p0, .inr (2, [.ref a_p0_rowOf, .ref a_p0_columnOf, .ref a_p0_neighbours, .ref a_p0_neighbourCount, .int (zi c_p0_size)])), (a_p1, .inr (3, [.ref a_p1_values, .int (zi c_p1_count)])), (a_p1_values, zI J 9 f_p1_values)] [(0, .ref a_t), (1, .ref a_p0), (2, .ref a_p1), (3, .int (zi v3)), (4, .int (zi v4))] 5 [] := by
  intro N
  induction N with
  | zero =>
    intro v3 v4 hsh
    exact absurd hsh (by simp [sh_X0_pointsThatBegin_L5])
  | succ N ih =>
    intro v3 v4 hsh
    rw [sh_X0_pointsThatBegin_L5] at hsh
    refine z_iload (pc' := 7) 4 dX0_pointsThatBegin_5 rfl rfl ?_
    refine z_aload_n (pc' := 8) 1 dX0_pointsThatBegin_7 rfl rfl rfl ?_
    obtain ⟨q5, h6, hsh⟩ := zbind hsh
    refine z_callV (pc' := 11) (C := RX2) (As := []) (rest := [.int (zi v4)]) (wr := [(a_t, .inr (0, [.ref a_t_buckets, .ref a_t_grades, .ref a_t_heights, .ref a_t_drawn, .int (zi c_t_limit), .int (zi c_t_hungSet), .int (zi c_t_bucketSum), .int (zi c_t_gradeSum)])), (a_t_buckets, zI J 96 f_t_buckets), (a_t_grades, zI J 96 f_t_grades), (a_t_heights, zI J 16 f_t_heights), (a_p1, .inr (3, [.ref a_p1_values, .int (zi c_p1_count)])), (a_p1_values, zI J 9 f_p1_values)]) 0 (zc_X2_size l D J F (a_t := a_p0) (a_t_rowOf := a_p0_rowOf) (a_t_columnOf := a_p0_columnOf) (a_t_neighbours := a_p0_neighbours) (a_t_neighbourCount := a_p0_neighbourCount) (c_t_size := c_p0_size)  q5 h6) dX0_pointsThatBegin_8 gX0_pointsThatBegin_X2_size rfl rfl rfl (by decide +kernel) ⟨Nat.le_of_ble_eq_true rfl, Nat.le_of_ble_eq_true rfl⟩ ⟨Nat.le_of_ble_eq_true rfl, Nat.le_of_ble_eq_true rfl⟩ (z_spl_of [4, 0, 1, 2, 3, 5, 6] rfl rfl) rfl rfl rfl rfl (Nat.le_of_ble_eq_true rfl) rfl (fun rv w9 hq => ?_)
    obtain ⟨rfl, rfl⟩ := hq
    refine z_ws [(a_t, .inr (0, [.ref a_t_buckets, .ref a_t_grades, .ref a_t_heights, .ref a_t_drawn, .int (zi c_t_limit), .int (zi c_t_hungSet), .int (zi c_t_bucketSum), .int (zi c_t_gradeSum)])), (a_t_buckets, zI J 96 f_t_buckets), (a_t_grades, zI J 96 f_t_grades), (a_t_heights, zI J 16 f_t_heights), (a_p1, .inr (3, [.ref a_p1_values, .int (zi c_p1_count)])), (a_p1_values, zI J 9 f_p1_values), (a_p0, .inr (2, [.ref a_p0_rowOf, .ref a_p0_columnOf, .ref a_p0_neighbours, .ref a_p0_neighbourCount, .int (zi c_p0_size)]))] rfl ?_
    have g7 := zkr_p hsh
    replace hsh := zkr_k hsh
    have g8 := zkr_p hsh
    replace hsh := zkr_k hsh
    refine z_icmp_ge (pc' := 14) (tgt := 37) dX0_pointsThatBegin_11 (by decide) g7 g8 rfl (fun q => ?_) (fun q => ?_)
    · replace hsh := zif_f q hsh
      refine z_perm [(a_t, .inr (0, [.ref a_t_buckets, .ref a_t_grades, .ref a_t_heights, .ref a_t_drawn, .int (zi c_t_limit), .int (zi c_t_hungSet), .int (zi c_t_bucketSum), .int (zi c_t_gradeSum)])), (a_t_buckets, zI J 96 f_t_buckets), (a_t_grades, zI J 96 f_t_grades), (a_t_heights, zI J 16 f_t_heights), (a_p0, .inr (2, [.ref a_p0_rowOf, .ref a_p0_columnOf, .ref a_p0_neighbours, .ref a_p0_neighbourCount, .int (zi c_p0_size)])), (a_p1, .inr (3, [.ref a_p1_values, .int (zi c_p1_count)])), (a_p1_values, zI J 9 f_p1_values)] [(3, .int (zi v3))] [0, 1, 2, 3, 6, 4, 5] [3] rfl rfl rfl ?_
      exact hk _ _ hsh
    · replace hsh := zif_t q hsh
      refine z_aload_n (pc' := 15) 0 dX0_pointsThatBegin_14 rfl rfl rfl ?_
      refine z_iload (pc' := 17) 4 dX0_pointsThatBegin_15 rfl rfl ?_
      refine z_aload_n (pc' := 18) 2 dX0_pointsThatBegin_17 rfl rfl rfl ?_
      obtain ⟨q9, h10, hsh⟩ := zbind hsh
      refine z_callV (pc' := 21) (C := RX0) (As := [.int (zi v4), .ref a_p1]) (rest := []) (wr := [(a_p0, .inr (2, [.ref a_p0_rowOf, .ref a_p0_columnOf, .ref a_p0_neighbours, .ref a_p0_neighbourCount, .int (zi c_p0_size)]))]) 2 (zc_X0_begins l D J F (a_t := a_t) (a_p1 := a_p1) (a_t_buckets := a_t_buckets) (a_t_grades := a_t_grades) (a_t_heights := a_t_heights) (a_t_drawn := a_t_drawn) (a_p1_values := a_p1_values) (c_t_limit := c_t_limit) (c_t_hungSet := c_t_hungSet) (c_t_bucketSum := c_t_bucketSum) (c_t_gradeSum := c_t_gradeSum) (f_t_buckets := f_t_buckets) (f_t_grades := f_t_grades) (f_t_heights := f_t_heights) (c_p1_count := c_p1_count) (f_p1_values := f_p1_values) (p0 := v4)  q9 h10) dX0_pointsThatBegin_18 gX0_pointsThatBegin_X0_begins rfl rfl rfl (by decide +kernel) ⟨Nat.le_of_ble_eq_true rfl, Nat.le_of_ble_eq_true rfl⟩ ⟨Nat.le_of_ble_eq_true rfl, Nat.le_of_ble_eq_true rfl⟩ (z_spl_of [0, 1, 2, 3, 4, 5, 6] rfl rfl) rfl rfl rfl rfl (Nat.le_of_ble_eq_true rfl) rfl (fun rv w9 hq => ?_)
      obtain ⟨rfl, rfl⟩ := hq
      refine z_ws [(a_p0, .inr (2, [.ref a_p0_rowOf, .ref a_p0_columnOf, .ref a_p0_neighbours, .ref a_p0_neighbourCount, .int (zi c_p0_size)])), (a_t, .inr (0, [.ref a_t_buckets, .ref a_t_grades, .ref a_t_heights, .ref a_t_drawn, .int (zi c_t_limit), .int (zi c_t_hungSet), .int (zi c_t_bucketSum), .int (zi c_t_gradeSum)])), (a_t_buckets, zI J 96 f_t_buckets), (a_t_grades, zI J 96 f_t_grades), (a_t_heights, zI J 16 f_t_heights), (a_p1, .inr (3, [.ref a_p1_values, .int (zi c_p1_count)])), (a_p1_values, zI J 9 f_p1_values)] rfl ?_
      have g11 := zkr_p hsh
      replace hsh := zkr_k hsh
      refine z_if_eq (pc' := 24) (tgt := 31) dX0_pointsThatBegin_21 (by decide) g11 rfl (fun q => ?_) (fun q => ?_)
      · replace hsh := zif_t q hsh
        refine z_iinc (pc' := 34) [(4, .int (zi (v4 + (1 : Int)))), (0, .ref a_t), (1, .ref a_p0), (2, .ref a_p1), (3, .int (zi v3))] 4 dX0_pointsThatBegin_31 rfl (by decide) rfl rfl ?_
        refine z_goto (tgt := 5) dX0_pointsThatBegin_34 (by decide) ?_
        refine z_perm [(a_t, .inr (0, [.ref a_t_buckets, .ref a_t_grades, .ref a_t_heights, .ref a_t_drawn, .int (zi c_t_limit), .int (zi c_t_hungSet), .int (zi c_t_bucketSum), .int (zi c_t_gradeSum)])), (a_t_buckets, zI J 96 f_t_buckets), (a_t_grades, zI J 96 f_t_grades), (a_t_heights, zI J 16 f_t_heights), (a_p0, .inr (2, [.ref a_p0_rowOf, .ref a_p0_columnOf, .ref a_p0_neighbours, .ref a_p0_neighbourCount, .int (zi c_p0_size)])), (a_p1, .inr (3, [.ref a_p1_values, .int (zi c_p1_count)])), (a_p1_values, zI J 9 f_p1_values)] [(0, .ref a_t), (1, .ref a_p0), (2, .ref a_p1), (3, .int (zi v3)), (4, .int (zi (v4 + (1 : Int))))] [1, 2, 3, 4, 0, 5, 6] [1, 2, 3, 4, 0] rfl rfl rfl ?_
        exact ih _ _ hsh
      · replace hsh := zif_f q hsh
        refine z_iload_n (pc' := 25) 3 dX0_pointsThatBegin_24 rfl rfl rfl ?_
        refine z_iconst (pc' := 26) dX0_pointsThatBegin_25 rfl ?_
        refine z_iload (pc' := 28) 4 dX0_pointsThatBegin_26 rfl rfl ?_
        refine z_ishl (pc' := 29) dX0_pointsThatBegin_28 rfl ?_
        refine z_ior (pc' := 30) dX0_pointsThatBegin_29 rfl ?_
        refine z_istore_n (pc' := 31) [(3, .int (zi (zor v3 (zshl (1 : Int) v4)))), (0, .ref a_t), (1, .ref a_p0), (2, .ref a_p1), (4, .int (zi v4))] dX0_pointsThatBegin_30 rfl (by decide) rfl rfl ?_
        refine z_iinc (pc' := 34) [(4, .int (zi (v4 + (1 : Int)))), (3, .int (zi (zor v3 (zshl (1 : Int) v4)))), (0, .ref a_t), (1, .ref a_p0), (2, .ref a_p1)] 4 dX0_pointsThatBegin_31 rfl (by decide) rfl rfl ?_
        refine z_goto (tgt := 5) dX0_pointsThatBegin_34 (by decide) ?_
        refine z_perm [(a_t, .inr (0, [.ref a_t_buckets, .ref a_t_grades, .ref a_t_heights, .ref a_t_drawn, .int (zi c_t_limit), .int (zi c_t_hungSet), .int (zi c_t_bucketSum), .int (zi c_t_gradeSum)])), (a_t_buckets, zI J 96 f_t_buckets), (a_t_grades, zI J 96 f_t_grades), (a_t_heights, zI J 16 f_t_heights), (a_p0, .inr (2, [.ref a_p0_rowOf, .ref a_p0_columnOf, .ref a_p0_neighbours, .ref a_p0_neighbourCount, .int (zi c_p0_size)])), (a_p1, .inr (3, [.ref a_p1_values, .int (zi c_p1_count)])), (a_p1_values, zI J 9 f_p1_values)] [(0, .ref a_t), (1, .ref a_p0), (2, .ref a_p1), (3, .int (zi (zor v3 (zshl (1 : Int) v4)))), (4, .int (zi (v4 + (1 : Int))))] [1, 2, 3, 4, 0, 5, 6] [2, 3, 4, 1, 0] rfl rfl rfl ?_
        exact ih _ _ hsh
set_option maxRecDepth 100000 in
set_option maxHeartbeats 4000000 in
theorem zc_X0_pointsThatBegin (l : Launch) (D : va_G) (J : Nat → ClassId) (F : Nat) (a_t : Nat) (a_p0 : Nat) (a_p1 : Nat) (a_t_buckets : Nat) (a_t_grades : Nat) (a_t_heights : Nat) (a_t_drawn : Nat) (a_p0_rowOf : Nat) (a_p0_columnOf : Nat) (a_p0_neighbours : Nat) (a_p0_neighbourCount : Nat) (a_p1_values : Nat) (c_t_limit : Int) (c_t_hungSet : Int) (c_t_bucketSum : Int) (c_t_gradeSum : Int) (f_t_buckets : Nat → Int) (f_t_grades : Nat → Int) (f_t_heights : Nat → Int) (c_p0_size : Int) (c_p1_count : Int) (f_p1_values : Nat → Int) (res : Int) (hsh : sh_X0_pointsThatBegin F f_t_buckets f_t_grades f_t_heights c_p0_size c_p1_count f_p1_values = some res) : ZM l D J yX0_pointsThatBegin wsX0_pointsThatBegin ({ frames := 2, cells := 0, slots := 0, locals := 47 } : Room) 0 0 [.ref a_t, .ref a_p0, .ref a_p1] [(a_t, .inr (0, [.ref a_t_buckets, .ref a_t_grades, .ref a_t_heights, .ref a_t_drawn, .int (zi c_t_limit), .int (zi c_t_hungSet), .int (zi c_t_bucketSum), .int (zi c_t_gradeSum)])), (a_t_buckets, zI J 96 f_t_buckets), (a_t_grades, zI J 96 f_t_grades), (a_t_heights, zI J 16 f_t_heights), (a_p0, .inr (2, [.ref a_p0_rowOf, .ref a_p0_columnOf, .ref a_p0_neighbours, .ref a_p0_neighbourCount, .int (zi c_p0_size)])), (a_p1, .inr (3, [.ref a_p1_values, .int (zi c_p1_count)])), (a_p1_values, zI J 9 f_p1_values)] (fun rv w9 => rv = some (.int (zi res)) ∧ w9 = [(a_t, .inr (0, [.ref a_t_buckets, .ref a_t_grades, .ref a_t_heights, .ref a_t_drawn, .int (zi c_t_limit), .int (zi c_t_hungSet), .int (zi c_t_bucketSum), .int (zi c_t_gradeSum)])), (a_t_buckets, zI J 96 f_t_buckets), (a_t_grades, zI J 96 f_t_grades), (a_t_heights, zI J 16 f_t_heights), (a_p0, .inr (2, [.ref a_p0_rowOf, .ref a_p0_columnOf, .ref a_p0_neighbours, .ref a_p0_neighbourCount, .int (zi c_p0_size)])), (a_p1, .inr (3, [.ref a_p1_values, .int (zi c_p1_count)])), (a_p1_values, zI J 9 f_p1_values)]) := by
  refine z_ofZ (cc := cX0_pointsThatBegin) (maxL := 5) (ret := (some .int)) 0 0 (by decide) rfl (Nat.le_of_ble_eq_true rfl) [(0, .ref a_t), (1, .ref a_p0), (2, .ref a_p1)] rfl ?_
  intro p e s m args below meth c A
  unfold sh_X0_pointsThatBegin at hsh
  refine z_iconst (pc' := 1) dX0_pointsThatBegin_0 rfl ?_
  refine z_istore_n (pc' := 2) [(3, .int (zi (0 : Int))), (0, .ref a_t), (1, .ref a_p0), (2, .ref a_p1)] dX0_pointsThatBegin_1 rfl (by decide) rfl rfl ?_
  refine z_iconst (pc' := 3) dX0_pointsThatBegin_2 rfl ?_
  refine z_istore (pc' := 5) [(4, .int (zi (0 : Int))), (3, .int (zi (0 : Int))), (0, .ref a_t), (1, .ref a_p0), (2, .ref a_p1)] dX0_pointsThatBegin_3 (by decide) rfl rfl ?_
  refine z_perm [(a_t, .inr (0, [.ref a_t_buckets, .ref a_t_grades, .ref a_t_heights, .ref a_t_drawn, .int (zi c_t_limit), .int (zi c_t_hungSet), .int (zi c_t_bucketSum), .int (zi c_t_gradeSum)])), (a_t_buckets, zI J 96 f_t_buckets), (a_t_grades, zI J 96 f_t_grades), (a_t_heights, zI J 16 f_t_heights), (a_p0, .inr (2, [.ref a_p0_rowOf, .ref a_p0_columnOf, .ref a_p0_neighbours, .ref a_p0_neighbourCount, .int (zi c_p0_size)])), (a_p1, .inr (3, [.ref a_p1_values, .int (zi c_p1_count)])), (a_p1_values, zI J 9 f_p1_values)] [(0, .ref a_t), (1, .ref a_p0), (2, .ref a_p1), (3, .int (zi (0 : Int))), (4, .int (zi (0 : Int)))] [0, 1, 2, 3, 4, 5, 6] [2, 3, 4, 1, 0] rfl rfl rfl ?_
  refine zl_X0_pointsThatBegin_L5 (F := F) (hk := fun v12 v13 hsh => ?_) _ _ _ hsh
  refine z_iload_n (pc' := 38) 0 dX0_pointsThatBegin_37 rfl rfl rfl ?_
  cases hsh
  exact z_iret rfl dX0_pointsThatBegin_38 ⟨rfl, rfl⟩
def sh_X0_playRound (F : Nat) (c_t_limit : Int) (c_t_hungSet : Int) (c_t_bucketSum : Int) (c_t_gradeSum : Int) (f_t_buckets : Nat → Int) (f_t_grades : Nat → Int) (f_t_heights : Nat → Int) (f_t_drawn : Nat → Int) (c_p0_size : Int) (f_p0_neighbours : Nat → Int) (f_p0_neighbourCount : Nat → Int) (p1 : Int) : Option (Int × Int × Int × (Nat → Int) × (Nat → Int) × (Nat → Int) × (Nat → Int)) := (sh_X2_size F c_p0_size).bind (fun (q1 : Int) => zkr q1 (if (0 : Int) < q1 then zkr p1 (zkr (zmod p1 (4 : Int)) (if (zmod p1 (4 : Int)) = (0 : Int) then zkr (zdiv p1 (4 : Int)) (zkc (¬ q1 = 0) ((sh_X0_turnHung F c_t_hungSet (zmod (zdiv p1 (4 : Int)) q1)).bind (fun (q12 : Int) => (sh_X0_takeByOrder F c_t_limit q12 c_t_bucketSum c_t_gradeSum f_t_buckets f_t_grades f_t_heights f_t_drawn c_p0_size f_p0_neighbours f_p0_neighbourCount (1 : Int)).bind (fun (q14 : Int × Int × Int × (Nat → Int) × (Nat → Int) × (Nat → Int) × (Nat → Int)) => some (q12, q14.2.1, q14.2.2.1, q14.2.2.2.1, q14.2.2.2.2.1, q14.2.2.2.2.2.1, q14.2.2.2.2.2.2))))) else (sh_X0_takeByOrder F c_t_limit c_t_hungSet c_t_bucketSum c_t_gradeSum f_t_buckets f_t_grades f_t_heights f_t_drawn c_p0_size f_p0_neighbours f_p0_neighbourCount (1 : Int)).bind (fun (q8 : Int × Int × Int × (Nat → Int) × (Nat → Int) × (Nat → Int) × (Nat → Int)) => some (c_t_hungSet, q8.2.1, q8.2.2.1, q8.2.2.2.1, q8.2.2.2.2.1, q8.2.2.2.2.2.1, q8.2.2.2.2.2.2)))) else (sh_X0_takeByOrder F c_t_limit c_t_hungSet c_t_bucketSum c_t_gradeSum f_t_buckets f_t_grades f_t_heights f_t_drawn c_p0_size f_p0_neighbours f_p0_neighbourCount (1 : Int)).bind (fun (q4 : Int × Int × Int × (Nat → Int) × (Nat → Int) × (Nat → Int) × (Nat → Int)) => some (c_t_hungSet, q4.2.1, q4.2.2.1, q4.2.2.2.1, q4.2.2.2.2.1, q4.2.2.2.2.2.1, q4.2.2.2.2.2.2))))
set_option maxRecDepth 100000 in
set_option maxHeartbeats 4000000 in
theorem zc_X0_playRound (l : Launch) (D : va_G) (J : Nat → ClassId) (F : Nat) (a_t : Nat) (a_p0 : Nat) (a_t_buckets : Nat) (a_t_grades : Nat) (a_t_heights : Nat) (a_t_drawn : Nat) (a_p0_rowOf : Nat) (a_p0_columnOf : Nat) (a_p0_neighbours : Nat) (a_p0_neighbourCount : Nat) (c_t_limit : Int) (c_t_hungSet : Int) (c_t_bucketSum : Int) (c_t_gradeSum : Int) (f_t_buckets : Nat → Int) (f_t_grades : Nat → Int) (f_t_heights : Nat → Int) (f_t_drawn : Nat → Int) (c_p0_size : Int) (f_p0_neighbours : Nat → Int) (f_p0_neighbourCount : Nat → Int) (p1 : Int) (res : Int × Int × Int × (Nat → Int) × (Nat → Int) × (Nat → Int) × (Nat → Int)) (hsh : sh_X0_playRound F c_t_limit c_t_hungSet c_t_bucketSum c_t_gradeSum f_t_buckets f_t_grades f_t_heights f_t_drawn c_p0_size f_p0_neighbours f_p0_neighbourCount p1 = some res) : ZM l D J yX0_playRound wsX0_playRound ({ frames := 5, cells := 0, slots := 0, locals := 133 } : Room) 0 0 [.ref a_t, .ref a_p0, .int (zi p1)] [(a_t, .inr (0, [.ref a_t_buckets, .ref a_t_grades, .ref a_t_heights, .ref a_t_drawn, .int (zi c_t_limit), .int (zi c_t_hungSet), .int (zi c_t_bucketSum), .int (zi c_t_gradeSum)])), (a_t_buckets, zI J 96 f_t_buckets), (a_t_grades, zI J 96 f_t_grades), (a_t_heights, zI J 16 f_t_heights), (a_t_drawn, zI J 16 f_t_drawn), (a_p0, .inr (2, [.ref a_p0_rowOf, .ref a_p0_columnOf, .ref a_p0_neighbours, .ref a_p0_neighbourCount, .int (zi c_p0_size)])), (a_p0_neighbours, zI J 64 f_p0_neighbours), (a_p0_neighbourCount, zI J 16 f_p0_neighbourCount)] (fun rv w9 => rv = none ∧ w9 = [(a_t, .inr (0, [.ref a_t_buckets, .ref a_t_grades, .ref a_t_heights, .ref a_t_drawn, .int (zi c_t_limit), .int (zi res.1), .int (zi res.2.1), .int (zi res.2.2.1)])), (a_t_buckets, zI J 96 res.2.2.2.1), (a_t_grades, zI J 96 res.2.2.2.2.1), (a_t_heights, zI J 16 res.2.2.2.2.2.1), (a_t_drawn, zI J 16 res.2.2.2.2.2.2), (a_p0, .inr (2, [.ref a_p0_rowOf, .ref a_p0_columnOf, .ref a_p0_neighbours, .ref a_p0_neighbourCount, .int (zi c_p0_size)])), (a_p0_neighbours, zI J 64 f_p0_neighbours), (a_p0_neighbourCount, zI J 16 f_p0_neighbourCount)]) := by
  refine z_ofZ (cc := cX0_playRound) (maxL := 4) (ret := none) 0 0 (by decide) rfl (Nat.le_of_ble_eq_true rfl) [(0, .ref a_t), (1, .ref a_p0), (2, .int (zi p1))] rfl ?_
  intro p e s m args below meth c A
  unfold sh_X0_playRound at hsh
  refine z_aload_n (pc' := 1) 1 dX0_playRound_0 rfl rfl rfl ?_
  obtain ⟨q1, h2, hsh⟩ := zbind hsh
  refine z_callV (pc' := 4) (C := RX2) (As := []) (rest := []) (wr := [(a_t, .inr (0, [.ref a_t_buckets, .ref a_t_grades, .ref a_t_heights, .ref a_t_drawn, .int (zi c_t_limit), .int (zi c_t_hungSet), .int (zi c_t_bucketSum), .int (zi c_t_gradeSum)])), (a_t_buckets, zI J 96 f_t_buckets), (a_t_grades, zI J 96 f_t_grades), (a_t_heights, zI J 16 f_t_heights), (a_t_drawn, zI J 16 f_t_drawn), (a_p0_neighbours, zI J 64 f_p0_neighbours), (a_p0_neighbourCount, zI J 16 f_p0_neighbourCount)]) 0 (zc_X2_size l D J F (a_t := a_p0) (a_t_rowOf := a_p0_rowOf) (a_t_columnOf := a_p0_columnOf) (a_t_neighbours := a_p0_neighbours) (a_t_neighbourCount := a_p0_neighbourCount) (c_t_size := c_p0_size)  q1 h2) dX0_playRound_1 gX0_playRound_X2_size rfl rfl rfl (by decide +kernel) ⟨Nat.le_of_ble_eq_true rfl, Nat.le_of_ble_eq_true rfl⟩ ⟨Nat.le_of_ble_eq_true rfl, Nat.le_of_ble_eq_true rfl⟩ (z_spl_of [5, 0, 1, 2, 3, 4, 6, 7] rfl rfl) rfl rfl rfl rfl (Nat.le_of_ble_eq_true rfl) rfl (fun rv w9 hq => ?_)
  obtain ⟨rfl, rfl⟩ := hq
  refine z_ws [(a_t, .inr (0, [.ref a_t_buckets, .ref a_t_grades, .ref a_t_heights, .ref a_t_drawn, .int (zi c_t_limit), .int (zi c_t_hungSet), .int (zi c_t_bucketSum), .int (zi c_t_gradeSum)])), (a_t_buckets, zI J 96 f_t_buckets), (a_t_grades, zI J 96 f_t_grades), (a_t_heights, zI J 16 f_t_heights), (a_t_drawn, zI J 16 f_t_drawn), (a_p0_neighbours, zI J 64 f_p0_neighbours), (a_p0_neighbourCount, zI J 16 f_p0_neighbourCount), (a_p0, .inr (2, [.ref a_p0_rowOf, .ref a_p0_columnOf, .ref a_p0_neighbours, .ref a_p0_neighbourCount, .int (zi c_p0_size)]))] rfl ?_
  refine z_istore_n (pc' := 5) [(3, .int (zi q1)), (0, .ref a_t), (1, .ref a_p0), (2, .int (zi p1))] dX0_playRound_4 rfl (by decide) rfl rfl ?_
  refine z_iload_n (pc' := 6) 0 dX0_playRound_5 rfl rfl rfl ?_
  have g3 := zkr_p hsh
  replace hsh := zkr_k hsh
  refine z_if_le (pc' := 9) (tgt := 24) dX0_playRound_6 (by decide) g3 rfl (fun q => ?_) (fun q => ?_)
  · replace hsh := zif_f q hsh
    refine z_aload_n (pc' := 25) 1 dX0_playRound_24 rfl rfl rfl ?_
    refine z_aload_n (pc' := 26) 2 dX0_playRound_25 rfl rfl rfl ?_
    refine z_iconst (pc' := 27) dX0_playRound_26 rfl ?_
    obtain ⟨q4, h5, hsh⟩ := zbind hsh
    refine z_callV (pc' := 30) (C := RX0) (As := [.ref a_p0, .int (zi (1 : Int))]) (rest := []) (wr := []) 2 (zc_X0_takeByOrder l D J F (a_t := a_t) (a_p0 := a_p0) (a_t_buckets := a_t_buckets) (a_t_grades := a_t_grades) (a_t_heights := a_t_heights) (a_t_drawn := a_t_drawn) (a_p0_rowOf := a_p0_rowOf) (a_p0_columnOf := a_p0_columnOf) (a_p0_neighbours := a_p0_neighbours) (a_p0_neighbourCount := a_p0_neighbourCount) (c_t_limit := c_t_limit) (c_t_hungSet := c_t_hungSet) (c_t_bucketSum := c_t_bucketSum) (c_t_gradeSum := c_t_gradeSum) (f_t_buckets := f_t_buckets) (f_t_grades := f_t_grades) (f_t_heights := f_t_heights) (f_t_drawn := f_t_drawn) (c_p0_size := c_p0_size) (f_p0_neighbours := f_p0_neighbours) (f_p0_neighbourCount := f_p0_neighbourCount) (p1 := (1 : Int))  q4 h5) dX0_playRound_27 gX0_playRound_X0_takeByOrder rfl rfl rfl (by decide +kernel) ⟨Nat.le_of_ble_eq_true rfl, Nat.le_of_ble_eq_true rfl⟩ ⟨Nat.le_of_ble_eq_true rfl, Nat.le_of_ble_eq_true rfl⟩ (z_spl_of [0, 1, 2, 3, 4, 7, 5, 6] rfl rfl) rfl rfl rfl rfl (Nat.le_of_ble_eq_true rfl) rfl (fun rv w9 hq => ?_)
    obtain ⟨rfl, rfl⟩ := hq
    refine z_ws [(a_t, .inr (0, [.ref a_t_buckets, .ref a_t_grades, .ref a_t_heights, .ref a_t_drawn, .int (zi c_t_limit), .int (zi c_t_hungSet), .int (zi q4.2.1), .int (zi q4.2.2.1)])), (a_t_buckets, zI J 96 q4.2.2.2.1), (a_t_grades, zI J 96 q4.2.2.2.2.1), (a_t_heights, zI J 16 q4.2.2.2.2.2.1), (a_t_drawn, zI J 16 q4.2.2.2.2.2.2), (a_p0, .inr (2, [.ref a_p0_rowOf, .ref a_p0_columnOf, .ref a_p0_neighbours, .ref a_p0_neighbourCount, .int (zi c_p0_size)])), (a_p0_neighbours, zI J 64 f_p0_neighbours), (a_p0_neighbourCount, zI J 16 f_p0_neighbourCount)] rfl ?_
    refine z_pop (pc' := 31) dX0_playRound_30 rfl rfl ?_
    cases hsh
    exact z_vret rfl dX0_playRound_31 ⟨rfl, rfl⟩
  · replace hsh := zif_t q hsh
    refine z_iload_n (pc' := 10) 3 dX0_playRound_9 rfl rfl rfl ?_
    refine z_iconst (pc' := 11) dX0_playRound_10 rfl ?_
    have g6 := zkr_p hsh
    replace hsh := zkr_k hsh
    refine z_irem (pc' := 12) dX0_playRound_11 g6 (by decide) (by decide) rfl ?_
    have g7 := zkr_p hsh
    replace hsh := zkr_k hsh
    refine z_if_ne (pc' := 15) (tgt := 24) dX0_playRound_12 (by decide) g7 rfl (fun q => ?_) (fun q => ?_)
    · replace hsh := zif_f q hsh
      refine z_aload_n (pc' := 25) 1 dX0_playRound_24 rfl rfl rfl ?_
      refine z_aload_n (pc' := 26) 2 dX0_playRound_25 rfl rfl rfl ?_
      refine z_iconst (pc' := 27) dX0_playRound_26 rfl ?_
      obtain ⟨q8, h9, hsh⟩ := zbind hsh
      refine z_callV (pc' := 30) (C := RX0) (As := [.ref a_p0, .int (zi (1 : Int))]) (rest := []) (wr := []) 2 (zc_X0_takeByOrder l D J F (a_t := a_t) (a_p0 := a_p0) (a_t_buckets := a_t_buckets) (a_t_grades := a_t_grades) (a_t_heights := a_t_heights) (a_t_drawn := a_t_drawn) (a_p0_rowOf := a_p0_rowOf) (a_p0_columnOf := a_p0_columnOf) (a_p0_neighbours := a_p0_neighbours) (a_p0_neighbourCount := a_p0_neighbourCount) (c_t_limit := c_t_limit) (c_t_hungSet := c_t_hungSet) (c_t_bucketSum := c_t_bucketSum) (c_t_gradeSum := c_t_gradeSum) (f_t_buckets := f_t_buckets) (f_t_grades := f_t_grades) (f_t_heights := f_t_heights) (f_t_drawn := f_t_drawn) (c_p0_size := c_p0_size) (f_p0_neighbours := f_p0_neighbours) (f_p0_neighbourCount := f_p0_neighbourCount) (p1 := (1 : Int))  q8 h9) dX0_playRound_27 gX0_playRound_X0_takeByOrder rfl rfl rfl (by decide +kernel) ⟨Nat.le_of_ble_eq_true rfl, Nat.le_of_ble_eq_true rfl⟩ ⟨Nat.le_of_ble_eq_true rfl, Nat.le_of_ble_eq_true rfl⟩ (z_spl_of [0, 1, 2, 3, 4, 7, 5, 6] rfl rfl) rfl rfl rfl rfl (Nat.le_of_ble_eq_true rfl) rfl (fun rv w9 hq => ?_)
      obtain ⟨rfl, rfl⟩ := hq
      refine z_ws [(a_t, .inr (0, [.ref a_t_buckets, .ref a_t_grades, .ref a_t_heights, .ref a_t_drawn, .int (zi c_t_limit), .int (zi c_t_hungSet), .int (zi q8.2.1), .int (zi q8.2.2.1)])), (a_t_buckets, zI J 96 q8.2.2.2.1), (a_t_grades, zI J 96 q8.2.2.2.2.1), (a_t_heights, zI J 16 q8.2.2.2.2.2.1), (a_t_drawn, zI J 16 q8.2.2.2.2.2.2), (a_p0, .inr (2, [.ref a_p0_rowOf, .ref a_p0_columnOf, .ref a_p0_neighbours, .ref a_p0_neighbourCount, .int (zi c_p0_size)])), (a_p0_neighbours, zI J 64 f_p0_neighbours), (a_p0_neighbourCount, zI J 16 f_p0_neighbourCount)] rfl ?_
      refine z_pop (pc' := 31) dX0_playRound_30 rfl rfl ?_
      cases hsh
      exact z_vret rfl dX0_playRound_31 ⟨rfl, rfl⟩
    · replace hsh := zif_t q hsh
      refine z_aload_n (pc' := 16) 1 dX0_playRound_15 rfl rfl rfl ?_
      refine z_iload_n (pc' := 17) 3 dX0_playRound_16 rfl rfl rfl ?_
      refine z_iconst (pc' := 18) dX0_playRound_17 rfl ?_
      refine z_idiv (pc' := 19) dX0_playRound_18 g6 (by decide) (by decide) rfl ?_
      refine z_iload_n (pc' := 20) 0 dX0_playRound_19 rfl rfl rfl ?_
      have g10 := zkr_p hsh
      replace hsh := zkr_k hsh
      have g11 := zkc_p hsh
      replace hsh := zkc_k hsh
      refine z_irem (pc' := 21) dX0_playRound_20 g10 g3 g11 rfl ?_
      obtain ⟨q12, h13, hsh⟩ := zbind hsh
      refine z_callV (pc' := 24) (C := RX0) (As := [.int (zi (zmod (zdiv p1 (4 : Int)) q1))]) (rest := []) (wr := [(a_t_buckets, zI J 96 f_t_buckets), (a_t_grades, zI J 96 f_t_grades), (a_t_heights, zI J 16 f_t_heights), (a_t_drawn, zI J 16 f_t_drawn), (a_p0_neighbours, zI J 64 f_p0_neighbours), (a_p0_neighbourCount, zI J 16 f_p0_neighbourCount), (a_p0, .inr (2, [.ref a_p0_rowOf, .ref a_p0_columnOf, .ref a_p0_neighbours, .ref a_p0_neighbourCount, .int (zi c_p0_size)]))]) 1 (zc_X0_turnHung l D J F (a_t := a_t) (a_t_buckets := a_t_buckets) (a_t_grades := a_t_grades) (a_t_heights := a_t_heights) (a_t_drawn := a_t_drawn) (c_t_limit := c_t_limit) (c_t_hungSet := c_t_hungSet) (c_t_bucketSum := c_t_bucketSum) (c_t_gradeSum := c_t_gradeSum) (p0 := (zmod (zdiv p1 (4 : Int)) q1))  q12 h13) dX0_playRound_21 gX0_playRound_X0_turnHung rfl rfl rfl (by decide +kernel) ⟨Nat.le_of_ble_eq_true rfl, Nat.le_of_ble_eq_true rfl⟩ ⟨Nat.le_of_ble_eq_true rfl, Nat.le_of_ble_eq_true rfl⟩ (z_spl_of [0, 1, 2, 3, 4, 5, 6, 7] rfl rfl) rfl rfl rfl rfl (Nat.le_of_ble_eq_true rfl) rfl (fun rv w9 hq => ?_)
      obtain ⟨rfl, rfl⟩ := hq
      refine z_ws [(a_t_buckets, zI J 96 f_t_buckets), (a_t_grades, zI J 96 f_t_grades), (a_t_heights, zI J 16 f_t_heights), (a_t_drawn, zI J 16 f_t_drawn), (a_p0_neighbours, zI J 64 f_p0_neighbours), (a_p0_neighbourCount, zI J 16 f_p0_neighbourCount), (a_p0, .inr (2, [.ref a_p0_rowOf, .ref a_p0_columnOf, .ref a_p0_neighbours, .ref a_p0_neighbourCount, .int (zi c_p0_size)])), (a_t, .inr (0, [.ref a_t_buckets, .ref a_t_grades, .ref a_t_heights, .ref a_t_drawn, .int (zi c_t_limit), .int (zi q12), .int (zi c_t_bucketSum), .int (zi c_t_gradeSum)]))] rfl ?_
      refine z_aload_n (pc' := 25) 1 dX0_playRound_24 rfl rfl rfl ?_
      refine z_aload_n (pc' := 26) 2 dX0_playRound_25 rfl rfl rfl ?_
      refine z_iconst (pc' := 27) dX0_playRound_26 rfl ?_
      obtain ⟨q14, h15, hsh⟩ := zbind hsh
      refine z_callV (pc' := 30) (C := RX0) (As := [.ref a_p0, .int (zi (1 : Int))]) (rest := []) (wr := []) 2 (zc_X0_takeByOrder l D J F (a_t := a_t) (a_p0 := a_p0) (a_t_buckets := a_t_buckets) (a_t_grades := a_t_grades) (a_t_heights := a_t_heights) (a_t_drawn := a_t_drawn) (a_p0_rowOf := a_p0_rowOf) (a_p0_columnOf := a_p0_columnOf) (a_p0_neighbours := a_p0_neighbours) (a_p0_neighbourCount := a_p0_neighbourCount) (c_t_limit := c_t_limit) (c_t_hungSet := q12) (c_t_bucketSum := c_t_bucketSum) (c_t_gradeSum := c_t_gradeSum) (f_t_buckets := f_t_buckets) (f_t_grades := f_t_grades) (f_t_heights := f_t_heights) (f_t_drawn := f_t_drawn) (c_p0_size := c_p0_size) (f_p0_neighbours := f_p0_neighbours) (f_p0_neighbourCount := f_p0_neighbourCount) (p1 := (1 : Int))  q14 h15) dX0_playRound_27 gX0_playRound_X0_takeByOrder rfl rfl rfl (by decide +kernel) ⟨Nat.le_of_ble_eq_true rfl, Nat.le_of_ble_eq_true rfl⟩ ⟨Nat.le_of_ble_eq_true rfl, Nat.le_of_ble_eq_true rfl⟩ (z_spl_of [7, 0, 1, 2, 3, 6, 4, 5] rfl rfl) rfl rfl rfl rfl (Nat.le_of_ble_eq_true rfl) rfl (fun rv w9 hq => ?_)
      obtain ⟨rfl, rfl⟩ := hq
      refine z_ws [(a_t, .inr (0, [.ref a_t_buckets, .ref a_t_grades, .ref a_t_heights, .ref a_t_drawn, .int (zi c_t_limit), .int (zi q12), .int (zi q14.2.1), .int (zi q14.2.2.1)])), (a_t_buckets, zI J 96 q14.2.2.2.1), (a_t_grades, zI J 96 q14.2.2.2.2.1), (a_t_heights, zI J 16 q14.2.2.2.2.2.1), (a_t_drawn, zI J 16 q14.2.2.2.2.2.2), (a_p0, .inr (2, [.ref a_p0_rowOf, .ref a_p0_columnOf, .ref a_p0_neighbours, .ref a_p0_neighbourCount, .int (zi c_p0_size)])), (a_p0_neighbours, zI J 64 f_p0_neighbours), (a_p0_neighbourCount, zI J 16 f_p0_neighbourCount)] rfl ?_
      refine z_pop (pc' := 31) dX0_playRound_30 rfl rfl ?_
      cases hsh
      exact z_vret rfl dX0_playRound_31 ⟨rfl, rfl⟩
def sh_X0_gradeSum (F : Nat) (c_t_gradeSum : Int) : Option (Int) := some (c_t_gradeSum)
theorem mX0_gradeSum_f40 : Cond.fieldLink RX0 40 (TX0 7).1 (TX0 7).2.1 (TX0 7).2.2.1 ∈ wsX0_gradeSum := List.mem_of_getElem? (i := 1) rfl
theorem iX0_gradeSum_X0 : ∀ w ∈ wsX00, w ∈ wsX0_gradeSum := fun _ h => (List.mem_cons_of_mem _ (List.mem_append_right _ h))
set_option maxRecDepth 100000 in
set_option maxHeartbeats 4000000 in
theorem zc_X0_gradeSum (l : Launch) (D : va_G) (J : Nat → ClassId) (F : Nat) (a_t : Nat) (a_t_buckets : Nat) (a_t_grades : Nat) (a_t_heights : Nat) (a_t_drawn : Nat) (c_t_limit : Int) (c_t_hungSet : Int) (c_t_bucketSum : Int) (c_t_gradeSum : Int) (res : Int) (hsh : sh_X0_gradeSum F c_t_gradeSum = some res) : ZM l D J yX0_gradeSum wsX0_gradeSum ({ frames := 0, cells := 0, slots := 0, locals := 0 } : Room) 0 0 [.ref a_t] [(a_t, .inr (0, [.ref a_t_buckets, .ref a_t_grades, .ref a_t_heights, .ref a_t_drawn, .int (zi c_t_limit), .int (zi c_t_hungSet), .int (zi c_t_bucketSum), .int (zi c_t_gradeSum)]))] (fun rv w9 => rv = some (.int (zi res)) ∧ w9 = [(a_t, .inr (0, [.ref a_t_buckets, .ref a_t_grades, .ref a_t_heights, .ref a_t_drawn, .int (zi c_t_limit), .int (zi c_t_hungSet), .int (zi c_t_bucketSum), .int (zi c_t_gradeSum)]))]) := by
  refine z_ofZ (cc := cX0_gradeSum) (maxL := 1) (ret := (some .int)) 0 0 (by decide) rfl (Nat.le_of_ble_eq_true rfl) [(0, .ref a_t)] rfl ?_
  intro p e s m args below meth c A
  unfold sh_X0_gradeSum at hsh
  refine z_aload_n (pc' := 1) 0 dX0_gradeSum_0 rfl rfl rfl ?_
  refine z_getfield (pc' := 4) (C := RX0) (T := TX0) (N := 8) 0 7 dX0_gradeSum_1 iX0_gradeSum_X0 rfl rfl (by decide) mX0_gradeSum_f40 rfl rfl ?_
  cases hsh
  exact z_iret rfl dX0_gradeSum_4 ⟨rfl, rfl⟩
def sh_X0_bucketSum (F : Nat) (c_t_bucketSum : Int) : Option (Int) := some (c_t_bucketSum)
theorem mX0_bucketSum_f37 : Cond.fieldLink RX0 37 (TX0 6).1 (TX0 6).2.1 (TX0 6).2.2.1 ∈ wsX0_bucketSum := List.mem_of_getElem? (i := 1) rfl
theorem iX0_bucketSum_X0 : ∀ w ∈ wsX00, w ∈ wsX0_bucketSum := fun _ h => (List.mem_cons_of_mem _ (List.mem_append_right _ h))
set_option maxRecDepth 100000 in
set_option maxHeartbeats 4000000 in
theorem zc_X0_bucketSum (l : Launch) (D : va_G) (J : Nat → ClassId) (F : Nat) (a_t : Nat) (a_t_buckets : Nat) (a_t_grades : Nat) (a_t_heights : Nat) (a_t_drawn : Nat) (c_t_limit : Int) (c_t_hungSet : Int) (c_t_bucketSum : Int) (c_t_gradeSum : Int) (res : Int) (hsh : sh_X0_bucketSum F c_t_bucketSum = some res) : ZM l D J yX0_bucketSum wsX0_bucketSum ({ frames := 0, cells := 0, slots := 0, locals := 0 } : Room) 0 0 [.ref a_t] [(a_t, .inr (0, [.ref a_t_buckets, .ref a_t_grades, .ref a_t_heights, .ref a_t_drawn, .int (zi c_t_limit), .int (zi c_t_hungSet), .int (zi c_t_bucketSum), .int (zi c_t_gradeSum)]))] (fun rv w9 => rv = some (.int (zi res)) ∧ w9 = [(a_t, .inr (0, [.ref a_t_buckets, .ref a_t_grades, .ref a_t_heights, .ref a_t_drawn, .int (zi c_t_limit), .int (zi c_t_hungSet), .int (zi c_t_bucketSum), .int (zi c_t_gradeSum)]))]) := by
  refine z_ofZ (cc := cX0_bucketSum) (maxL := 1) (ret := (some .int)) 0 0 (by decide) rfl (Nat.le_of_ble_eq_true rfl) [(0, .ref a_t)] rfl ?_
  intro p e s m args below meth c A
  unfold sh_X0_bucketSum at hsh
  refine z_aload_n (pc' := 1) 0 dX0_bucketSum_0 rfl rfl rfl ?_
  refine z_getfield (pc' := 4) (C := RX0) (T := TX0) (N := 8) 0 6 dX0_bucketSum_1 iX0_bucketSum_X0 rfl rfl (by decide) mX0_bucketSum_f37 rfl rfl ?_
  cases hsh
  exact z_iret rfl dX0_bucketSum_4 ⟨rfl, rfl⟩
def sh_X0_init (F : Nat) : Option (Unit) := some (())
theorem mX0_init_oi : Cond.methodLink RX0 3 objectInit ∈ wsX0_init := List.mem_of_getElem? (i := 1) rfl
theorem mX0_init_oim : Cond.instanceMethod objectInit ∈ wsX0_init := List.mem_of_getElem? (i := 2) rfl
theorem mX0_init_oic : Cond.code objectInit ⟨#[0xb1]⟩ 1 none ∈ wsX0_init := List.mem_of_getElem? (i := 3) rfl
theorem mX0_init_aint : Cond.arrayClass .int ∈ wsX0_init := List.mem_of_getElem? (i := 4) rfl
theorem mX0_init_f9 : Cond.fieldLink RX0 9 (TX0 0).1 (TX0 0).2.1 (TX0 0).2.2.1 ∈ wsX0_init := List.mem_of_getElem? (i := 5) rfl
theorem iX0_init_X0 : ∀ w ∈ wsX00, w ∈ wsX0_init := fun _ h => (List.mem_cons_of_mem _ (List.mem_append_right _ h))
theorem mX0_init_f15 : Cond.fieldLink RX0 15 (TX0 1).1 (TX0 1).2.1 (TX0 1).2.2.1 ∈ wsX0_init := List.mem_of_getElem? (i := 6) rfl
theorem mX0_init_f18 : Cond.fieldLink RX0 18 (TX0 2).1 (TX0 2).2.1 (TX0 2).2.2.1 ∈ wsX0_init := List.mem_of_getElem? (i := 7) rfl
theorem mX0_init_f21 : Cond.fieldLink RX0 21 (TX0 3).1 (TX0 3).2.1 (TX0 3).2.2.1 ∈ wsX0_init := List.mem_of_getElem? (i := 8) rfl
set_option maxRecDepth 100000 in
set_option maxHeartbeats 4000000 in
theorem zc_X0_init (l : Launch) (D : va_G) (J : Nat → ClassId) (F : Nat) (a_t : Nat) (res : Unit) (hsh : sh_X0_init F = some res) : ZM l D J yX0_init wsX0_init ({ frames := 1, cells := 4, slots := 224, locals := 20 } : Room) 4 224 [.ref a_t] [(a_t, .inr (0, [.null, .null, .null, .null, .int (zi (0 : Int)), .int (zi (0 : Int)), .int (zi (0 : Int)), .int (zi (0 : Int))]))] (fun rv w9 => rv = none ∧ ∃ a_t_buckets a_t_grades a_t_heights a_t_drawn : Nat, w9 = [(a_t, .inr (0, [.ref a_t_buckets, .ref a_t_grades, .ref a_t_heights, .ref a_t_drawn, .int (zi (0 : Int)), .int (zi (0 : Int)), .int (zi (0 : Int)), .int (zi (0 : Int))])), (a_t_buckets, zI J 96 (fun _ => 0)), (a_t_grades, zI J 96 (fun _ => 0)), (a_t_heights, zI J 16 (fun _ => 0)), (a_t_drawn, zI J 16 (fun _ => 0))]) := by
  refine z_ofZ (cc := cX0_init) (maxL := 1) (ret := none) 4 224 (by decide) rfl (Nat.le_of_ble_eq_true rfl) [(0, .ref a_t)] rfl ?_
  intro p e s m args below meth c A
  unfold sh_X0_init at hsh
  refine z_aload_n (pc' := 1) 0 dX0_init_0 rfl rfl rfl ?_
  refine z_objInit (pc' := 4) dX0_init_1 mX0_init_oi mX0_init_oim mX0_init_oic (Nat.le_of_ble_eq_true rfl) (Nat.le_of_ble_eq_true rfl) rfl ?_
  refine z_aload_n (pc' := 5) 0 dX0_init_4 rfl rfl rfl ?_
  refine z_bipush (pc' := 7) dX0_init_5 (by decide) rfl ?_
  refine z_newarr_int (pc' := 9) 96 1 96 dX0_init_7 mX0_init_aint rfl (by decide) rfl rfl (Nat.le_of_ble_eq_true rfl) (Nat.le_of_ble_eq_true rfl) rfl (fun b1 => ?_)
  refine z_ws [(a_t, .inr (0, [.null, .null, .null, .null, .int (zi (0 : Int)), .int (zi (0 : Int)), .int (zi (0 : Int)), .int (zi (0 : Int))])), (b1, zI J 96 (fun _ => 0))] rfl ?_
  refine z_putfin (pc' := 12) (C := RX0) (T := TX0) (N := 8) (ty := tyX0 0) 0 0 [(a_t, .inr (0, [.ref b1, .null, .null, .null, .int (zi (0 : Int)), .int (zi (0 : Int)), .int (zi (0 : Int)), .int (zi (0 : Int))])), (b1, zI J 96 (fun _ => 0))] tyX0 tyX0_ok nmX0 dX0_init_9 iX0_init_X0 rfl rfl (by decide) mX0_init_f9 rfl rfl rfl (tyX0_ok 0 (by decide)) rfl rfl (Nat.le_of_ble_eq_true rfl) rfl rfl ?_
  refine z_aload_n (pc' := 13) 0 dX0_init_12 rfl rfl rfl ?_
  refine z_bipush (pc' := 15) dX0_init_13 (by decide) rfl ?_
  refine z_newarr_int (pc' := 17) 96 2 192 dX0_init_15 mX0_init_aint rfl (by decide) rfl rfl (Nat.le_of_ble_eq_true rfl) (Nat.le_of_ble_eq_true rfl) rfl (fun b2 => ?_)
  refine z_ws [(a_t, .inr (0, [.ref b1, .null, .null, .null, .int (zi (0 : Int)), .int (zi (0 : Int)), .int (zi (0 : Int)), .int (zi (0 : Int))])), (b1, zI J 96 (fun _ => 0)), (b2, zI J 96 (fun _ => 0))] rfl ?_
  refine z_putfin (pc' := 20) (C := RX0) (T := TX0) (N := 8) (ty := tyX0 1) 0 1 [(a_t, .inr (0, [.ref b1, .ref b2, .null, .null, .int (zi (0 : Int)), .int (zi (0 : Int)), .int (zi (0 : Int)), .int (zi (0 : Int))])), (b1, zI J 96 (fun _ => 0)), (b2, zI J 96 (fun _ => 0))] tyX0 tyX0_ok nmX0 dX0_init_17 iX0_init_X0 rfl rfl (by decide) mX0_init_f15 rfl rfl rfl (tyX0_ok 1 (by decide)) rfl rfl (Nat.le_of_ble_eq_true rfl) rfl rfl ?_
  refine z_aload_n (pc' := 21) 0 dX0_init_20 rfl rfl rfl ?_
  refine z_bipush (pc' := 23) dX0_init_21 (by decide) rfl ?_
  refine z_newarr_int (pc' := 25) 16 3 208 dX0_init_23 mX0_init_aint rfl (by decide) rfl rfl (Nat.le_of_ble_eq_true rfl) (Nat.le_of_ble_eq_true rfl) rfl (fun b3 => ?_)
  refine z_ws [(a_t, .inr (0, [.ref b1, .ref b2, .null, .null, .int (zi (0 : Int)), .int (zi (0 : Int)), .int (zi (0 : Int)), .int (zi (0 : Int))])), (b1, zI J 96 (fun _ => 0)), (b2, zI J 96 (fun _ => 0)), (b3, zI J 16 (fun _ => 0))] rfl ?_
  refine z_putfin (pc' := 28) (C := RX0) (T := TX0) (N := 8) (ty := tyX0 2) 0 2 [(a_t, .inr (0, [.ref b1, .ref b2, .ref b3, .null, .int (zi (0 : Int)), .int (zi (0 : Int)), .int (zi (0 : Int)), .int (zi (0 : Int))])), (b1, zI J 96 (fun _ => 0)), (b2, zI J 96 (fun _ => 0)), (b3, zI J 16 (fun _ => 0))] tyX0 tyX0_ok nmX0 dX0_init_25 iX0_init_X0 rfl rfl (by decide) mX0_init_f18 rfl rfl rfl (tyX0_ok 2 (by decide)) rfl rfl (Nat.le_of_ble_eq_true rfl) rfl rfl ?_
  refine z_aload_n (pc' := 29) 0 dX0_init_28 rfl rfl rfl ?_
  refine z_bipush (pc' := 31) dX0_init_29 (by decide) rfl ?_
  refine z_newarr_int (pc' := 33) 16 4 224 dX0_init_31 mX0_init_aint rfl (by decide) rfl rfl (Nat.le_of_ble_eq_true rfl) (Nat.le_of_ble_eq_true rfl) rfl (fun b4 => ?_)
  refine z_ws [(a_t, .inr (0, [.ref b1, .ref b2, .ref b3, .null, .int (zi (0 : Int)), .int (zi (0 : Int)), .int (zi (0 : Int)), .int (zi (0 : Int))])), (b1, zI J 96 (fun _ => 0)), (b2, zI J 96 (fun _ => 0)), (b3, zI J 16 (fun _ => 0)), (b4, zI J 16 (fun _ => 0))] rfl ?_
  refine z_putfin (pc' := 36) (C := RX0) (T := TX0) (N := 8) (ty := tyX0 3) 0 3 [(a_t, .inr (0, [.ref b1, .ref b2, .ref b3, .ref b4, .int (zi (0 : Int)), .int (zi (0 : Int)), .int (zi (0 : Int)), .int (zi (0 : Int))])), (b1, zI J 96 (fun _ => 0)), (b2, zI J 96 (fun _ => 0)), (b3, zI J 16 (fun _ => 0)), (b4, zI J 16 (fun _ => 0))] tyX0 tyX0_ok nmX0 dX0_init_33 iX0_init_X0 rfl rfl (by decide) mX0_init_f21 rfl rfl rfl (tyX0_ok 3 (by decide)) rfl rfl (Nat.le_of_ble_eq_true rfl) rfl rfl ?_
  cases hsh
  exact z_vret rfl dX0_init_36 ⟨rfl, b1, b2, b3, b4, rfl⟩
