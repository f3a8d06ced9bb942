def sh_X2_distance (F : Nat) (f_t_rowOf : Nat → Int) (f_t_columnOf : Nat → Int) (p0 : Int) (p1 : Int) : Option (Int) := zkx p0 16 (zkx p1 16 (zkr ((f_t_rowOf (p0).toNat) - (f_t_rowOf (p1).toNat)) (zkr ((f_t_columnOf (p0).toNat) - (f_t_columnOf (p1).toNat)) (some (((zabs ((f_t_rowOf (p0).toNat) - (f_t_rowOf (p1).toNat))) + (zabs ((f_t_columnOf (p0).toNat) - (f_t_columnOf (p1).toNat)))))))))
theorem mX2_distance_f9 : Cond.fieldLink RX2 9 (TX2 0).1 (TX2 0).2.1 (TX2 0).2.2.1 ∈ wsX2_distance := List.mem_of_getElem? (i := 1) rfl
theorem iX2_distance_X2 : ∀ w ∈ wsX20, w ∈ wsX2_distance := fun _ h => (List.mem_cons_of_mem _ (List.mem_append_right _ h))
theorem mX2_distance_j41 : Cond.methodLink RX2 41 Lib.Math.abs.name ∈ wsX2_distance := List.mem_of_getElem? (i := 2) rfl
theorem mX2_distance_jabss : Cond.static Lib.Math.abs.name ∈ wsX2_distance := List.mem_of_getElem? (i := 3) rfl
theorem mX2_distance_jmi : Cond.initialized "java/lang/Math" ∈ wsX2_distance := List.mem_of_getElem? (i := 4) rfl
theorem mX2_distance_jabsc : Cond.code Lib.Math.abs.name Lib.Math.abs.code 1 (some .int) ∈ wsX2_distance := List.mem_of_getElem? (i := 5) rfl
theorem mX2_distance_f15 : Cond.fieldLink RX2 15 (TX2 1).1 (TX2 1).2.1 (TX2 1).2.2.1 ∈ wsX2_distance := List.mem_of_getElem? (i := 6) rfl
set_option maxRecDepth 100000 in
set_option maxHeartbeats 4000000 in
theorem zc_X2_distance (l : Launch) (D : va_G) (J : Nat → ClassId) (F : Nat) (a_t : Nat) (a_t_rowOf : Nat) (a_t_columnOf : Nat) (a_t_neighbours : Nat) (a_t_neighbourCount : Nat) (c_t_size : Int) (f_t_rowOf : Nat → Int) (f_t_columnOf : Nat → Int) (p0 : Int) (p1 : Int) (res : Int) (hsh : sh_X2_distance F f_t_rowOf f_t_columnOf p0 p1 = some res) : ZM l D J yX2_distance wsX2_distance ({ frames := 1, cells := 0, slots := 0, locals := 21 } : Room) 0 0 [.ref a_t, .int (zi p0), .int (zi p1)] [(a_t, .inr (2, [.ref a_t_rowOf, .ref a_t_columnOf, .ref a_t_neighbours, .ref a_t_neighbourCount, .int (zi c_t_size)])), (a_t_rowOf, zI J 16 f_t_rowOf), (a_t_columnOf, zI J 16 f_t_columnOf)] (fun rv w9 => rv = some (.int (zi res)) ∧ w9 = [(a_t, .inr (2, [.ref a_t_rowOf, .ref a_t_columnOf, .ref a_t_neighbours, .ref a_t_neighbourCount, .int (zi c_t_size)])), (a_t_rowOf, zI J 16 f_t_rowOf), (a_t_columnOf, zI J 16 f_t_columnOf)]) := by
  refine z_ofZ (cc := cX2_distance) (maxL := 3) (ret := (some .int)) 0 0 (by decide) rfl (Nat.le_of_ble_eq_true rfl) [(0, .ref a_t), (1, .int (zi p0)), (2, .int (zi p1))] rfl ?_
  intro p e s m args below meth c A
  unfold sh_X2_distance at hsh
  refine z_aload_n (pc' := 1) 0 dX2_distance_0 rfl rfl rfl ?_
  refine z_getfield (pc' := 4) (C := RX2) (T := TX2) (N := 5) 0 0 dX2_distance_1 iX2_distance_X2 rfl rfl (by decide) mX2_distance_f9 rfl rfl ?_
  refine z_iload_n (pc' := 5) 1 dX2_distance_4 rfl rfl rfl ?_
  have g1 := zkx_p hsh
  replace hsh := zkx_k hsh
  refine z_iaload (pc' := 6) 1 dX2_distance_5 rfl (by decide) g1 rfl ?_
  refine z_aload_n (pc' := 7) 0 dX2_distance_6 rfl rfl rfl ?_
  refine z_getfield (pc' := 10) (C := RX2) (T := TX2) (N := 5) 0 0 dX2_distance_7 iX2_distance_X2 rfl rfl (by decide) mX2_distance_f9 rfl rfl ?_
  refine z_iload_n (pc' := 11) 2 dX2_distance_10 rfl rfl rfl ?_
  have g2 := zkx_p hsh
  replace hsh := zkx_k hsh
  refine z_iaload (pc' := 12) 1 dX2_distance_11 rfl (by decide) g2 rfl ?_
  refine z_isub (pc' := 13) dX2_distance_12 rfl ?_
  have g3 := zkr_p hsh
  replace hsh := zkr_k hsh
  refine z_abs (pc' := 16) dX2_distance_13 mX2_distance_j41 mX2_distance_jabss mX2_distance_jmi mX2_distance_jabsc (Nat.le_of_ble_eq_true rfl) (Nat.le_of_ble_eq_true rfl) (Nat.le_of_ble_eq_true rfl) (Nat.le_of_ble_eq_true rfl) g3 rfl ?_
  refine z_aload_n (pc' := 17) 0 dX2_distance_16 rfl rfl rfl ?_
  refine z_getfield (pc' := 20) (C := RX2) (T := TX2) (N := 5) 0 1 dX2_distance_17 iX2_distance_X2 rfl rfl (by decide) mX2_distance_f15 rfl rfl ?_
  refine z_iload_n (pc' := 21) 1 dX2_distance_20 rfl rfl rfl ?_
  refine z_iaload (pc' := 22) 2 dX2_distance_21 rfl (by decide) g1 rfl ?_
  refine z_aload_n (pc' := 23) 0 dX2_distance_22 rfl rfl rfl ?_
  refine z_getfield (pc' := 26) (C := RX2) (T := TX2) (N := 5) 0 1 dX2_distance_23 iX2_distance_X2 rfl rfl (by decide) mX2_distance_f15 rfl rfl ?_
  refine z_iload_n (pc' := 27) 2 dX2_distance_26 rfl rfl rfl ?_
  refine z_iaload (pc' := 28) 2 dX2_distance_27 rfl (by decide) g2 rfl ?_
  refine z_isub (pc' := 29) dX2_distance_28 rfl ?_
  have g4 := zkr_p hsh
  replace hsh := zkr_k hsh
  refine z_abs (pc' := 32) dX2_distance_29 mX2_distance_j41 mX2_distance_jabss mX2_distance_jmi mX2_distance_jabsc (Nat.le_of_ble_eq_true rfl) (Nat.le_of_ble_eq_true rfl) (Nat.le_of_ble_eq_true rfl) (Nat.le_of_ble_eq_true rfl) g4 rfl ?_
  refine z_iadd (pc' := 33) dX2_distance_32 rfl ?_
  cases hsh
  exact z_iret rfl dX2_distance_33 ⟨rfl, rfl⟩
def sh_X2_findNeighbours_L4 (F : Nat) (p0 : Int) (c_t_size : Int) (f_t_rowOf : Nat → Int) (f_t_columnOf : Nat → Int) (k : Int → Int → (Nat → Int) → Option ((Nat → Int) × (Nat → Int))) : Nat → Int → Int → (Nat → Int) → Option ((Nat → Int) × (Nat → Int))
  | 0, _, _, _ => none
  | N + 1, v6, v7, v8 => zkr v7 (zkr c_t_size (if v7 < c_t_size then zkr v6 (if v6 < (4 : Int) then (sh_X2_distance F f_t_rowOf f_t_columnOf p0 v7).bind (fun (q12 : Int) => zkr q12 (if q12 = (1 : Int) then zkx ((p0 * (4 : Int)) + v6) 64 (sh_X2_findNeighbours_L4 F p0 c_t_size f_t_rowOf f_t_columnOf k N (v6 + (1 : Int)) (v7 + (1 : Int)) (va_up v8 (((p0 * (4 : Int)) + v6)).toNat v7)) else sh_X2_findNeighbours_L4 F p0 c_t_size f_t_rowOf f_t_columnOf k N v6 (v7 + (1 : Int)) v8)) else k v6 v7 v8) else k v6 v7 v8))
def sh_X2_findNeighbours (F : Nat) (c_t_size : Int) (f_t_rowOf : Nat → Int) (f_t_columnOf : Nat → Int) (f_t_neighbours : Nat → Int) (f_t_neighbourCount : Nat → Int) (p0 : Int) : Option ((Nat → Int) × (Nat → Int)) := sh_X2_findNeighbours_L4 F p0 c_t_size f_t_rowOf f_t_columnOf (fun (v16 : Int) (v17 : Int) (v18 : (Nat → Int)) => zkx p0 16 (some (v18, (va_up f_t_neighbourCount (p0).toNat v16)))) F (0 : Int) (0 : Int) f_t_neighbours
theorem mX2_findNeighbours_f30 : Cond.fieldLink RX2 30 (TX2 4).1 (TX2 4).2.1 (TX2 4).2.2.1 ∈ wsX2_findNeighbours := List.mem_of_getElem? (i := 1) rfl
theorem iX2_findNeighbours_X2 : ∀ w ∈ wsX20, w ∈ wsX2_findNeighbours := fun _ h => (List.mem_cons_of_mem _ (List.mem_append_right _ h))
theorem mX2_findNeighbours_f18 : Cond.fieldLink RX2 18 (TX2 2).1 (TX2 2).2.1 (TX2 2).2.2.1 ∈ wsX2_findNeighbours := List.mem_of_getElem? (i := 2) rfl
theorem mX2_findNeighbours_f21 : Cond.fieldLink RX2 21 (TX2 3).1 (TX2 3).2.1 (TX2 3).2.2.1 ∈ wsX2_findNeighbours := List.mem_of_getElem? (i := 3) rfl
set_option maxRecDepth 100000 in
set_option maxHeartbeats 4000000 in
theorem zl_X2_findNeighbours_L4 {p : Program} {l : Launch} {e : Env} {s : State} {m : MethodId} {args : Array Value} {below : List Frame} {meth : Method} {c : Code} {A : Nat → Prop} {D : va_G} {J : Nat → ClassId} {F : Nat} {p0 : Int} {c_t_size : Int} {f_t_rowOf : Nat → Int} {f_t_columnOf : Nat → Int} {a_t : Nat} {a_t_rowOf : Nat} {a_t_columnOf : Nat} {a_t_neighbours : Nat} {a_t_neighbourCount : Nat} {f_t_neighbourCount : Nat → Int} {res : (Nat → Int) × (Nat → Int)} {k : Int → Int → (Nat → Int) → Option ((Nat → Int) × (Nat → Int))} (hk : ∀ (v6' : Int) (v7' : Int) (v8' : (Nat → Int)), k v6' v7' v8' = some res → Z p l e ({ frames := 2, cells := 0, slots := 0, locals := 43 } : Room) s m args below meth c (MQ below (zQ D J A (fun rv w9 => rv = none ∧ w9 = [(a_t, .inr (2, [.ref a_t_rowOf, .ref a_t_columnOf, .ref a_t_neighbours, .ref a_t_neighbourCount, .int (zi c_t_size)])), (a_t_rowOf, zI J 16 f_t_rowOf), (a_t_columnOf, zI J 16 f_t_columnOf), (a_t_neighbours, zI J 64 res.1), (a_t_neighbourCount, zI J 16 res.2)])) args s 0 0 A) cX2_findNeighbours 4 wsX2_findNeighbours RX2 D J A none (yX2_findNeighbours.name, []) 0 0 [(a_t, .inr (2, [.ref a_t_rowOf, .ref a_t_columnOf, .ref a_t_neighbours, .ref a_t_neighbourCount, .int (zi c_t_size)])), (a_t_rowOf, zI J 16 f_t_rowOf), (a_t_columnOf, zI J 16 f_t_columnOf), (a_t_neighbours, zI J 64 v8'), (a_t_neighbourCount, zI J 16 f_t_neighbourCount)] [(0, .ref a_t), (1, .int (zi p0)), (2, .int (zi v6'))] 47 []) : ∀ (N : Nat) (v6 : Int) (v7 : Int) (v8 : (Nat → Int)), sh_X2_findNeighbours_L4 F p0 c_t_size f_t_rowOf f_t_columnOf k N v6 v7 v8 = some res → Z p l e ({ frames := 2, cells := 0, slots := 0, locals := 43 } : Room) s m args below meth c (MQ below (zQ D J A (fun rv w9 => rv = none ∧ w9 = [(a_t, .inr (2, [.ref a_t_rowOf, .ref a_t_columnOf, .ref a_t_neighbours, .ref a_t_neighbourCount, .int (zi c_t_size)])), (a_t_rowOf, zI J 16 f_t_rowOf), (a_t_columnOf, zI J 16 f_t_columnOf), (a_t_neighbours, zI J 64 res.1), (a_t_neighbourCount, zI J 16 res.2)])) args s 0 0 A) cX2_findNeighbours 4 wsX2_findNeighbours RX2 D J A none (yX2_findNeighbours.name, []) 0 0 [(a_t, .inr (2, [.ref a_t_rowOf, .ref a_t_columnOf, .ref a_t_neighbours, .ref a_t_neighbourCount, .int (zi c_t_size)])), (a_t_rowOf, zI J 16 f_t_rowOf), (a_t_columnOf, zI J 16 f_t_columnOf), (a_t_neighbours, zI J 64 v8), (a_t_neighbourCount, zI J 16 f_t_neighbourCount)] [(0, .ref a_t), (1, .int (zi p0)), (2, .int (zi v6)), (3, .int (zi v7))] 4 [] := by
  intro N
  induction N with
  | zero =>
    intro v6 v7 v8 hsh
    exact absurd hsh (by simp [sh_X2_findNeighbours_L4])
  | succ N ih =>
    intro v6 v7 v8 hsh
    rw [sh_X2_findNeighbours_L4] at hsh
    refine z_iload_n (pc' := 5) 3 dX2_findNeighbours_4 rfl rfl rfl ?_
    refine z_aload_n (pc' := 6) 0 dX2_findNeighbours_5 rfl rfl rfl ?_
    refine z_getfield (pc' := 9) (C := RX2) (T := TX2) (N := 5) 0 4 dX2_findNeighbours_6 iX2_findNeighbours_X2 rfl rfl (by decide) mX2_findNeighbours_f30 rfl rfl ?_
    have g9 := zkr_p hsh
    replace hsh := zkr_k hsh
    have g10 := zkr_p hsh
    replace hsh := zkr_k hsh
    refine z_icmp_ge (pc' := 12) (tgt := 47) dX2_findNeighbours_9 (by decide) g9 g10 rfl (fun q => ?_) (fun q => ?_)
    · replace hsh := zif_f q hsh
      refine z_perm [(a_t, .inr (2, [.ref a_t_rowOf, .ref a_t_columnOf, .ref a_t_neighbours, .ref a_t_neighbourCount, .int (zi c_t_size)])), (a_t_rowOf, zI J 16 f_t_rowOf), (a_t_columnOf, zI J 16 f_t_columnOf), (a_t_neighbours, zI J 64 v8), (a_t_neighbourCount, zI J 16 f_t_neighbourCount)] [(0, .ref a_t), (1, .int (zi p0)), (2, .int (zi v6))] [0, 1, 2, 3, 4] [0, 1, 2] rfl rfl rfl ?_
      exact hk _ _ _ hsh
    · replace hsh := zif_t q hsh
      refine z_iload_n (pc' := 13) 2 dX2_findNeighbours_12 rfl rfl rfl ?_
      refine z_iconst (pc' := 14) dX2_findNeighbours_13 rfl ?_
      have g11 := zkr_p hsh
      replace hsh := zkr_k hsh
      refine z_icmp_ge (pc' := 17) (tgt := 47) dX2_findNeighbours_14 (by decide) g11 (by decide) rfl (fun q => ?_) (fun q => ?_)
      · replace hsh := zif_f q hsh
        refine z_perm [(a_t, .inr (2, [.ref a_t_rowOf, .ref a_t_columnOf, .ref a_t_neighbours, .ref a_t_neighbourCount, .int (zi c_t_size)])), (a_t_rowOf, zI J 16 f_t_rowOf), (a_t_columnOf, zI J 16 f_t_columnOf), (a_t_neighbours, zI J 64 v8), (a_t_neighbourCount, zI J 16 f_t_neighbourCount)] [(0, .ref a_t), (1, .int (zi p0)), (2, .int (zi v6))] [0, 1, 2, 3, 4] [0, 1, 2] rfl rfl rfl ?_
        exact hk _ _ _ hsh
      · replace hsh := zif_t q hsh
        refine z_aload_n (pc' := 18) 0 dX2_findNeighbours_17 rfl rfl rfl ?_
        refine z_iload_n (pc' := 19) 1 dX2_findNeighbours_18 rfl rfl rfl ?_
        refine z_iload_n (pc' := 20) 3 dX2_findNeighbours_19 rfl rfl rfl ?_
        obtain ⟨q12, h13, hsh⟩ := zbind hsh
        refine z_callV (pc' := 23) (C := RX2) (As := [.int (zi p0), .int (zi v7)]) (rest := []) (wr := [(a_t_neighbours, zI J 64 v8), (a_t_neighbourCount, zI J 16 f_t_neighbourCount)]) 2 (zc_X2_distance l D J F (a_t := a_t) (a_t_rowOf := a_t_rowOf) (a_t_columnOf := a_t_columnOf) (a_t_neighbours := a_t_neighbours) (a_t_neighbourCount := a_t_neighbourCount) (c_t_size := c_t_size) (f_t_rowOf := f_t_rowOf) (f_t_columnOf := f_t_columnOf) (p0 := p0) (p1 := v7)  q12 h13) dX2_findNeighbours_20 gX2_findNeighbours_X2_distance rfl rfl rfl (by decide +kernel) ⟨Nat.le_of_ble_eq_true rfl, Nat.le_of_ble_eq_true rfl⟩ ⟨Nat.le_of_ble_eq_true rfl, Nat.le_of_ble_eq_true rfl⟩ (z_spl_of [0, 1, 2, 3, 4] rfl rfl) rfl rfl rfl rfl (Nat.le_of_ble_eq_true rfl) rfl (fun rv w9 hq => ?_)
        obtain ⟨rfl, rfl⟩ := hq
        refine z_ws [(a_t_neighbours, zI J 64 v8), (a_t_neighbourCount, zI J 16 f_t_neighbourCount), (a_t, .inr (2, [.ref a_t_rowOf, .ref a_t_columnOf, .ref a_t_neighbours, .ref a_t_neighbourCount, .int (zi c_t_size)])), (a_t_rowOf, zI J 16 f_t_rowOf), (a_t_columnOf, zI J 16 f_t_columnOf)] rfl ?_
        refine z_iconst (pc' := 24) dX2_findNeighbours_23 rfl ?_
        have g14 := zkr_p hsh
        replace hsh := zkr_k hsh
        refine z_icmp_ne (pc' := 27) (tgt := 41) dX2_findNeighbours_24 (by decide) g14 (by decide) rfl (fun q => ?_) (fun q => ?_)
        · replace hsh := zif_f q hsh
          refine z_iinc (pc' := 44) [(3, .int (zi (v7 + (1 : Int)))), (0, .ref a_t), (1, .int (zi p0)), (2, .int (zi v6))] 3 dX2_findNeighbours_41 rfl (by decide) rfl rfl ?_
          refine z_goto (tgt := 4) dX2_findNeighbours_44 (by decide) ?_
          refine z_perm [(a_t, .inr (2, [.ref a_t_rowOf, .ref a_t_columnOf, .ref a_t_neighbours, .ref a_t_neighbourCount, .int (zi c_t_size)])), (a_t_rowOf, zI J 16 f_t_rowOf), (a_t_columnOf, zI J 16 f_t_columnOf), (a_t_neighbours, zI J 64 v8), (a_t_neighbourCount, zI J 16 f_t_neighbourCount)] [(0, .ref a_t), (1, .int (zi p0)), (2, .int (zi v6)), (3, .int (zi (v7 + (1 : Int))))] [2, 3, 4, 0, 1] [1, 2, 3, 0] rfl rfl rfl ?_
          exact ih _ _ _ hsh
        · replace hsh := zif_t q hsh
          refine z_aload_n (pc' := 28) 0 dX2_findNeighbours_27 rfl rfl rfl ?_
          refine z_getfield (pc' := 31) (C := RX2) (T := TX2) (N := 5) 2 2 dX2_findNeighbours_28 iX2_findNeighbours_X2 rfl rfl (by decide) mX2_findNeighbours_f18 rfl rfl ?_
          refine z_iload_n (pc' := 32) 1 dX2_findNeighbours_31 rfl rfl rfl ?_
          refine z_iconst (pc' := 33) dX2_findNeighbours_32 rfl ?_
          refine z_imul (pc' := 34) dX2_findNeighbours_33 rfl ?_
          refine z_iload_n (pc' := 35) 2 dX2_findNeighbours_34 rfl rfl rfl ?_
          refine z_iadd (pc' := 36) dX2_findNeighbours_35 rfl ?_
          refine z_iload_n (pc' := 37) 3 dX2_findNeighbours_36 rfl rfl rfl ?_
          have g15 := zkx_p hsh
          replace hsh := zkx_k hsh
          refine z_iastore (pc' := 38) 0 [(a_t_neighbours, zI J 64 (va_up v8 (((p0 * (4 : Int)) + v6)).toNat v7)), (a_t_neighbourCount, zI J 16 f_t_neighbourCount), (a_t, .inr (2, [.ref a_t_rowOf, .ref a_t_columnOf, .ref a_t_neighbours, .ref a_t_neighbourCount, .int (zi c_t_size)])), (a_t_rowOf, zI J 16 f_t_rowOf), (a_t_columnOf, zI J 16 f_t_columnOf)] dX2_findNeighbours_37 rfl (by decide) g15 rfl rfl ?_
          refine z_iinc (pc' := 41) [(2, .int (zi (v6 + (1 : Int)))), (0, .ref a_t), (1, .int (zi p0)), (3, .int (zi v7))] 2 dX2_findNeighbours_38 rfl (by decide) rfl rfl ?_
          refine z_iinc (pc' := 44) [(3, .int (zi (v7 + (1 : Int)))), (2, .int (zi (v6 + (1 : Int)))), (0, .ref a_t), (1, .int (zi p0))] 3 dX2_findNeighbours_41 rfl (by decide) rfl rfl ?_
          refine z_goto (tgt := 4) dX2_findNeighbours_44 (by decide) ?_
          refine z_perm [(a_t, .inr (2, [.ref a_t_rowOf, .ref a_t_columnOf, .ref a_t_neighbours, .ref a_t_neighbourCount, .int (zi c_t_size)])), (a_t_rowOf, zI J 16 f_t_rowOf), (a_t_columnOf, zI J 16 f_t_columnOf), (a_t_neighbours, zI J 64 (va_up v8 (((p0 * (4 : Int)) + v6)).toNat v7)), (a_t_neighbourCount, zI J 16 f_t_neighbourCount)] [(0, .ref a_t), (1, .int (zi p0)), (2, .int (zi (v6 + (1 : Int)))), (3, .int (zi (v7 + (1 : Int))))] [2, 3, 4, 0, 1] [2, 3, 1, 0] rfl rfl rfl ?_
          exact ih _ _ _ hsh
set_option maxRecDepth 100000 in
set_option maxHeartbeats 4000000 in
theorem zc_X2_findNeighbours (l : Launch) (D : va_G) (J : Nat → ClassId) (F : Nat) (a_t : Nat) (a_t_rowOf : Nat) (a_t_columnOf : Nat) (a_t_neighbours : Nat) (a_t_neighbourCount : Nat) (c_t_size : Int) (f_t_rowOf : Nat → Int) (f_t_columnOf : Nat → Int) (f_t_neighbours : Nat → Int) (f_t_neighbourCount : Nat → Int) (p0 : Int) (res : (Nat → Int) × (Nat → Int)) (hsh : sh_X2_findNeighbours F c_t_size f_t_rowOf f_t_columnOf f_t_neighbours f_t_neighbourCount p0 = some res) : ZM l D J yX2_findNeighbours wsX2_findNeighbours ({ frames := 2, cells := 0, slots := 0, locals := 43 } : Room) 0 0 [.ref a_t, .int (zi p0)] [(a_t, .inr (2, [.ref a_t_rowOf, .ref a_t_columnOf, .ref a_t_neighbours, .ref a_t_neighbourCount, .int (zi c_t_size)])), (a_t_rowOf, zI J 16 f_t_rowOf), (a_t_columnOf, zI J 16 f_t_columnOf), (a_t_neighbours, zI J 64 f_t_neighbours), (a_t_neighbourCount, zI J 16 f_t_neighbourCount)] (fun rv w9 => rv = none ∧ w9 = [(a_t, .inr (2, [.ref a_t_rowOf, .ref a_t_columnOf, .ref a_t_neighbours, .ref a_t_neighbourCount, .int (zi c_t_size)])), (a_t_rowOf, zI J 16 f_t_rowOf), (a_t_columnOf, zI J 16 f_t_columnOf), (a_t_neighbours, zI J 64 res.1), (a_t_neighbourCount, zI J 16 res.2)]) := by
  refine z_ofZ (cc := cX2_findNeighbours) (maxL := 4) (ret := none) 0 0 (by decide) rfl (Nat.le_of_ble_eq_true rfl) [(0, .ref a_t), (1, .int (zi p0))] rfl ?_
  intro p e s m args below meth c A
  unfold sh_X2_findNeighbours at hsh
  refine z_iconst (pc' := 1) dX2_findNeighbours_0 rfl ?_
  refine z_istore_n (pc' := 2) [(2, .int (zi (0 : Int))), (0, .ref a_t), (1, .int (zi p0))] dX2_findNeighbours_1 rfl (by decide) rfl rfl ?_
  refine z_iconst (pc' := 3) dX2_findNeighbours_2 rfl ?_
  refine z_istore_n (pc' := 4) [(3, .int (zi (0 : Int))), (2, .int (zi (0 : Int))), (0, .ref a_t), (1, .int (zi p0))] dX2_findNeighbours_3 rfl (by decide) rfl rfl ?_
  refine z_perm [(a_t, .inr (2, [.ref a_t_rowOf, .ref a_t_columnOf, .ref a_t_neighbours, .ref a_t_neighbourCount, .int (zi c_t_size)])), (a_t_rowOf, zI J 16 f_t_rowOf), (a_t_columnOf, zI J 16 f_t_columnOf), (a_t_neighbours, zI J 64 f_t_neighbours), (a_t_neighbourCount, zI J 16 f_t_neighbourCount)] [(0, .ref a_t), (1, .int (zi p0)), (2, .int (zi (0 : Int))), (3, .int (zi (0 : Int)))] [0, 1, 2, 3, 4] [2, 3, 1, 0] rfl rfl rfl ?_
  refine zl_X2_findNeighbours_L4 (F := F) (hk := fun v16 v17 v18 hsh => ?_) _ _ _ _ hsh
  refine z_aload_n (pc' := 48) 0 dX2_findNeighbours_47 rfl rfl rfl ?_
  refine z_getfield (pc' := 51) (C := RX2) (T := TX2) (N := 5) 0 3 dX2_findNeighbours_48 iX2_findNeighbours_X2 rfl rfl (by decide) mX2_findNeighbours_f21 rfl rfl ?_
  refine z_iload_n (pc' := 52) 1 dX2_findNeighbours_51 rfl rfl rfl ?_
  refine z_iload_n (pc' := 53) 2 dX2_findNeighbours_52 rfl rfl rfl ?_
  have g19 := zkx_p hsh
  replace hsh := zkx_k hsh
  refine z_iastore (pc' := 54) 4 [(a_t, .inr (2, [.ref a_t_rowOf, .ref a_t_columnOf, .ref a_t_neighbours, .ref a_t_neighbourCount, .int (zi c_t_size)])), (a_t_rowOf, zI J 16 f_t_rowOf), (a_t_columnOf, zI J 16 f_t_columnOf), (a_t_neighbours, zI J 64 v18), (a_t_neighbourCount, zI J 16 (va_up f_t_neighbourCount (p0).toNat v16))] dX2_findNeighbours_53 rfl (by decide) g19 rfl rfl ?_
  cases hsh
  exact z_vret rfl dX2_findNeighbours_54 ⟨rfl, rfl⟩
def sh_X2_shape_L20 (F : Nat) (p0 : Int) (p1 : Int) (k : Int → Int → Int → (Nat → Int) → (Nat → Int) → Option (Int × (Nat → Int) × (Nat → Int) × (Nat → Int) × (Nat → Int))) : Nat → Int → Int → Int → (Nat → Int) → (Nat → Int) → Option (Int × (Nat → Int) × (Nat → Int) × (Nat → Int) × (Nat → Int))
  | 0, _, _, _, _, _ => none
  | N + 1, v10, v11, v12, v13, v14 => zkr v12 (zkr (zmin (p0 * p1) (16 : Int)) (if v12 < (zmin (p0 * p1) (16 : Int)) then zkx v12 16 (zkr (v11 + (1 : Int)) (zkr p1 (if (v11 + (1 : Int)) = p1 then sh_X2_shape_L20 F p0 p1 k N (v10 + (1 : Int)) (0 : Int) (v12 + (1 : Int)) (va_up v13 (v12).toNat v10) (va_up v14 (v12).toNat v11) else sh_X2_shape_L20 F p0 p1 k N v10 (v11 + (1 : Int)) (v12 + (1 : Int)) (va_up v13 (v12).toNat v10) (va_up v14 (v12).toNat v11)))) else k v10 v11 v12 v13 v14))
def sh_X2_shape_L70 (F : Nat) (p0 : Int) (p1 : Int) (v23 : (Nat → Int)) (v24 : (Nat → Int)) (k : Int → (Nat → Int) → (Nat → Int) → Option (Int × (Nat → Int) × (Nat → Int) × (Nat → Int) × (Nat → Int))) : Nat → Int → (Nat → Int) → (Nat → Int) → Option (Int × (Nat → Int) × (Nat → Int) × (Nat → Int) × (Nat → Int))
  | 0, _, _, _ => none
  | N + 1, v29, v30, v31 => zkr v29 (zkr (zmin (p0 * p1) (16 : Int)) (if v29 < (zmin (p0 * p1) (16 : Int)) then (sh_X2_findNeighbours F (zmin (p0 * p1) (16 : Int)) v23 v24 v30 v31 v29).bind (fun (q34 : (Nat → Int) × (Nat → Int)) => sh_X2_shape_L70 F p0 p1 v23 v24 k N (v29 + (1 : Int)) q34.1 q34.2) else k v29 v30 v31))
def sh_X2_shape (F : Nat) (f_t_rowOf : Nat → Int) (f_t_columnOf : Nat → Int) (f_t_neighbours : Nat → Int) (f_t_neighbourCount : Nat → Int) (p0 : Int) (p1 : Int) : Option (Int × (Nat → Int) × (Nat → Int) × (Nat → Int) × (Nat → Int)) := zkr (p0 * p1) (sh_X2_shape_L20 F p0 p1 (fun (v20 : Int) (v21 : Int) (v22 : Int) (v23 : (Nat → Int)) (v24 : (Nat → Int)) => sh_X2_shape_L70 F p0 p1 v23 v24 (fun (v36 : Int) (v37 : (Nat → Int)) (v38 : (Nat → Int)) => some ((zmin (p0 * p1) (16 : Int)), v23, v24, v37, v38)) F (0 : Int) f_t_neighbours f_t_neighbourCount) F (0 : Int) (0 : Int) (0 : Int) f_t_rowOf f_t_columnOf)
theorem mX2_shape_j24 : Cond.methodLink RX2 24 Lib.Math.min.name ∈ wsX2_shape := List.mem_of_getElem? (i := 1) rfl
theorem mX2_shape_jmins : Cond.static Lib.Math.min.name ∈ wsX2_shape := List.mem_of_getElem? (i := 2) rfl
theorem mX2_shape_jmi : Cond.initialized "java/lang/Math" ∈ wsX2_shape := List.mem_of_getElem? (i := 3) rfl
theorem mX2_shape_jminc : Cond.code Lib.Math.min.name Lib.Math.min.code 2 (some .int) ∈ wsX2_shape := List.mem_of_getElem? (i := 4) rfl
theorem mX2_shape_f30 : Cond.fieldLink RX2 30 (TX2 4).1 (TX2 4).2.1 (TX2 4).2.2.1 ∈ wsX2_shape := List.mem_of_getElem? (i := 5) rfl
theorem iX2_shape_X2 : ∀ w ∈ wsX20, w ∈ wsX2_shape := fun _ h => (List.mem_cons_of_mem _ (List.mem_append_right _ h))
theorem mX2_shape_f9 : Cond.fieldLink RX2 9 (TX2 0).1 (TX2 0).2.1 (TX2 0).2.2.1 ∈ wsX2_shape := List.mem_of_getElem? (i := 6) rfl
theorem mX2_shape_f15 : Cond.fieldLink RX2 15 (TX2 1).1 (TX2 1).2.1 (TX2 1).2.2.1 ∈ wsX2_shape := List.mem_of_getElem? (i := 7) rfl
set_option maxRecDepth 100000 in
set_option maxHeartbeats 4000000 in
theorem zl_X2_shape_L20 {p : Program} {l : Launch} {e : Env} {s : State} {m : MethodId} {args : Array Value} {below : List Frame} {meth : Method} {c : Code} {A : Nat → Prop} {D : va_G} {J : Nat → ClassId} {F : Nat} {p0 : Int} {p1 : Int} {a_t : Nat} {a_t_rowOf : Nat} {a_t_columnOf : Nat} {a_t_neighbours : Nat} {a_t_neighbourCount : Nat} {f_t_neighbours : Nat → Int} {f_t_neighbourCount : Nat → Int} {res : Int × (Nat → Int) × (Nat → Int) × (Nat → Int) × (Nat → Int)} {k : Int → Int → Int → (Nat → Int) → (Nat → Int) → Option (Int × (Nat → Int) × (Nat → Int) × (Nat → Int) × (Nat → Int))} (hk : ∀ (v10' : Int) (v11' : Int) (v12' : Int) (v13' : (Nat → Int)) (v14' : (Nat → Int)), k v10' v11' v12' v13' v14' = some res → Z p l e ({ frames := 3, cells := 0, slots := 0, locals := 66 } : Room) s m args below meth c (MQ below (zQ D J A (fun rv w9 => rv = none ∧ w9 = [(a_t, .inr (2, [.ref a_t_rowOf, .ref a_t_columnOf, .ref a_t_neighbours, .ref a_t_neighbourCount, .int (zi res.1)])), (a_t_rowOf, zI J 16 res.2.1), (a_t_columnOf, zI J 16 res.2.2.1), (a_t_neighbours, zI J 64 res.2.2.2.1), (a_t_neighbourCount, zI J 16 res.2.2.2.2)])) args s 0 0 A) cX2_shape 6 wsX2_shape RX2 D J A none (yX2_shape.name, []) 0 0 [(a_t, .inr (2, [.ref a_t_rowOf, .ref a_t_columnOf, .ref a_t_neighbours, .ref a_t_neighbourCount, .int (zi (zmin (p0 * p1) (16 : Int)))])), (a_t_rowOf, zI J 16 v13'), (a_t_columnOf, zI J 16 v14'), (a_t_neighbours, zI J 64 f_t_neighbours), (a_t_neighbourCount, zI J 16 f_t_neighbourCount)] [(0, .ref a_t)] 67 []) : ∀ (N : Nat) (v10 : Int) (v11 : Int) (v12 : Int) (v13 : (Nat → Int)) (v14 : (Nat → Int)), sh_X2_shape_L20 F p0 p1 k N v10 v11 v12 v13 v14 = some res → Z p l e ({ frames := 3, cells := 0, slots := 0, locals := 66 } : Room) s m args below meth c (MQ below (zQ D J A (fun rv w9 => rv = none ∧ w9 = [(a_t, .inr (2, [.ref a_t_rowOf, .ref a_t_columnOf, .ref a_t_neighbours, .ref a_t_neighbourCount, .int (zi res.1)])), (a_t_rowOf, zI J 16 res.2.1), (a_t_columnOf, zI J 16 res.2.2.1), (a_t_neighbours, zI J 64 res.2.2.2.1), (a_t_neighbourCount, zI J 16 res.2.2.2.2)])) args s 0 0 A) cX2_shape 6 wsX2_shape RX2 D J A none (yX2_shape.name, []) 0 0 [(a_t, .inr (2, [.ref a_t_rowOf, .ref a_t_columnOf, .ref a_t_neighbours, .ref a_t_neighbourCount, .int (zi (zmin (p0 * p1) (16 : Int)))])), (a_t_rowOf, zI J 16 v13), (a_t_columnOf, zI J 16 v14), (a_t_neighbours, zI J 64 f_t_neighbours), (a_t_neighbourCount, zI J 16 f_t_neighbourCount)] [(0, .ref a_t), (2, .int (zi p1)), (3, .int (zi v10)), (4, .int (zi v11)), (5, .int (zi v12))] 20 [] := by
  intro N
  induction N with
  | zero =>
    intro v10 v11 v12 v13 v14 hsh
    exact absurd hsh (by simp [sh_X2_shape_L20])
  | succ N ih =>
    intro v10 v11 v12 v13 v14 hsh
    rw [sh_X2_shape_L20] at hsh
    refine z_iload (pc' := 22) 4 dX2_shape_20 rfl rfl ?_
    refine z_aload_n (pc' := 23) 0 dX2_shape_22 rfl rfl rfl ?_
    refine z_getfield (pc' := 26) (C := RX2) (T := TX2) (N := 5) 0 4 dX2_shape_23 iX2_shape_X2 rfl rfl (by decide) mX2_shape_f30 rfl rfl ?_
    have g15 := zkr_p hsh
    replace hsh := zkr_k hsh
    have g16 := zkr_p hsh
    replace hsh := zkr_k hsh
    refine z_icmp_ge (pc' := 29) (tgt := 67) dX2_shape_26 (by decide) g15 g16 rfl (fun q => ?_) (fun q => ?_)
    · replace hsh := zif_f q hsh
      refine z_perm [(a_t, .inr (2, [.ref a_t_rowOf, .ref a_t_columnOf, .ref a_t_neighbours, .ref a_t_neighbourCount, .int (zi (zmin (p0 * p1) (16 : Int)))])), (a_t_rowOf, zI J 16 v13), (a_t_columnOf, zI J 16 v14), (a_t_neighbours, zI J 64 f_t_neighbours), (a_t_neighbourCount, zI J 16 f_t_neighbourCount)] [(0, .ref a_t)] [0, 1, 2, 3, 4] [0] rfl rfl rfl ?_
      exact hk _ _ _ _ _ hsh
    · replace hsh := zif_t q hsh
      refine z_aload_n (pc' := 30) 0 dX2_shape_29 rfl rfl rfl ?_
      refine z_getfield (pc' := 33) (C := RX2) (T := TX2) (N := 5) 0 0 dX2_shape_30 iX2_shape_X2 rfl rfl (by decide) mX2_shape_f9 rfl rfl ?_
      refine z_iload (pc' := 35) 4 dX2_shape_33 rfl rfl ?_
      refine z_iload_n (pc' := 36) 2 dX2_shape_35 rfl rfl rfl ?_
      have g17 := zkx_p hsh
      replace hsh := zkx_k hsh
      refine z_iastore (pc' := 37) 1 [(a_t, .inr (2, [.ref a_t_rowOf, .ref a_t_columnOf, .ref a_t_neighbours, .ref a_t_neighbourCount, .int (zi (zmin (p0 * p1) (16 : Int)))])), (a_t_rowOf, zI J 16 (va_up v13 (v12).toNat v10)), (a_t_columnOf, zI J 16 v14), (a_t_neighbours, zI J 64 f_t_neighbours), (a_t_neighbourCount, zI J 16 f_t_neighbourCount)] dX2_shape_36 rfl (by decide) g17 rfl rfl ?_
      refine z_aload_n (pc' := 38) 0 dX2_shape_37 rfl rfl rfl ?_
      refine z_getfield (pc' := 41) (C := RX2) (T := TX2) (N := 5) 0 1 dX2_shape_38 iX2_shape_X2 rfl rfl (by decide) mX2_shape_f15 rfl rfl ?_
      refine z_iload (pc' := 43) 4 dX2_shape_41 rfl rfl ?_
      refine z_iload (pc' := 45) 3 dX2_shape_43 rfl rfl ?_
      refine z_iastore (pc' := 46) 2 [(a_t, .inr (2, [.ref a_t_rowOf, .ref a_t_columnOf, .ref a_t_neighbours, .ref a_t_neighbourCount, .int (zi (zmin (p0 * p1) (16 : Int)))])), (a_t_rowOf, zI J 16 (va_up v13 (v12).toNat v10)), (a_t_columnOf, zI J 16 (va_up v14 (v12).toNat v11)), (a_t_neighbours, zI J 64 f_t_neighbours), (a_t_neighbourCount, zI J 16 f_t_neighbourCount)] dX2_shape_45 rfl (by decide) g17 rfl rfl ?_
      refine z_iinc (pc' := 49) [(4, .int (zi (v11 + (1 : Int)))), (0, .ref a_t), (2, .int (zi p1)), (3, .int (zi v10)), (5, .int (zi v12))] 3 dX2_shape_46 rfl (by decide) rfl rfl ?_
      refine z_iload (pc' := 51) 0 dX2_shape_49 rfl rfl ?_
      refine z_iload_n (pc' := 52) 2 dX2_shape_51 rfl rfl rfl ?_
      have g18 := zkr_p hsh
      replace hsh := zkr_k hsh
      have g19 := zkr_p hsh
      replace hsh := zkr_k hsh
      refine z_icmp_ne (pc' := 55) (tgt := 61) dX2_shape_52 (by decide) g18 g19 rfl (fun q => ?_) (fun q => ?_)
      · replace hsh := zif_f q hsh
        refine z_iinc (pc' := 64) [(5, .int (zi (v12 + (1 : Int)))), (4, .int (zi (v11 + (1 : Int)))), (0, .ref a_t), (2, .int (zi p1)), (3, .int (zi v10))] 4 dX2_shape_61 rfl (by decide) rfl rfl ?_
        refine z_goto (tgt := 20) dX2_shape_64 (by decide) ?_
        refine z_perm [(a_t, .inr (2, [.ref a_t_rowOf, .ref a_t_columnOf, .ref a_t_neighbours, .ref a_t_neighbourCount, .int (zi (zmin (p0 * p1) (16 : Int)))])), (a_t_rowOf, zI J 16 (va_up v13 (v12).toNat v10)), (a_t_columnOf, zI J 16 (va_up v14 (v12).toNat v11)), (a_t_neighbours, zI J 64 f_t_neighbours), (a_t_neighbourCount, zI J 16 f_t_neighbourCount)] [(0, .ref a_t), (2, .int (zi p1)), (3, .int (zi v10)), (4, .int (zi (v11 + (1 : Int)))), (5, .int (zi (v12 + (1 : Int))))] [0, 1, 2, 3, 4] [2, 3, 4, 1, 0] rfl rfl rfl ?_
        exact ih _ _ _ _ _ hsh
      · replace hsh := zif_t q hsh
        refine z_iconst (pc' := 56) dX2_shape_55 rfl ?_
        refine z_istore (pc' := 58) [(4, .int (zi (0 : Int))), (0, .ref a_t), (2, .int (zi p1)), (3, .int (zi v10)), (5, .int (zi v12))] dX2_shape_56 (by decide) rfl rfl ?_
        refine z_iinc (pc' := 61) [(3, .int (zi (v10 + (1 : Int)))), (4, .int (zi (0 : Int))), (0, .ref a_t), (2, .int (zi p1)), (5, .int (zi v12))] 3 dX2_shape_58 rfl (by decide) rfl rfl ?_
        refine z_iinc (pc' := 64) [(5, .int (zi (v12 + (1 : Int)))), (3, .int (zi (v10 + (1 : Int)))), (4, .int (zi (0 : Int))), (0, .ref a_t), (2, .int (zi p1))] 4 dX2_shape_61 rfl (by decide) rfl rfl ?_
        refine z_goto (tgt := 20) dX2_shape_64 (by decide) ?_
        refine z_perm [(a_t, .inr (2, [.ref a_t_rowOf, .ref a_t_columnOf, .ref a_t_neighbours, .ref a_t_neighbourCount, .int (zi (zmin (p0 * p1) (16 : Int)))])), (a_t_rowOf, zI J 16 (va_up v13 (v12).toNat v10)), (a_t_columnOf, zI J 16 (va_up v14 (v12).toNat v11)), (a_t_neighbours, zI J 64 f_t_neighbours), (a_t_neighbourCount, zI J 16 f_t_neighbourCount)] [(0, .ref a_t), (2, .int (zi p1)), (3, .int (zi (v10 + (1 : Int)))), (4, .int (zi (0 : Int))), (5, .int (zi (v12 + (1 : Int))))] [0, 1, 2, 3, 4] [3, 4, 1, 2, 0] rfl rfl rfl ?_
        exact ih _ _ _ _ _ hsh
set_option maxRecDepth 100000 in
set_option maxHeartbeats 4000000 in
theorem zl_X2_shape_L70 {p : Program} {l : Launch} {e : Env} {s : State} {m : MethodId} {args : Array Value} {below : List Frame} {meth : Method} {c : Code} {A : Nat → Prop} {D : va_G} {J : Nat → ClassId} {F : Nat} {p0 : Int} {p1 : Int} {v23 : (Nat → Int)} {v24 : (Nat → Int)} {a_t : Nat} {a_t_rowOf : Nat} {a_t_columnOf : Nat} {a_t_neighbours : Nat} {a_t_neighbourCount : Nat} {res : Int × (Nat → Int) × (Nat → Int) × (Nat → Int) × (Nat → Int)} {k : Int → (Nat → Int) → (Nat → Int) → Option (Int × (Nat → Int) × (Nat → Int) × (Nat → Int) × (Nat → Int))} (hk : ∀ (v29' : Int) (v30' : (Nat → Int)) (v31' : (Nat → Int)), k v29' v30' v31' = some res → Z p l e ({ frames := 3, cells := 0, slots := 0, locals := 66 } : Room) s m args below meth c (MQ below (zQ D J A (fun rv w9 => rv = none ∧ w9 = [(a_t, .inr (2, [.ref a_t_rowOf, .ref a_t_columnOf, .ref a_t_neighbours, .ref a_t_neighbourCount, .int (zi res.1)])), (a_t_rowOf, zI J 16 res.2.1), (a_t_columnOf, zI J 16 res.2.2.1), (a_t_neighbours, zI J 64 res.2.2.2.1), (a_t_neighbourCount, zI J 16 res.2.2.2.2)])) args s 0 0 A) cX2_shape 6 wsX2_shape RX2 D J A none (yX2_shape.name, []) 0 0 [(a_t, .inr (2, [.ref a_t_rowOf, .ref a_t_columnOf, .ref a_t_neighbours, .ref a_t_neighbourCount, .int (zi (zmin (p0 * p1) (16 : Int)))])), (a_t_rowOf, zI J 16 v23), (a_t_columnOf, zI J 16 v24), (a_t_neighbours, zI J 64 v30'), (a_t_neighbourCount, zI J 16 v31')] [] 91 []) : ∀ (N : Nat) (v29 : Int) (v30 : (Nat → Int)) (v31 : (Nat → Int)), sh_X2_shape_L70 F p0 p1 v23 v24 k N v29 v30 v31 = some res → Z p l e ({ frames := 3, cells := 0, slots := 0, locals := 66 } : Room) s m args below meth c (MQ below (zQ D J A (fun rv w9 => rv = none ∧ w9 = [(a_t, .inr (2, [.ref a_t_rowOf, .ref a_t_columnOf, .ref a_t_neighbours, .ref a_t_neighbourCount, .int (zi res.1)])), (a_t_rowOf, zI J 16 res.2.1), (a_t_columnOf, zI J 16 res.2.2.1), (a_t_neighbours, zI J 64 res.2.2.2.1), (a_t_neighbourCount, zI J 16 res.2.2.2.2)])) args s 0 0 A) cX2_shape 6 wsX2_shape RX2 D J A none (yX2_shape.name, []) 0 0 [(a_t, .inr (2, [.ref a_t_rowOf, .ref a_t_columnOf, .ref a_t_neighbours, .ref a_t_neighbourCount, .int (zi (zmin (p0 * p1) (16 : Int)))])), (a_t_rowOf, zI J 16 v23), (a_t_columnOf, zI J 16 v24), (a_t_neighbours, zI J 64 v30), (a_t_neighbourCount, zI J 16 v31)] [(0, .ref a_t), (5, .int (zi v29))] 70 [] := by
  intro N
  induction N with
  | zero =>
    intro v29 v30 v31 hsh
    exact absurd hsh (by simp [sh_X2_shape_L70])
  | succ N ih =>
    intro v29 v30 v31 hsh
    rw [sh_X2_shape_L70] at hsh
    refine z_iload (pc' := 72) 1 dX2_shape_70 rfl rfl ?_
    refine z_aload_n (pc' := 73) 0 dX2_shape_72 rfl rfl rfl ?_
    refine z_getfield (pc' := 76) (C := RX2) (T := TX2) (N := 5) 0 4 dX2_shape_73 iX2_shape_X2 rfl rfl (by decide) mX2_shape_f30 rfl rfl ?_
    have g32 := zkr_p hsh
    replace hsh := zkr_k hsh
    have g33 := zkr_p hsh
    replace hsh := zkr_k hsh
    refine z_icmp_ge (pc' := 79) (tgt := 91) dX2_shape_76 (by decide) g32 g33 rfl (fun q => ?_) (fun q => ?_)
    · replace hsh := zif_f q hsh
      refine z_perm [(a_t, .inr (2, [.ref a_t_rowOf, .ref a_t_columnOf, .ref a_t_neighbours, .ref a_t_neighbourCount, .int (zi (zmin (p0 * p1) (16 : Int)))])), (a_t_rowOf, zI J 16 v23), (a_t_columnOf, zI J 16 v24), (a_t_neighbours, zI J 64 v30), (a_t_neighbourCount, zI J 16 v31)] [] [0, 1, 2, 3, 4] [] rfl rfl rfl ?_
      exact hk _ _ _ hsh
    · replace hsh := zif_t q hsh
      refine z_aload_n (pc' := 80) 0 dX2_shape_79 rfl rfl rfl ?_
      refine z_iload (pc' := 82) 1 dX2_shape_80 rfl rfl ?_
      obtain ⟨q34, h35, hsh⟩ := zbind hsh
      refine z_callV (pc' := 85) (C := RX2) (As := [.int (zi v29)]) (rest := []) (wr := []) 1 (zc_X2_findNeighbours l D J F (a_t := a_t) (a_t_rowOf := a_t_rowOf) (a_t_columnOf := a_t_columnOf) (a_t_neighbours := a_t_neighbours) (a_t_neighbourCount := a_t_neighbourCount) (c_t_size := (zmin (p0 * p1) (16 : Int))) (f_t_rowOf := v23) (f_t_columnOf := v24) (f_t_neighbours := v30) (f_t_neighbourCount := v31) (p0 := v29)  q34 h35) dX2_shape_82 gX2_shape_X2_findNeighbours rfl rfl rfl (by decide +kernel) ⟨Nat.le_of_ble_eq_true rfl, Nat.le_of_ble_eq_true rfl⟩ ⟨Nat.le_of_ble_eq_true rfl, Nat.le_of_ble_eq_true rfl⟩ (z_spl_of [0, 1, 2, 3, 4] rfl rfl) rfl rfl rfl rfl (Nat.le_of_ble_eq_true rfl) rfl (fun rv w9 hq => ?_)
      obtain ⟨rfl, rfl⟩ := hq
      refine z_ws [(a_t, .inr (2, [.ref a_t_rowOf, .ref a_t_columnOf, .ref a_t_neighbours, .ref a_t_neighbourCount, .int (zi (zmin (p0 * p1) (16 : Int)))])), (a_t_rowOf, zI J 16 v23), (a_t_columnOf, zI J 16 v24), (a_t_neighbours, zI J 64 q34.1), (a_t_neighbourCount, zI J 16 q34.2)] rfl ?_
      refine z_iinc (pc' := 88) [(5, .int (zi (v29 + (1 : Int)))), (0, .ref a_t)] 1 dX2_shape_85 rfl (by decide) rfl rfl ?_
      refine z_goto (tgt := 70) dX2_shape_88 (by decide) ?_
      refine z_perm [(a_t, .inr (2, [.ref a_t_rowOf, .ref a_t_columnOf, .ref a_t_neighbours, .ref a_t_neighbourCount, .int (zi (zmin (p0 * p1) (16 : Int)))])), (a_t_rowOf, zI J 16 v23), (a_t_columnOf, zI J 16 v24), (a_t_neighbours, zI J 64 q34.1), (a_t_neighbourCount, zI J 16 q34.2)] [(0, .ref a_t), (5, .int (zi (v29 + (1 : Int))))] [0, 1, 2, 3, 4] [1, 0] rfl rfl rfl ?_
      exact ih _ _ _ hsh
set_option maxRecDepth 100000 in
set_option maxHeartbeats 4000000 in
theorem zc_X2_shape (l : Launch) (D : va_G) (J : Nat → ClassId) (F : Nat) (a_t : Nat) (a_t_rowOf : Nat) (a_t_columnOf : Nat) (a_t_neighbours : Nat) (a_t_neighbourCount : Nat) (c_t_size : Int) (f_t_rowOf : Nat → Int) (f_t_columnOf : Nat → Int) (f_t_neighbours : Nat → Int) (f_t_neighbourCount : Nat → Int) (p0 : Int) (p1 : Int) (res : Int × (Nat → Int) × (Nat → Int) × (Nat → Int) × (Nat → Int)) (hsh : sh_X2_shape F f_t_rowOf f_t_columnOf f_t_neighbours f_t_neighbourCount p0 p1 = some res) : ZM l D J yX2_shape wsX2_shape ({ frames := 3, cells := 0, slots := 0, locals := 66 } : Room) 0 0 [.ref a_t, .int (zi p0), .int (zi p1)] [(a_t, .inr (2, [.ref a_t_rowOf, .ref a_t_columnOf, .ref a_t_neighbours, .ref a_t_neighbourCount, .int (zi c_t_size)])), (a_t_rowOf, zI J 16 f_t_rowOf), (a_t_columnOf, zI J 16 f_t_columnOf), (a_t_neighbours, zI J 64 f_t_neighbours), (a_t_neighbourCount, zI J 16 f_t_neighbourCount)] (fun rv w9 => rv = none ∧ w9 = [(a_t, .inr (2, [.ref a_t_rowOf, .ref a_t_columnOf, .ref a_t_neighbours, .ref a_t_neighbourCount, .int (zi res.1)])), (a_t_rowOf, zI J 16 res.2.1), (a_t_columnOf, zI J 16 res.2.2.1), (a_t_neighbours, zI J 64 res.2.2.2.1), (a_t_neighbourCount, zI J 16 res.2.2.2.2)]) := by
  refine z_ofZ (cc := cX2_shape) (maxL := 6) (ret := none) 0 0 (by decide) rfl (Nat.le_of_ble_eq_true rfl) [(0, .ref a_t), (1, .int (zi p0)), (2, .int (zi p1))] rfl ?_
  intro p e s m args below meth c A
  unfold sh_X2_shape at hsh
  refine z_aload_n (pc' := 1) 0 dX2_shape_0 rfl rfl rfl ?_
  refine z_iload_n (pc' := 2) 1 dX2_shape_1 rfl rfl rfl ?_
  refine z_iload_n (pc' := 3) 2 dX2_shape_2 rfl rfl rfl ?_
  refine z_imul (pc' := 4) dX2_shape_3 rfl ?_
  refine z_bipush (pc' := 6) dX2_shape_4 (by decide) rfl ?_
  have g1 := zkr_p hsh
  replace hsh := zkr_k hsh
  refine z_min (pc' := 9) dX2_shape_6 mX2_shape_j24 mX2_shape_jmins mX2_shape_jmi mX2_shape_jminc (Nat.le_of_ble_eq_true rfl) (Nat.le_of_ble_eq_true rfl) (Nat.le_of_ble_eq_true rfl) (Nat.le_of_ble_eq_true rfl) g1 (by decide) rfl ?_
  refine z_putfield (pc' := 12) (C := RX2) (T := TX2) (N := 5) (ty := .int) 0 4 [(a_t, .inr (2, [.ref a_t_rowOf, .ref a_t_columnOf, .ref a_t_neighbours, .ref a_t_neighbourCount, .int (zi (zmin (p0 * p1) (16 : Int)))])), (a_t_rowOf, zI J 16 f_t_rowOf), (a_t_columnOf, zI J 16 f_t_columnOf), (a_t_neighbours, zI J 64 f_t_neighbours), (a_t_neighbourCount, zI J 16 f_t_neighbourCount)] tyX2 tyX2_ok nmX2 dX2_shape_9 iX2_shape_X2 rfl rfl (by decide) mX2_shape_f30 rfl (by decide +kernel) rfl rfl (Nat.le_of_ble_eq_true rfl) rfl rfl rfl ?_
  refine z_iconst (pc' := 13) dX2_shape_12 rfl ?_
  refine z_istore_n (pc' := 14) [(3, .int (zi (0 : Int))), (0, .ref a_t), (1, .int (zi p0)), (2, .int (zi p1))] dX2_shape_13 rfl (by decide) rfl rfl ?_
  refine z_iconst (pc' := 15) dX2_shape_14 rfl ?_
  refine z_istore (pc' := 17) [(4, .int (zi (0 : Int))), (3, .int (zi (0 : Int))), (0, .ref a_t), (1, .int (zi p0)), (2, .int (zi p1))] dX2_shape_15 (by decide) rfl rfl ?_
  refine z_iconst (pc' := 18) dX2_shape_17 rfl ?_
  refine z_istore (pc' := 20) [(5, .int (zi (0 : Int))), (4, .int (zi (0 : Int))), (3, .int (zi (0 : Int))), (0, .ref a_t), (1, .int (zi p0)), (2, .int (zi p1))] dX2_shape_18 (by decide) rfl rfl ?_
  refine z_perm [(a_t, .inr (2, [.ref a_t_rowOf, .ref a_t_columnOf, .ref a_t_neighbours, .ref a_t_neighbourCount, .int (zi (zmin (p0 * p1) (16 : Int)))])), (a_t_rowOf, zI J 16 f_t_rowOf), (a_t_columnOf, zI J 16 f_t_columnOf), (a_t_neighbours, zI J 64 f_t_neighbours), (a_t_neighbourCount, zI J 16 f_t_neighbourCount)] [(0, .ref a_t), (2, .int (zi p1)), (3, .int (zi (0 : Int))), (4, .int (zi (0 : Int))), (5, .int (zi (0 : Int)))] [0, 1, 2, 3, 4] [3, 5, 2, 1, 0] rfl rfl rfl ?_
  refine zl_X2_shape_L20 (F := F) (hk := fun v20 v21 v22 v23 v24 hsh => ?_) _ _ _ _ _ _ hsh
  refine z_iconst (pc' := 68) dX2_shape_67 rfl ?_
  refine z_istore (pc' := 70) [(5, .int (zi (0 : Int))), (0, .ref a_t)] dX2_shape_68 (by decide) rfl rfl ?_
  refine z_perm [(a_t, .inr (2, [.ref a_t_rowOf, .ref a_t_columnOf, .ref a_t_neighbours, .ref a_t_neighbourCount, .int (zi (zmin (p0 * p1) (16 : Int)))])), (a_t_rowOf, zI J 16 v23), (a_t_columnOf, zI J 16 v24), (a_t_neighbours, zI J 64 f_t_neighbours), (a_t_neighbourCount, zI J 16 f_t_neighbourCount)] [(0, .ref a_t), (5, .int (zi (0 : Int)))] [0, 1, 2, 3, 4] [1, 0] rfl rfl rfl ?_
  refine zl_X2_shape_L70 (F := F) (hk := fun v36 v37 v38 hsh => ?_) _ _ _ _ hsh
  cases hsh
  exact z_vret rfl dX2_shape_91 ⟨rfl, rfl⟩
def sh_X2_size (F : Nat) (c_t_size : Int) : Option (Int) := some (c_t_size)
theorem mX2_size_f30 : Cond.fieldLink RX2 30 (TX2 4).1 (TX2 4).2.1 (TX2 4).2.2.1 ∈ wsX2_size := List.mem_of_getElem? (i := 1) rfl
theorem iX2_size_X2 : ∀ w ∈ wsX20, w ∈ wsX2_size := fun _ h => (List.mem_cons_of_mem _ (List.mem_append_right _ h))
set_option maxRecDepth 100000 in
set_option maxHeartbeats 4000000 in
theorem zc_X2_size (l : Launch) (D : va_G) (J : Nat → ClassId) (F : Nat) (a_t : Nat) (a_t_rowOf : Nat) (a_t_columnOf : Nat) (a_t_neighbours : Nat) (a_t_neighbourCount : Nat) (c_t_size : Int) (res : Int) (hsh : sh_X2_size F c_t_size = some res) : ZM l D J yX2_size wsX2_size ({ frames := 0, cells := 0, slots := 0, locals := 0 } : Room) 0 0 [.ref a_t] [(a_t, .inr (2, [.ref a_t_rowOf, .ref a_t_columnOf, .ref a_t_neighbours, .ref a_t_neighbourCount, .int (zi c_t_size)]))] (fun rv w9 => rv = some (.int (zi res)) ∧ w9 = [(a_t, .inr (2, [.ref a_t_rowOf, .ref a_t_columnOf, .ref a_t_neighbours, .ref a_t_neighbourCount, .int (zi c_t_size)]))]) := by
  refine z_ofZ (cc := cX2_size) (maxL := 1) (ret := (some .int)) 0 0 (by decide) rfl (Nat.le_of_ble_eq_true rfl) [(0, .ref a_t)] rfl ?_
  intro p e s m args below meth c A
  unfold sh_X2_size at hsh
  refine z_aload_n (pc' := 1) 0 dX2_size_0 rfl rfl rfl ?_
  refine z_getfield (pc' := 4) (C := RX2) (T := TX2) (N := 5) 0 4 dX2_size_1 iX2_size_X2 rfl rfl (by decide) mX2_size_f30 rfl rfl ?_
  cases hsh
  exact z_iret rfl dX2_size_4 ⟨rfl, rfl⟩
def sh_X2_has (F : Nat) (c_t_size : Int) (p0 : Int) : Option (Int) := zkr p0 (if p0 < (0 : Int) then some ((0 : Int)) else zkr c_t_size (if p0 < c_t_size then some ((1 : Int)) else some ((0 : Int))))
theorem mX2_has_f30 : Cond.fieldLink RX2 30 (TX2 4).1 (TX2 4).2.1 (TX2 4).2.2.1 ∈ wsX2_has := List.mem_of_getElem? (i := 1) rfl
theorem iX2_has_X2 : ∀ w ∈ wsX20, w ∈ wsX2_has := fun _ h => (List.mem_cons_of_mem _ (List.mem_append_right _ h))
set_option maxRecDepth 100000 in
set_option maxHeartbeats 4000000 in
theorem zc_X2_has (l : Launch) (D : va_G) (J : Nat → ClassId) (F : Nat) (a_t : Nat) (a_t_rowOf : Nat) (a_t_columnOf : Nat) (a_t_neighbours : Nat) (a_t_neighbourCount : Nat) (c_t_size : Int) (p0 : Int) (res : Int) (hsh : sh_X2_has F c_t_size p0 = some res) : ZM l D J yX2_has wsX2_has ({ frames := 0, cells := 0, slots := 0, locals := 0 } : Room) 0 0 [.ref a_t, .int (zi p0)] [(a_t, .inr (2, [.ref a_t_rowOf, .ref a_t_columnOf, .ref a_t_neighbours, .ref a_t_neighbourCount, .int (zi c_t_size)]))] (fun rv w9 => rv = some (.int (zi res)) ∧ w9 = [(a_t, .inr (2, [.ref a_t_rowOf, .ref a_t_columnOf, .ref a_t_neighbours, .ref a_t_neighbourCount, .int (zi c_t_size)]))]) := by
  refine z_ofZ (cc := cX2_has) (maxL := 2) (ret := (some .boolean)) 0 0 (by decide) rfl (Nat.le_of_ble_eq_true rfl) [(0, .ref a_t), (1, .int (zi p0))] rfl ?_
  intro p e s m args below meth c A
  unfold sh_X2_has at hsh
  refine z_iload_n (pc' := 1) 1 dX2_has_0 rfl rfl rfl ?_
  have g1 := zkr_p hsh
  replace hsh := zkr_k hsh
  refine z_if_lt (pc' := 4) (tgt := 16) dX2_has_1 (by decide) g1 rfl (fun q => ?_) (fun q => ?_)
  · replace hsh := zif_t q hsh
    refine z_iconst (pc' := 17) dX2_has_16 rfl ?_
    cases hsh
    exact z_zret rfl (by decide) dX2_has_17 ⟨rfl, rfl⟩
  · replace hsh := zif_f q hsh
    refine z_iload_n (pc' := 5) 1 dX2_has_4 rfl rfl rfl ?_
    refine z_aload_n (pc' := 6) 0 dX2_has_5 rfl rfl rfl ?_
    refine z_getfield (pc' := 9) (C := RX2) (T := TX2) (N := 5) 0 4 dX2_has_6 iX2_has_X2 rfl rfl (by decide) mX2_has_f30 rfl rfl ?_
    have g2 := zkr_p hsh
    replace hsh := zkr_k hsh
    refine z_icmp_ge (pc' := 12) (tgt := 16) dX2_has_9 (by decide) g1 g2 rfl (fun q => ?_) (fun q => ?_)
    · replace hsh := zif_f q hsh
      refine z_iconst (pc' := 17) dX2_has_16 rfl ?_
      cases hsh
      exact z_zret rfl (by decide) dX2_has_17 ⟨rfl, rfl⟩
    · replace hsh := zif_t q hsh
      refine z_iconst (pc' := 13) dX2_has_12 rfl ?_
      refine z_goto (tgt := 17) dX2_has_13 (by decide) ?_
      cases hsh
      exact z_zret rfl (by decide) dX2_has_17 ⟨rfl, rfl⟩
def sh_X2_room_L7 (F : Nat) (p0 : Int) (n_p1 : Nat) (p2 : Int) (f_t_neighbours : Nat → Int) (f_t_neighbourCount : Nat → Int) (f_p1 : Nat → Int) (k : Int → Int → Option (Int)) : Nat → Int → Int → Option (Int)
  | 0, _, _ => none
  | N + 1, v3, v4 => zkx p0 16 (zkr v4 (zkr (f_t_neighbourCount (p0).toNat) (if v4 < (f_t_neighbourCount (p0).toNat) then zkx ((p0 * (4 : Int)) + v4) 64 (zkx (f_t_neighbours (((p0 * (4 : Int)) + v4)).toNat) n_p1 (zkx p0 n_p1 (zkr v3 (zkr ((p2 + (f_p1 ((f_t_neighbours (((p0 * (4 : Int)) + v4)).toNat)).toNat)) - (f_p1 (p0).toNat)) (sh_X2_room_L7 F p0 n_p1 p2 f_t_neighbours f_t_neighbourCount f_p1 k N (zmin v3 ((p2 + (f_p1 ((f_t_neighbours (((p0 * (4 : Int)) + v4)).toNat)).toNat)) - (f_p1 (p0).toNat))) (v4 + (1 : Int))))))) else k v3 v4)))
def sh_X2_room (F : Nat) (f_t_neighbours : Nat → Int) (f_t_neighbourCount : Nat → Int) (f_p1 : Nat → Int) (n_p1 : Nat) (p0 : Int) (p2 : Int) : Option (Int) := sh_X2_room_L7 F p0 n_p1 p2 f_t_neighbours f_t_neighbourCount f_p1 (fun (v13 : Int) (v14 : Int) => some (v13)) F (54 : Int) (0 : Int)
theorem mX2_room_f21 : Cond.fieldLink RX2 21 (TX2 3).1 (TX2 3).2.1 (TX2 3).2.2.1 ∈ wsX2_room := List.mem_of_getElem? (i := 1) rfl
theorem iX2_room_X2 : ∀ w ∈ wsX20, w ∈ wsX2_room := fun _ h => (List.mem_cons_of_mem _ (List.mem_append_right _ h))
theorem mX2_room_f18 : Cond.fieldLink RX2 18 (TX2 2).1 (TX2 2).2.1 (TX2 2).2.2.1 ∈ wsX2_room := List.mem_of_getElem? (i := 2) rfl
theorem mX2_room_j24 : Cond.methodLink RX2 24 Lib.Math.min.name ∈ wsX2_room := List.mem_of_getElem? (i := 3) rfl
theorem mX2_room_jmins : Cond.static Lib.Math.min.name ∈ wsX2_room := List.mem_of_getElem? (i := 4) rfl
theorem mX2_room_jmi : Cond.initialized "java/lang/Math" ∈ wsX2_room := List.mem_of_getElem? (i := 5) rfl
theorem mX2_room_jminc : Cond.code Lib.Math.min.name Lib.Math.min.code 2 (some .int) ∈ wsX2_room := List.mem_of_getElem? (i := 6) rfl
set_option maxRecDepth 100000 in
set_option maxHeartbeats 4000000 in
theorem zl_X2_room_L7 {p : Program} {l : Launch} {e : Env} {s : State} {m : MethodId} {args : Array Value} {below : List Frame} {meth : Method} {c : Code} {A : Nat → Prop} {D : va_G} {J : Nat → ClassId} {F : Nat} {p0 : Int} {n_p1 : Nat} {p2 : Int} {f_t_neighbours : Nat → Int} {f_t_neighbourCount : Nat → Int} {f_p1 : Nat → Int} {a_t : Nat} {a_t_rowOf : Nat} {a_t_columnOf : Nat} {a_t_neighbours : Nat} {a_t_neighbourCount : Nat} {c_t_size : Int} {a_p1 : Nat} {res : Int} (hn_p1 : n_p1 ≤ 2147483647) {k : Int → Int → Option (Int)} (hk : ∀ (v3' : Int) (v4' : Int), k v3' v4' = some res → Z p l e ({ frames := 1, cells := 0, slots := 0, locals := 21 } : Room) s m args below meth c (MQ below (zQ D J A (fun rv w9 => rv = some (.int (zi res)) ∧ w9 = [(a_t, .inr (2, [.ref a_t_rowOf, .ref a_t_columnOf, .ref a_t_neighbours, .ref a_t_neighbourCount, .int (zi c_t_size)])), (a_t_neighbours, zI J 64 f_t_neighbours), (a_t_neighbourCount, zI J 16 f_t_neighbourCount), (a_p1, zI J n_p1 f_p1)])) args s 0 0 A) cX2_room 7 wsX2_room RX2 D J A (some .int) (yX2_room.name, []) 0 0 [(a_t, .inr (2, [.ref a_t_rowOf, .ref a_t_columnOf, .ref a_t_neighbours, .ref a_t_neighbourCount, .int (zi c_t_size)])), (a_t_neighbours, zI J 64 f_t_neighbours), (a_t_neighbourCount, zI J 16 f_t_neighbourCount), (a_p1, zI J n_p1 f_p1)] [(4, .int (zi v3'))] 54 []) : ∀ (N : Nat) (v3 : Int) (v4 : Int), sh_X2_room_L7 F p0 n_p1 p2 f_t_neighbours f_t_neighbourCount f_p1 k N v3 v4 = some res → Z p l e ({ frames := 1, cells := 0, slots := 0, locals := 21 } : Room) s m args below meth c (MQ below (zQ D J A (fun rv w9 => rv = some (.int (zi res)) ∧ w9 = [(a_t, .inr (2, [.ref a_t_rowOf, .ref a_t_columnOf, .ref a_t_neighbours, .ref a_t_neighbourCount, .int (zi c_t_size)])), (a_t_neighbours, zI J 64 f_t_neighbours), (a_t_neighbourCount, zI J 16 f_t_neighbourCount), (a_p1, zI J n_p1 f_p1)])) args s 0 0 A) cX2_room 7 wsX2_room RX2 D J A (some .int) (yX2_room.name, []) 0 0 [(a_t, .inr (2, [.ref a_t_rowOf, .ref a_t_columnOf, .ref a_t_neighbours, .ref a_t_neighbourCount, .int (zi c_t_size)])), (a_t_neighbours, zI J 64 f_t_neighbours), (a_t_neighbourCount, zI J 16 f_t_neighbourCount), (a_p1, zI J n_p1 f_p1)] [(0, .ref a_t), (1, .int (zi p0)), (2, .ref a_p1), (3, .int (zi p2)), (4, .int (zi v3)), (5, .int (zi v4))] 7 [] := by
  intro N
  induction N with
  | zero =>
    intro v3 v4 hsh
    exact absurd hsh (by simp [sh_X2_room_L7])
  | succ N ih =>
    intro v3 v4 hsh
    rw [sh_X2_room_L7] at hsh
    refine z_iload (pc' := 9) 5 dX2_room_7 rfl rfl ?_
    refine z_aload_n (pc' := 10) 0 dX2_room_9 rfl rfl rfl ?_
    refine z_getfield (pc' := 13) (C := RX2) (T := TX2) (N := 5) 0 3 dX2_room_10 iX2_room_X2 rfl rfl (by decide) mX2_room_f21 rfl rfl ?_
    refine z_iload_n (pc' := 14) 1 dX2_room_13 rfl rfl rfl ?_
    have g5 := zkx_p hsh
    replace hsh := zkx_k hsh
    refine z_iaload (pc' := 15) 2 dX2_room_14 rfl (by decide) g5 rfl ?_
    have g6 := zkr_p hsh
    replace hsh := zkr_k hsh
    have g7 := zkr_p hsh
    replace hsh := zkr_k hsh
    refine z_icmp_ge (pc' := 18) (tgt := 54) dX2_room_15 (by decide) g6 g7 rfl (fun q => ?_) (fun q => ?_)
    · replace hsh := zif_f q hsh
      refine z_perm [(a_t, .inr (2, [.ref a_t_rowOf, .ref a_t_columnOf, .ref a_t_neighbours, .ref a_t_neighbourCount, .int (zi c_t_size)])), (a_t_neighbours, zI J 64 f_t_neighbours), (a_t_neighbourCount, zI J 16 f_t_neighbourCount), (a_p1, zI J n_p1 f_p1)] [(4, .int (zi v3))] [0, 1, 2, 3] [4] rfl rfl rfl ?_
      exact hk _ _ hsh
    · replace hsh := zif_t q hsh
      refine z_aload_n (pc' := 19) 0 dX2_room_18 rfl rfl rfl ?_
      refine z_getfield (pc' := 22) (C := RX2) (T := TX2) (N := 5) 0 2 dX2_room_19 iX2_room_X2 rfl rfl (by decide) mX2_room_f18 rfl rfl ?_
      refine z_iload_n (pc' := 23) 1 dX2_room_22 rfl rfl rfl ?_
      refine z_iconst (pc' := 24) dX2_room_23 rfl ?_
      refine z_imul (pc' := 25) dX2_room_24 rfl ?_
      refine z_iload (pc' := 27) 5 dX2_room_25 rfl rfl ?_
      refine z_iadd (pc' := 28) dX2_room_27 rfl ?_
      have g8 := zkx_p hsh
      replace hsh := zkx_k hsh
      refine z_iaload (pc' := 29) 1 dX2_room_28 rfl (by decide) g8 rfl ?_
      refine z_istore (pc' := 31) [(6, .int (zi (f_t_neighbours (((p0 * (4 : Int)) + v4)).toNat))), (0, .ref a_t), (1, .int (zi p0)), (2, .ref a_p1), (3, .int (zi p2)), (4, .int (zi v3)), (5, .int (zi v4))] dX2_room_29 (by decide) rfl rfl ?_
      refine z_iload (pc' := 33) 5 dX2_room_31 rfl rfl ?_
      refine z_iload_n (pc' := 34) 4 dX2_room_33 rfl rfl rfl ?_
      refine z_aload_n (pc' := 35) 3 dX2_room_34 rfl rfl rfl ?_
      refine z_iload (pc' := 37) 0 dX2_room_35 rfl rfl ?_
      have g9 := zkx_p hsh
      replace hsh := zkx_k hsh
      refine z_iaload (pc' := 38) 3 dX2_room_37 rfl hn_p1 g9 rfl ?_
      refine z_iadd (pc' := 39) dX2_room_38 rfl ?_
      refine z_aload_n (pc' := 40) 3 dX2_room_39 rfl rfl rfl ?_
      refine z_iload_n (pc' := 41) 2 dX2_room_40 rfl rfl rfl ?_
      have g10 := zkx_p hsh
      replace hsh := zkx_k hsh
      refine z_iaload (pc' := 42) 3 dX2_room_41 rfl hn_p1 g10 rfl ?_
      refine z_isub (pc' := 43) dX2_room_42 rfl ?_
      have g11 := zkr_p hsh
      replace hsh := zkr_k hsh
      have g12 := zkr_p hsh
      replace hsh := zkr_k hsh
      refine z_min (pc' := 46) dX2_room_43 mX2_room_j24 mX2_room_jmins mX2_room_jmi mX2_room_jminc (Nat.le_of_ble_eq_true rfl) (Nat.le_of_ble_eq_true rfl) (Nat.le_of_ble_eq_true rfl) (Nat.le_of_ble_eq_true rfl) g11 g12 rfl ?_
      refine z_istore (pc' := 48) [(4, .int (zi (zmin v3 ((p2 + (f_p1 ((f_t_neighbours (((p0 * (4 : Int)) + v4)).toNat)).toNat)) - (f_p1 (p0).toNat))))), (6, .int (zi (f_t_neighbours (((p0 * (4 : Int)) + v4)).toNat))), (0, .ref a_t), (1, .int (zi p0)), (2, .ref a_p1), (3, .int (zi p2)), (5, .int (zi v4))] dX2_room_46 (by decide) rfl rfl ?_
      refine z_iinc (pc' := 51) [(5, .int (zi (v4 + (1 : Int)))), (4, .int (zi (zmin v3 ((p2 + (f_p1 ((f_t_neighbours (((p0 * (4 : Int)) + v4)).toNat)).toNat)) - (f_p1 (p0).toNat))))), (6, .int (zi (f_t_neighbours (((p0 * (4 : Int)) + v4)).toNat))), (0, .ref a_t), (1, .int (zi p0)), (2, .ref a_p1), (3, .int (zi p2))] 6 dX2_room_48 rfl (by decide) rfl rfl ?_
      refine z_goto (tgt := 7) dX2_room_51 (by decide) ?_
      refine z_perm [(a_t, .inr (2, [.ref a_t_rowOf, .ref a_t_columnOf, .ref a_t_neighbours, .ref a_t_neighbourCount, .int (zi c_t_size)])), (a_t_neighbours, zI J 64 f_t_neighbours), (a_t_neighbourCount, zI J 16 f_t_neighbourCount), (a_p1, zI J n_p1 f_p1)] [(0, .ref a_t), (1, .int (zi p0)), (2, .ref a_p1), (3, .int (zi p2)), (4, .int (zi (zmin v3 ((p2 + (f_p1 ((f_t_neighbours (((p0 * (4 : Int)) + v4)).toNat)).toNat)) - (f_p1 (p0).toNat))))), (5, .int (zi (v4 + (1 : Int))))] [0, 1, 2, 3] [3, 4, 5, 6, 1, 0] rfl rfl rfl ?_
      exact ih _ _ hsh
set_option maxRecDepth 100000 in
set_option maxHeartbeats 4000000 in
theorem zc_X2_room (l : Launch) (D : va_G) (J : Nat → ClassId) (F : Nat) (a_t : Nat) (a_p1 : Nat) (a_t_rowOf : Nat) (a_t_columnOf : Nat) (a_t_neighbours : Nat) (a_t_neighbourCount : Nat) (c_t_size : Int) (f_t_neighbours : Nat → Int) (f_t_neighbourCount : Nat → Int) (f_p1 : Nat → Int) (n_p1 : Nat) (p0 : Int) (p2 : Int) (hn_p1 : n_p1 ≤ 2147483647) (res : Int) (hsh : sh_X2_room F f_t_neighbours f_t_neighbourCount f_p1 n_p1 p0 p2 = some res) : ZM l D J yX2_room wsX2_room ({ frames := 1, cells := 0, slots := 0, locals := 21 } : Room) 0 0 [.ref a_t, .int (zi p0), .ref a_p1, .int (zi p2)] [(a_t, .inr (2, [.ref a_t_rowOf, .ref a_t_columnOf, .ref a_t_neighbours, .ref a_t_neighbourCount, .int (zi c_t_size)])), (a_t_neighbours, zI J 64 f_t_neighbours), (a_t_neighbourCount, zI J 16 f_t_neighbourCount), (a_p1, zI J n_p1 f_p1)] (fun rv w9 => rv = some (.int (zi res)) ∧ w9 = [(a_t, .inr (2, [.ref a_t_rowOf, .ref a_t_columnOf, .ref a_t_neighbours, .ref a_t_neighbourCount, .int (zi c_t_size)])), (a_t_neighbours, zI J 64 f_t_neighbours), (a_t_neighbourCount, zI J 16 f_t_neighbourCount), (a_p1, zI J n_p1 f_p1)]) := by
  refine z_ofZ (cc := cX2_room) (maxL := 7) (ret := (some .int)) 0 0 (by decide) rfl (Nat.le_of_ble_eq_true rfl) [(0, .ref a_t), (1, .int (zi p0)), (2, .ref a_p1), (3, .int (zi p2))] rfl ?_
  intro p e s m args below meth c A
  unfold sh_X2_room at hsh
  refine z_bipush (pc' := 2) dX2_room_0 (by decide) rfl ?_
  refine z_istore (pc' := 4) [(4, .int (zi (54 : Int))), (0, .ref a_t), (1, .int (zi p0)), (2, .ref a_p1), (3, .int (zi p2))] dX2_room_2 (by decide) rfl rfl ?_
  refine z_iconst (pc' := 5) dX2_room_4 rfl ?_
  refine z_istore (pc' := 7) [(5, .int (zi (0 : Int))), (4, .int (zi (54 : Int))), (0, .ref a_t), (1, .int (zi p0)), (2, .ref a_p1), (3, .int (zi p2))] dX2_room_5 (by decide) rfl rfl ?_
  refine z_perm [(a_t, .inr (2, [.ref a_t_rowOf, .ref a_t_columnOf, .ref a_t_neighbours, .ref a_t_neighbourCount, .int (zi c_t_size)])), (a_t_neighbours, zI J 64 f_t_neighbours), (a_t_neighbourCount, zI J 16 f_t_neighbourCount), (a_p1, zI J n_p1 f_p1)] [(0, .ref a_t), (1, .int (zi p0)), (2, .ref a_p1), (3, .int (zi p2)), (4, .int (zi (54 : Int))), (5, .int (zi (0 : Int)))] [0, 1, 2, 3] [2, 3, 4, 5, 1, 0] rfl rfl rfl ?_
  refine zl_X2_room_L7 (F := F) (hn_p1 := hn_p1) (hk := fun v13 v14 hsh => ?_) _ _ _ hsh
  refine z_iload (pc' := 56) 0 dX2_room_54 rfl rfl ?_
  cases hsh
  exact z_iret rfl dX2_room_56 ⟨rfl, rfl⟩
def sh_X2_degree (F : Nat) (f_t_neighbourCount : Nat → Int) (p0 : Int) : Option (Int) := zkx p0 16 (some ((f_t_neighbourCount (p0).toNat)))
theorem mX2_degree_f21 : Cond.fieldLink RX2 21 (TX2 3).1 (TX2 3).2.1 (TX2 3).2.2.1 ∈ wsX2_degree := List.mem_of_getElem? (i := 1) rfl
theorem iX2_degree_X2 : ∀ w ∈ wsX20, w ∈ wsX2_degree := fun _ h => (List.mem_cons_of_mem _ (List.mem_append_right _ h))
set_option maxRecDepth 100000 in
set_option maxHeartbeats 4000000 in
theorem zc_X2_degree (l : Launch) (D : va_G) (J : Nat → ClassId) (F : Nat) (a_t : Nat) (a_t_rowOf : Nat) (a_t_columnOf : Nat) (a_t_neighbours : Nat) (a_t_neighbourCount : Nat) (c_t_size : Int) (f_t_neighbourCount : Nat → Int) (p0 : Int) (res : Int) (hsh : sh_X2_degree F f_t_neighbourCount p0 = some res) : ZM l D J yX2_degree wsX2_degree ({ frames := 0, cells := 0, slots := 0, locals := 0 } : Room) 0 0 [.ref a_t, .int (zi p0)] [(a_t, .inr (2, [.ref a_t_rowOf, .ref a_t_columnOf, .ref a_t_neighbours, .ref a_t_neighbourCount, .int (zi c_t_size)])), (a_t_neighbourCount, zI J 16 f_t_neighbourCount)] (fun rv w9 => rv = some (.int (zi res)) ∧ w9 = [(a_t, .inr (2, [.ref a_t_rowOf, .ref a_t_columnOf, .ref a_t_neighbours, .ref a_t_neighbourCount, .int (zi c_t_size)])), (a_t_neighbourCount, zI J 16 f_t_neighbourCount)]) := by
  refine z_ofZ (cc := cX2_degree) (maxL := 2) (ret := (some .int)) 0 0 (by decide) rfl (Nat.le_of_ble_eq_true rfl) [(0, .ref a_t), (1, .int (zi p0))] rfl ?_
  intro p e s m args below meth c A
  unfold sh_X2_degree at hsh
  refine z_aload_n (pc' := 1) 0 dX2_degree_0 rfl rfl rfl ?_
  refine z_getfield (pc' := 4) (C := RX2) (T := TX2) (N := 5) 0 3 dX2_degree_1 iX2_degree_X2 rfl rfl (by decide) mX2_degree_f21 rfl rfl ?_
  refine z_iload_n (pc' := 5) 1 dX2_degree_4 rfl rfl rfl ?_
  have g1 := zkx_p hsh
  replace hsh := zkx_k hsh
  refine z_iaload (pc' := 6) 1 dX2_degree_5 rfl (by decide) g1 rfl ?_
  cases hsh
  exact z_iret rfl dX2_degree_6 ⟨rfl, rfl⟩
def sh_X2_neighbour (F : Nat) (f_t_neighbours : Nat → Int) (p0 : Int) (p1 : Int) : Option (Int) := zkx ((p0 * (4 : Int)) + p1) 64 (some ((f_t_neighbours (((p0 * (4 : Int)) + p1)).toNat)))
theorem mX2_neighbour_f18 : Cond.fieldLink RX2 18 (TX2 2).1 (TX2 2).2.1 (TX2 2).2.2.1 ∈ wsX2_neighbour := List.mem_of_getElem? (i := 1) rfl
theorem iX2_neighbour_X2 : ∀ w ∈ wsX20, w ∈ wsX2_neighbour := fun _ h => (List.mem_cons_of_mem _ (List.mem_append_right _ h))
set_option maxRecDepth 100000 in
set_option maxHeartbeats 4000000 in
theorem zc_X2_neighbour (l : Launch) (D : va_G) (J : Nat → ClassId) (F : Nat) (a_t : Nat) (a_t_rowOf : Nat) (a_t_columnOf : Nat) (a_t_neighbours : Nat) (a_t_neighbourCount : Nat) (c_t_size : Int) (f_t_neighbours : Nat → Int) (p0 : Int) (p1 : Int) (res : Int) (hsh : sh_X2_neighbour F f_t_neighbours p0 p1 = some res) : ZM l D J yX2_neighbour wsX2_neighbour ({ frames := 0, cells := 0, slots := 0, locals := 0 } : Room) 0 0 [.ref a_t, .int (zi p0), .int (zi p1)] [(a_t, .inr (2, [.ref a_t_rowOf, .ref a_t_columnOf, .ref a_t_neighbours, .ref a_t_neighbourCount, .int (zi c_t_size)])), (a_t_neighbours, zI J 64 f_t_neighbours)] (fun rv w9 => rv = some (.int (zi res)) ∧ w9 = [(a_t, .inr (2, [.ref a_t_rowOf, .ref a_t_columnOf, .ref a_t_neighbours, .ref a_t_neighbourCount, .int (zi c_t_size)])), (a_t_neighbours, zI J 64 f_t_neighbours)]) := by
  refine z_ofZ (cc := cX2_neighbour) (maxL := 3) (ret := (some .int)) 0 0 (by decide) rfl (Nat.le_of_ble_eq_true rfl) [(0, .ref a_t), (1, .int (zi p0)), (2, .int (zi p1))] rfl ?_
  intro p e s m args below meth c A
  unfold sh_X2_neighbour at hsh
  refine z_aload_n (pc' := 1) 0 dX2_neighbour_0 rfl rfl rfl ?_
  refine z_getfield (pc' := 4) (C := RX2) (T := TX2) (N := 5) 0 2 dX2_neighbour_1 iX2_neighbour_X2 rfl rfl (by decide) mX2_neighbour_f18 rfl rfl ?_
  refine z_iload_n (pc' := 5) 1 dX2_neighbour_4 rfl rfl rfl ?_
  refine z_iconst (pc' := 6) dX2_neighbour_5 rfl ?_
  refine z_imul (pc' := 7) dX2_neighbour_6 rfl ?_
  refine z_iload_n (pc' := 8) 2 dX2_neighbour_7 rfl rfl rfl ?_
  refine z_iadd (pc' := 9) dX2_neighbour_8 rfl ?_
  have g1 := zkx_p hsh
  replace hsh := zkx_k hsh
  refine z_iaload (pc' := 10) 1 dX2_neighbour_9 rfl (by decide) g1 rfl ?_
  cases hsh
  exact z_iret rfl dX2_neighbour_10 ⟨rfl, rfl⟩
def sh_X2_init (F : Nat) : Option (Unit) := some (())
theorem mX2_init_oi : Cond.methodLink RX2 3 objectInit ∈ wsX2_init := List.mem_of_getElem? (i := 1) rfl
theorem mX2_init_oim : Cond.instanceMethod objectInit ∈ wsX2_init := List.mem_of_getElem? (i := 2) rfl
theorem mX2_init_oic : Cond.code objectInit ⟨#[0xb1]⟩ 1 none ∈ wsX2_init := List.mem_of_getElem? (i := 3) rfl
theorem mX2_init_aint : Cond.arrayClass .int ∈ wsX2_init := List.mem_of_getElem? (i := 4) rfl
theorem mX2_init_f9 : Cond.fieldLink RX2 9 (TX2 0).1 (TX2 0).2.1 (TX2 0).2.2.1 ∈ wsX2_init := List.mem_of_getElem? (i := 5) rfl
theorem iX2_init_X2 : ∀ w ∈ wsX20, w ∈ wsX2_init := fun _ h => (List.mem_cons_of_mem _ (List.mem_append_right _ h))
theorem mX2_init_f15 : Cond.fieldLink RX2 15 (TX2 1).1 (TX2 1).2.1 (TX2 1).2.2.1 ∈ wsX2_init := List.mem_of_getElem? (i := 6) rfl
theorem mX2_init_f18 : Cond.fieldLink RX2 18 (TX2 2).1 (TX2 2).2.1 (TX2 2).2.2.1 ∈ wsX2_init := List.mem_of_getElem? (i := 7) rfl
theorem mX2_init_f21 : Cond.fieldLink RX2 21 (TX2 3).1 (TX2 3).2.1 (TX2 3).2.2.1 ∈ wsX2_init := List.mem_of_getElem? (i := 8) rfl
set_option maxRecDepth 100000 in
set_option maxHeartbeats 4000000 in
theorem zc_X2_init (l : Launch) (D : va_G) (J : Nat → ClassId) (F : Nat) (a_t : Nat) (res : Unit) (hsh : sh_X2_init F = some res) : ZM l D J yX2_init wsX2_init ({ frames := 1, cells := 4, slots := 112, locals := 20 } : Room) 4 112 [.ref a_t] [(a_t, .inr (2, [.null, .null, .null, .null, .int (zi (0 : Int))]))] (fun rv w9 => rv = none ∧ ∃ a_t_rowOf a_t_columnOf a_t_neighbours a_t_neighbourCount : Nat, w9 = [(a_t, .inr (2, [.ref a_t_rowOf, .ref a_t_columnOf, .ref a_t_neighbours, .ref a_t_neighbourCount, .int (zi (0 : Int))])), (a_t_rowOf, zI J 16 (fun _ => 0)), (a_t_columnOf, zI J 16 (fun _ => 0)), (a_t_neighbours, zI J 64 (fun _ => 0)), (a_t_neighbourCount, zI J 16 (fun _ => 0))]) := by
  refine z_ofZ (cc := cX2_init) (maxL := 1) (ret := none) 4 112 (by decide) rfl (Nat.le_of_ble_eq_true rfl) [(0, .ref a_t)] rfl ?_
  intro p e s m args below meth c A
  unfold sh_X2_init at hsh
  refine z_aload_n (pc' := 1) 0 dX2_init_0 rfl rfl rfl ?_
  refine z_objInit (pc' := 4) dX2_init_1 mX2_init_oi mX2_init_oim mX2_init_oic (Nat.le_of_ble_eq_true rfl) (Nat.le_of_ble_eq_true rfl) rfl ?_
  refine z_aload_n (pc' := 5) 0 dX2_init_4 rfl rfl rfl ?_
  refine z_bipush (pc' := 7) dX2_init_5 (by decide) rfl ?_
  refine z_newarr_int (pc' := 9) 16 1 16 dX2_init_7 mX2_init_aint rfl (by decide) rfl rfl (Nat.le_of_ble_eq_true rfl) (Nat.le_of_ble_eq_true rfl) rfl (fun b1 => ?_)
  refine z_ws [(a_t, .inr (2, [.null, .null, .null, .null, .int (zi (0 : Int))])), (b1, zI J 16 (fun _ => 0))] rfl ?_
  refine z_putfin (pc' := 12) (C := RX2) (T := TX2) (N := 5) (ty := tyX2 0) 0 0 [(a_t, .inr (2, [.ref b1, .null, .null, .null, .int (zi (0 : Int))])), (b1, zI J 16 (fun _ => 0))] tyX2 tyX2_ok nmX2 dX2_init_9 iX2_init_X2 rfl rfl (by decide) mX2_init_f9 rfl rfl rfl (tyX2_ok 0 (by decide)) rfl rfl (Nat.le_of_ble_eq_true rfl) rfl rfl ?_
  refine z_aload_n (pc' := 13) 0 dX2_init_12 rfl rfl rfl ?_
  refine z_bipush (pc' := 15) dX2_init_13 (by decide) rfl ?_
  refine z_newarr_int (pc' := 17) 16 2 32 dX2_init_15 mX2_init_aint rfl (by decide) rfl rfl (Nat.le_of_ble_eq_true rfl) (Nat.le_of_ble_eq_true rfl) rfl (fun b2 => ?_)
  refine z_ws [(a_t, .inr (2, [.ref b1, .null, .null, .null, .int (zi (0 : Int))])), (b1, zI J 16 (fun _ => 0)), (b2, zI J 16 (fun _ => 0))] rfl ?_
  refine z_putfin (pc' := 20) (C := RX2) (T := TX2) (N := 5) (ty := tyX2 1) 0 1 [(a_t, .inr (2, [.ref b1, .ref b2, .null, .null, .int (zi (0 : Int))])), (b1, zI J 16 (fun _ => 0)), (b2, zI J 16 (fun _ => 0))] tyX2 tyX2_ok nmX2 dX2_init_17 iX2_init_X2 rfl rfl (by decide) mX2_init_f15 rfl rfl rfl (tyX2_ok 1 (by decide)) rfl rfl (Nat.le_of_ble_eq_true rfl) rfl rfl ?_
  refine z_aload_n (pc' := 21) 0 dX2_init_20 rfl rfl rfl ?_
  refine z_bipush (pc' := 23) dX2_init_21 (by decide) rfl ?_
  refine z_newarr_int (pc' := 25) 64 3 96 dX2_init_23 mX2_init_aint rfl (by decide) rfl rfl (Nat.le_of_ble_eq_true rfl) (Nat.le_of_ble_eq_true rfl) rfl (fun b3 => ?_)
  refine z_ws [(a_t, .inr (2, [.ref b1, .ref b2, .null, .null, .int (zi (0 : Int))])), (b1, zI J 16 (fun _ => 0)), (b2, zI J 16 (fun _ => 0)), (b3, zI J 64 (fun _ => 0))] rfl ?_
  refine z_putfin (pc' := 28) (C := RX2) (T := TX2) (N := 5) (ty := tyX2 2) 0 2 [(a_t, .inr (2, [.ref b1, .ref b2, .ref b3, .null, .int (zi (0 : Int))])), (b1, zI J 16 (fun _ => 0)), (b2, zI J 16 (fun _ => 0)), (b3, zI J 64 (fun _ => 0))] tyX2 tyX2_ok nmX2 dX2_init_25 iX2_init_X2 rfl rfl (by decide) mX2_init_f18 rfl rfl rfl (tyX2_ok 2 (by decide)) rfl rfl (Nat.le_of_ble_eq_true rfl) rfl rfl ?_
  refine z_aload_n (pc' := 29) 0 dX2_init_28 rfl rfl rfl ?_
  refine z_bipush (pc' := 31) dX2_init_29 (by decide) rfl ?_
  refine z_newarr_int (pc' := 33) 16 4 112 dX2_init_31 mX2_init_aint rfl (by decide) rfl rfl (Nat.le_of_ble_eq_true rfl) (Nat.le_of_ble_eq_true rfl) rfl (fun b4 => ?_)
  refine z_ws [(a_t, .inr (2, [.ref b1, .ref b2, .ref b3, .null, .int (zi (0 : Int))])), (b1, zI J 16 (fun _ => 0)), (b2, zI J 16 (fun _ => 0)), (b3, zI J 64 (fun _ => 0)), (b4, zI J 16 (fun _ => 0))] rfl ?_
  refine z_putfin (pc' := 36) (C := RX2) (T := TX2) (N := 5) (ty := tyX2 3) 0 3 [(a_t, .inr (2, [.ref b1, .ref b2, .ref b3, .ref b4, .int (zi (0 : Int))])), (b1, zI J 16 (fun _ => 0)), (b2, zI J 16 (fun _ => 0)), (b3, zI J 64 (fun _ => 0)), (b4, zI J 16 (fun _ => 0))] tyX2 tyX2_ok nmX2 dX2_init_33 iX2_init_X2 rfl rfl (by decide) mX2_init_f21 rfl rfl rfl (tyX2_ok 3 (by decide)) rfl rfl (Nat.le_of_ble_eq_true rfl) rfl rfl ?_
  cases hsh
  exact z_vret rfl dX2_init_36 ⟨rfl, b1, b2, b3, b4, rfl⟩
